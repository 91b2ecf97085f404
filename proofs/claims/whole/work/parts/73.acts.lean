/-! THE CLASS'S LEAD, PIPE, FROST, READING -/
theorem tv_hQ {d mi pc N sl : Nat} {ls : am_L} {st : List Value} {K : Nat → Nat × Nat} {I : Nat → Nat → Int32} {L : Nat → Nat → Int64} {Q Q' : Nat → Nat → Option Nat} {P : Option Value → am_H → Prop} (e : Q = Q') (k1 : am_T d mi pc ls st (N, sl, K, I, L, Q') P) : am_T d mi pc ls st (N, sl, K, I, L, Q) P := by rw [e]; exact k1
def vlLead (t a x c : Int32) : Prop := ¬ sp_isWithin t.toInt64 1 1000 = 0 ∧ ¬ sp_isWithin a.toInt64 (-20000) 20000 = 0 ∧ ¬ sp_areDays x c = 0
def vlPipe (x c l : Int32) : Prop := ¬ sp_isDay x = 0 ∧ ¬ sp_isColumn c = 0 ∧ ¬ sp_isWithin l.toInt64 1 1000 = 0
def vlFrost (x c : Int32) : Prop := ¬ sp_isDay x = 0 ∧ ¬ sp_isColumn c = 0
def vlRead (g x e : Int32) : Prop := ¬ sp_isGauge g = 0 ∧ ¬ sp_isDay x = 0 ∧ ¬ sp_isWithin e.toInt64 (-1000000000) 1000000000 = 0
/-- refs of a new act -/
def qNew (q : Nat → Nat → Option Nat) (n : Nat) (o : Option Nat) : Nat → Nat → Option Nat := va_up q n (va_up (fun _ => none) 6 o)
theorem qNew_e {q : Nat → Nat → Option Nat} {n : Nat} {o : Option Nat} : va_up (va_up q n (fun _ => none)) n (va_up ((va_up q n (fun _ => none)) n) 6 o) = qNew q n o := by rw [va_uu, va_e1]; rfl
def wrP (n sl : Nat) (kk : Nat → Nat × Nat) (q1 : Nat → Nat → Option Nat) (X0 X : Nat → Nat → Int32) (C : Nat) (ah : Nat → Nat) (r : Nat → Int32) (I : Nat → Nat → Int32) (L : Nat → Nat → Int64) (rv : Option Value) (h' : am_H) : Prop := rv = some (.int (nI (C + 1))) ∧ ∃ I' L' R, h' = (n + 1, sl, wKK (va_up kk n (0, 0)), I', L', wQQ (va_up q1 56 (va_up (q1 56) C (some n)))) ∧ cGr (n + 1) (va_up kk n (0, 0)) (va_up q1 56 (va_up (q1 56) C (some n))) I' L' X (C + 1) (ahN ah C n) ∧ LI X (C + 1) (ahN ah C n) (kn X0) (kn X) R (va_up (va_up I n r) 55 (upd ((va_up I n r) 55) 2 (nI (C + 1)))) (va_up L n (fun _ => 0)) I' L' (C + 1)
/-- a new act that finds no room -/
def gaP (n sl : Nat) (kk : Nat → Nat × Nat) (q1 : Nat → Nat → Option Nat) (r : Nat → Int32) (I : Nat → Nat → Int32) (L : Nat → Nat → Int64) (rv : Option Value) (h' : am_H) : Prop := rv = some (.int (-1)) ∧ h' = (n + 1, sl, wKK (va_up kk n (0, 0)), va_up I n r, va_up L n (fun _ => 0), wQQ q1)
theorem cAct_0 {I X : Nat → Nat → Int32} {n m : Nat} {x c t a : Int32} (e1 : X 107 m = 0) (e2 : X 108 m = x) (e3 : X 109 m = t) (e4 : X 110 m = a) (e5 : X 111 m = c) (e6 : X 112 m = 0) : cAct (va_up I n (acR 0 x c 0 t a)) X m n := by
  unfold cAct
  rw [va_e1, e1, e2, e3, e4, e5, e6]
  exact ⟨rfl, rfl, rfl, fun _ => ⟨rfl, rfl, rfl, rfl⟩, fun z => absurd z (by decide), fun z => absurd z (by decide), fun z => absurd z (by decide)⟩
theorem cAct_1 {I X : Nat → Nat → Int32} {n m : Nat} {x c l : Int32} (e1 : X 107 m = 1) (e2 : X 108 m = x) (e3 : X 109 m = c) (e4 : X 110 m = l) (e6 : X 112 m = 0) : cAct (va_up I n (acR 1 x x c l 0)) X m n := by
  unfold cAct
  rw [va_e1, e1, e2, e3, e4, e6]
  exact ⟨rfl, rfl, rfl, fun z => absurd z (by decide), fun _ => ⟨rfl, rfl, rfl⟩, fun z => absurd z (by decide), fun z => absurd z (by decide)⟩
theorem cAct_2 {I X : Nat → Nat → Int32} {n m : Nat} {x c : Int32} (e1 : X 107 m = 2) (e2 : X 108 m = x) (e3 : X 109 m = c) (e6 : X 112 m = 0) : cAct (va_up I n (acR 2 x x c 1 0)) X m n := by
  unfold cAct
  rw [va_e1, e1, e2, e3, e6]
  exact ⟨rfl, rfl, rfl, fun z => absurd z (by decide), fun z => absurd z (by decide), fun _ => ⟨rfl, rfl, rfl⟩, fun z => absurd z (by decide)⟩
theorem cAct_3 {I X : Nat → Nat → Int32} {n m : Nat} {x g e : Int32} (e1 : X 107 m = 3) (e2 : X 108 m = x) (e3 : X 109 m = g) (e4 : X 110 m = e) (e6 : X 112 m = 0) : cAct (va_up I n (acR 3 x x g e 0)) X m n := by
  unfold cAct
  rw [va_e1, e1, e2, e3, e4, e6]
  exact ⟨rfl, rfl, rfl, fun z => absurd z (by decide), fun z => absurd z (by decide), fun z => absurd z (by decide), fun _ => ⟨rfl, rfl⟩⟩
theorem cAct_4 {I X : Nat → Nat → Int32} {n m : Nat} {x : Int32} (e1 : X 107 m = 4) (e2 : X 108 m = x) (e6 : X 112 m = 0) : cAct (va_up I n (acR 4 x x 0 0 0)) X m n := by
  unfold cAct
  rw [va_e1, e1, e2, e6]
  exact ⟨rfl, rfl, rfl, fun z => absurd z (by decide), fun z => absurd z (by decide), fun z => absurd z (by decide), fun z => absurd z (by decide)⟩
theorem cAct_5 {I X : Nat → Nat → Int32} {n m : Nat} (e1 : X 107 m = 5) (e2 : X 108 m = 0) (e6 : X 112 m = 0) : cAct (va_up I n (acR 5 0 0 0 0 0)) X m n := by
  unfold cAct
  rw [va_e1, e1, e2, e6]
  exact ⟨rfl, rfl, rfl, fun z => absurd z (by decide), fun z => absurd z (by decide), fun z => absurd z (by decide), fun z => absurd z (by decide)⟩
theorem ev_b_writeF {d n sl : Nat} {kk : Nat → Nat × Nat} {I : Nat → Nat → Int32} {L : Nat → Nat → Int64} {q : Nat → Nat → Option Nat} {a : Nat} (h2 : I 55 2 = nI 200) : am_Ev (d + 1) 10 0 (am_ent 2 [.ref 55, .ref a]) [] (n, sl, wKK kk, I, L, wQQ q) (some (.int (-1)), (n, sl, wKK kk, I, L, wQQ q)) := by
  refine tv_ev ?_
  show am_T _ _ 0 [some (.ref 55), some (.ref a)] _ _ _
  refine tv_b (pc' := 1) (ls' := [some (.ref 55), some (.ref a)]) (st' := [.ref 55]) (h' := (n, sl, wKK kk, I, L, wQQ q)) 1 rfl ?_
  refine tv_cvE [] [] rfl rfl (by omega) rfl (Nat.le_of_ble_eq_true rfl) (Nat.le_of_ble_eq_true rfl) (Or.inr (Or.inr rfl)) (ev_b_isFull) ?_
  refine tv_b (pc' := (if (sp_b_isFull I L) = 0 then 9 else 7)) (ls' := [some (.ref 55), some (.ref a)]) (st' := []) (h' := (n, sl, wKK kk, I, L, wQQ q)) 1 rfl ?_
  refine tv_f (isF1 h2) ?_
  refine tv_b (pc' := 8) (ls' := [some (.ref 55), some (.ref a)]) (st' := [.int (-1)]) (h' := (n, sl, wKK kk, I, L, wQQ q)) 1 rfl ?_
  exact tv_ri rfl ⟨rfl, rfl⟩
theorem tv_x_lead {d n sl : Nat} {kk : Nat → Nat × Nat} {I : Nat → Nat → Int32} {L : Nat → Nat → Int64} {q : Nat → Nat → Option Nat} {X0 X : Nat → Nat → Int32} {C : Nat} {ah : Nat → Nat} {t a x c : Int32} (hC2 : C < 200) (hB0 : wfB X0) (G : cGr n kk q I L X0 C ah) (hn : 131 ≤ n) (hX : vlLead t a x c → wfB X ∧ enX X0 X C 0 x t a c) (hv : ∀ i, 1 ≤ i → i ≤ C → X 112 i = X0 112 i) : am_T (d + 5) 117 0 (am_ent 5 [.ref 0, .int t, .int a, .int x, .int c]) [] (n, sl, wKK kk, I, L, wQQ q) (fun rv h' => (¬ vlLead t a x c ∧ rv = some (.int (-1)) ∧ h' = (n, sl, wKK kk, I, L, wQQ q)) ∨ (vlLead t a x c ∧ wrP n (sl + 9) kk (qNew q n none) X0 X C ah (acR 0 x c 0 t a) I L rv h')) := by
  obtain ⟨g1, g2, ⟨⟨b1, b2, b3⟩, b4, b5, b6, b7, b8⟩, g4, g5⟩ := G
  show am_T _ _ 0 [some (.ref 0), some (.int t), some (.int a), some (.int x), some (.int c)] _ _ _
  refine tv_b (pc' := 6) (ls' := [some (.ref 0), some (.int t), some (.int a), some (.int x), some (.int c)]) (st' := [.long 1000, .long 1, .long t.toInt64]) (h' := (n, sl, wKK kk, I, L, wQQ q)) 4 rfl ?_
  refine tv_csE [.long t.toInt64, .long 1, .long 1000] [] rfl rfl (by omega) rfl (Nat.le_of_ble_eq_true rfl) (Nat.le_of_ble_eq_true rfl) (ev_isWithin) ?_
  refine tv_b (pc' := (if (sp_isWithin t.toInt64 1 1000) = 0 then 35 else 12)) (ls' := [some (.ref 0), some (.int t), some (.int a), some (.int x), some (.int c)]) (st' := []) (h' := (n, sl, wKK kk, I, L, wQQ q)) 1 rfl ?_
  refine tv_if (fun c9 => ?_) (fun c9 => ?_)
  · refine tv_b (pc' := 36) (ls' := [some (.ref 0), some (.int t), some (.int a), some (.int x), some (.int c)]) (st' := [.int (-1)]) (h' := (n, sl, wKK kk, I, L, wQQ q)) 1 rfl ?_
    exact tv_ri rfl (Or.inl ⟨fun z => z.1 c9, rfl, rfl⟩)
  · refine tv_b (pc' := 20) (ls' := [some (.ref 0), some (.int t), some (.int a), some (.int x), some (.int c)]) (st' := [.long 20000, .long (-20000), .long a.toInt64]) (h' := (n, sl, wKK kk, I, L, wQQ q)) 4 rfl ?_
    refine tv_csE [.long a.toInt64, .long (-20000), .long 20000] [] rfl rfl (by omega) rfl (Nat.le_of_ble_eq_true rfl) (Nat.le_of_ble_eq_true rfl) (ev_isWithin) ?_
    refine tv_b (pc' := (if (sp_isWithin a.toInt64 (-20000) 20000) = 0 then 35 else 26)) (ls' := [some (.ref 0), some (.int t), some (.int a), some (.int x), some (.int c)]) (st' := []) (h' := (n, sl, wKK kk, I, L, wQQ q)) 1 rfl ?_
    refine tv_if (fun c23 => ?_) (fun c23 => ?_)
    · refine tv_b (pc' := 36) (ls' := [some (.ref 0), some (.int t), some (.int a), some (.int x), some (.int c)]) (st' := [.int (-1)]) (h' := (n, sl, wKK kk, I, L, wQQ q)) 1 rfl ?_
      exact tv_ri rfl (Or.inl ⟨fun z => z.2.1 c23, rfl, rfl⟩)
    · refine tv_b (pc' := 29) (ls' := [some (.ref 0), some (.int t), some (.int a), some (.int x), some (.int c)]) (st' := [.int c, .int x]) (h' := (n, sl, wKK kk, I, L, wQQ q)) 2 rfl ?_
      refine tv_csE [.int x, .int c] [] rfl rfl (by omega) rfl (Nat.le_of_ble_eq_true rfl) (Nat.le_of_ble_eq_true rfl) (ev_areDays) ?_
      refine tv_b (pc' := (if (sp_areDays x c) = 0 then 35 else 37)) (ls' := [some (.ref 0), some (.int t), some (.int a), some (.int x), some (.int c)]) (st' := []) (h' := (n, sl, wKK kk, I, L, wQQ q)) 1 rfl ?_
      refine tv_if (fun c32 => ?_) (fun c32 => ?_)
      · refine tv_b (pc' := 36) (ls' := [some (.ref 0), some (.int t), some (.int a), some (.int x), some (.int c)]) (st' := [.int (-1)]) (h' := (n, sl, wKK kk, I, L, wQQ q)) 1 rfl ?_
        exact tv_ri rfl (Or.inl ⟨fun z => z.2.2 c32, rfl, rfl⟩)
      · refine tv_b (pc' := 41) (ls' := [some (.ref 0), some (.int t), some (.int a), some (.int x), some (.int c)]) (st' := [.ref 55]) (h' := (n, sl, wKK kk, I, L, wQQ q)) 2 rfl ?_
        refine tv_newa rfl hn ?_
        refine tv_b (pc' := 53) (ls' := [some (.ref 0), some (.int t), some (.int a), some (.int x), some (.int c)]) (st' := [.null, .int a, .int t, .int 0, .int c, .int x, .int 0, .ref n, .ref n, .ref 55]) (h' := (n + 1, sl + 9, wKK (va_up kk n (0, 0)), va_up I n (fun _ => 0), va_up L n (fun _ => 0), wQQ (va_up q n (fun _ => none)))) 8 rfl ?_
        refine tv_cvE [.int 0, .int x, .int c, .int 0, .int t, .int a, .null] [.ref n, .ref 55] rfl rfl (by omega) rfl (Nat.le_of_ble_eq_true rfl) (Nat.le_of_ble_eq_true rfl) (Or.inl rfl) (ev_a_init (o := none) rfl ⟨hn, va_e1⟩ va_e1) ?_
        refine tv_hI (I' := va_up I n (acR 0 x c 0 t a)) va_uu ?_
        refine tv_hQ (Q' := wQQ (qNew q n none)) (by rw [qNew_e]) ?_
        obtain ⟨hB, hen⟩ := hX ⟨c9, c23, c32⟩
        have hbX := hen
        obtain ⟨e0, e1, e2, e3, e4, e5, e6, e7, e8, e9, e10⟩ := hbX
        refine tv_cv [.ref n] [] rfl rfl (by omega) rfl (Nat.le_of_ble_eq_true rfl) (Nat.le_of_ble_eq_true rfl) (Or.inr (Or.inr rfl)) (tv_b_wrn (s := 0) (x := x) (a := t) (b := a) (c := c) hC2 hB0 hB hen g1 g2 b1 b2 b3 (fun i hi => cAct_r rfl ⟨(e4 (i + 1) (by omega) (by omega)).1, (e4 (i + 1) (by omega) (by omega)).2.1, (e4 (i + 1) (by omega) (by omega)).2.2.1, (e4 (i + 1) (by omega) (by omega)).2.2.2.1, (e4 (i + 1) (by omega) (by omega)).2.2.2.2, (hv (i + 1) (by omega) (by omega)).symm⟩ (b5 i hi)) (cAct_0 e5 e6 e7 e8 e9 e10) rfl b6 b7 b8 g4 g5 hn (va_n1 (show 56 ≠ n by omega))) ?_
        rintro rv9 h9 ⟨rfl, I9, L9, R9, rfl, g9, l9⟩
        exact tv_ri rfl (Or.inr ⟨⟨c9, c23, c32⟩, rfl, I9, L9, R9, rfl, g9, l9⟩)
theorem tv_x_leadF {d n sl : Nat} {kk : Nat → Nat × Nat} {I : Nat → Nat → Int32} {L : Nat → Nat → Int64} {q : Nat → Nat → Option Nat} {t a x c : Int32} (h2 : I 55 2 = nI 200) (hn : 131 ≤ n) : am_T (d + 5) 117 0 (am_ent 5 [.ref 0, .int t, .int a, .int x, .int c]) [] (n, sl, wKK kk, I, L, wQQ q) (fun rv h' => (¬ vlLead t a x c ∧ rv = some (.int (-1)) ∧ h' = (n, sl, wKK kk, I, L, wQQ q)) ∨ (vlLead t a x c ∧ gaP n (sl + 9) kk (qNew q n none) (acR 0 x c 0 t a) I L rv h')) := by
  show am_T _ _ 0 [some (.ref 0), some (.int t), some (.int a), some (.int x), some (.int c)] _ _ _
  refine tv_b (pc' := 6) (ls' := [some (.ref 0), some (.int t), some (.int a), some (.int x), some (.int c)]) (st' := [.long 1000, .long 1, .long t.toInt64]) (h' := (n, sl, wKK kk, I, L, wQQ q)) 4 rfl ?_
  refine tv_csE [.long t.toInt64, .long 1, .long 1000] [] rfl rfl (by omega) rfl (Nat.le_of_ble_eq_true rfl) (Nat.le_of_ble_eq_true rfl) (ev_isWithin) ?_
  refine tv_b (pc' := (if (sp_isWithin t.toInt64 1 1000) = 0 then 35 else 12)) (ls' := [some (.ref 0), some (.int t), some (.int a), some (.int x), some (.int c)]) (st' := []) (h' := (n, sl, wKK kk, I, L, wQQ q)) 1 rfl ?_
  refine tv_if (fun c9 => ?_) (fun c9 => ?_)
  · refine tv_b (pc' := 36) (ls' := [some (.ref 0), some (.int t), some (.int a), some (.int x), some (.int c)]) (st' := [.int (-1)]) (h' := (n, sl, wKK kk, I, L, wQQ q)) 1 rfl ?_
    exact tv_ri rfl (Or.inl ⟨fun z => z.1 c9, rfl, rfl⟩)
  · refine tv_b (pc' := 20) (ls' := [some (.ref 0), some (.int t), some (.int a), some (.int x), some (.int c)]) (st' := [.long 20000, .long (-20000), .long a.toInt64]) (h' := (n, sl, wKK kk, I, L, wQQ q)) 4 rfl ?_
    refine tv_csE [.long a.toInt64, .long (-20000), .long 20000] [] rfl rfl (by omega) rfl (Nat.le_of_ble_eq_true rfl) (Nat.le_of_ble_eq_true rfl) (ev_isWithin) ?_
    refine tv_b (pc' := (if (sp_isWithin a.toInt64 (-20000) 20000) = 0 then 35 else 26)) (ls' := [some (.ref 0), some (.int t), some (.int a), some (.int x), some (.int c)]) (st' := []) (h' := (n, sl, wKK kk, I, L, wQQ q)) 1 rfl ?_
    refine tv_if (fun c23 => ?_) (fun c23 => ?_)
    · refine tv_b (pc' := 36) (ls' := [some (.ref 0), some (.int t), some (.int a), some (.int x), some (.int c)]) (st' := [.int (-1)]) (h' := (n, sl, wKK kk, I, L, wQQ q)) 1 rfl ?_
      exact tv_ri rfl (Or.inl ⟨fun z => z.2.1 c23, rfl, rfl⟩)
    · refine tv_b (pc' := 29) (ls' := [some (.ref 0), some (.int t), some (.int a), some (.int x), some (.int c)]) (st' := [.int c, .int x]) (h' := (n, sl, wKK kk, I, L, wQQ q)) 2 rfl ?_
      refine tv_csE [.int x, .int c] [] rfl rfl (by omega) rfl (Nat.le_of_ble_eq_true rfl) (Nat.le_of_ble_eq_true rfl) (ev_areDays) ?_
      refine tv_b (pc' := (if (sp_areDays x c) = 0 then 35 else 37)) (ls' := [some (.ref 0), some (.int t), some (.int a), some (.int x), some (.int c)]) (st' := []) (h' := (n, sl, wKK kk, I, L, wQQ q)) 1 rfl ?_
      refine tv_if (fun c32 => ?_) (fun c32 => ?_)
      · refine tv_b (pc' := 36) (ls' := [some (.ref 0), some (.int t), some (.int a), some (.int x), some (.int c)]) (st' := [.int (-1)]) (h' := (n, sl, wKK kk, I, L, wQQ q)) 1 rfl ?_
        exact tv_ri rfl (Or.inl ⟨fun z => z.2.2 c32, rfl, rfl⟩)
      · refine tv_b (pc' := 41) (ls' := [some (.ref 0), some (.int t), some (.int a), some (.int x), some (.int c)]) (st' := [.ref 55]) (h' := (n, sl, wKK kk, I, L, wQQ q)) 2 rfl ?_
        refine tv_newa rfl hn ?_
        refine tv_b (pc' := 53) (ls' := [some (.ref 0), some (.int t), some (.int a), some (.int x), some (.int c)]) (st' := [.null, .int a, .int t, .int 0, .int c, .int x, .int 0, .ref n, .ref n, .ref 55]) (h' := (n + 1, sl + 9, wKK (va_up kk n (0, 0)), va_up I n (fun _ => 0), va_up L n (fun _ => 0), wQQ (va_up q n (fun _ => none)))) 8 rfl ?_
        refine tv_cvE [.int 0, .int x, .int c, .int 0, .int t, .int a, .null] [.ref n, .ref 55] rfl rfl (by omega) rfl (Nat.le_of_ble_eq_true rfl) (Nat.le_of_ble_eq_true rfl) (Or.inl rfl) (ev_a_init (o := none) rfl ⟨hn, va_e1⟩ va_e1) ?_
        refine tv_hI (I' := va_up I n (acR 0 x c 0 t a)) va_uu ?_
        refine tv_hQ (Q' := wQQ (qNew q n none)) (by rw [qNew_e]) ?_
        refine tv_cvE [.ref n] [] rfl rfl (by omega) rfl (Nat.le_of_ble_eq_true rfl) (Nat.le_of_ble_eq_true rfl) (Or.inr (Or.inr rfl)) (ev_b_writeF (by rw [va_n1 (show 55 ≠ n by omega)]; exact h2)) ?_
        exact tv_ri rfl (Or.inr ⟨⟨c9, c23, c32⟩, rfl, rfl⟩)
theorem tv_x_pipe {d n sl : Nat} {kk : Nat → Nat × Nat} {I : Nat → Nat → Int32} {L : Nat → Nat → Int64} {q : Nat → Nat → Option Nat} {X0 X : Nat → Nat → Int32} {C : Nat} {ah : Nat → Nat} {x c l : Int32} (hC2 : C < 200) (hB0 : wfB X0) (G : cGr n kk q I L X0 C ah) (hn : 131 ≤ n) (hX : vlPipe x c l → wfB X ∧ enX X0 X C 1 x c l 0) (hv : ∀ i, 1 ≤ i → i ≤ C → X 112 i = X0 112 i) : am_T (d + 5) 118 0 (am_ent 4 [.ref 0, .int x, .int c, .int l]) [] (n, sl, wKK kk, I, L, wQQ q) (fun rv h' => (¬ vlPipe x c l ∧ rv = some (.int (-1)) ∧ h' = (n, sl, wKK kk, I, L, wQQ q)) ∨ (vlPipe x c l ∧ wrP n (sl + 9) kk (qNew q n none) X0 X C ah (acR 1 x x c l 0) I L rv h')) := by
  obtain ⟨g1, g2, ⟨⟨b1, b2, b3⟩, b4, b5, b6, b7, b8⟩, g4, g5⟩ := G
  show am_T _ _ 0 [some (.ref 0), some (.int x), some (.int c), some (.int l)] _ _ _
  refine tv_b (pc' := 1) (ls' := [some (.ref 0), some (.int x), some (.int c), some (.int l)]) (st' := [.int x]) (h' := (n, sl, wKK kk, I, L, wQQ q)) 1 rfl ?_
  refine tv_csE [.int x] [] rfl rfl (by omega) rfl (Nat.le_of_ble_eq_true rfl) (Nat.le_of_ble_eq_true rfl) (ev_isDay) ?_
  refine tv_b (pc' := (if (sp_isDay x) = 0 then 26 else 7)) (ls' := [some (.ref 0), some (.int x), some (.int c), some (.int l)]) (st' := []) (h' := (n, sl, wKK kk, I, L, wQQ q)) 1 rfl ?_
  refine tv_if (fun c4 => ?_) (fun c4 => ?_)
  · refine tv_b (pc' := 27) (ls' := [some (.ref 0), some (.int x), some (.int c), some (.int l)]) (st' := [.int (-1)]) (h' := (n, sl, wKK kk, I, L, wQQ q)) 1 rfl ?_
    exact tv_ri rfl (Or.inl ⟨fun z => z.1 c4, rfl, rfl⟩)
  · refine tv_b (pc' := 8) (ls' := [some (.ref 0), some (.int x), some (.int c), some (.int l)]) (st' := [.int c]) (h' := (n, sl, wKK kk, I, L, wQQ q)) 1 rfl ?_
    refine tv_csE [.int c] [] rfl rfl (by omega) rfl (Nat.le_of_ble_eq_true rfl) (Nat.le_of_ble_eq_true rfl) (ev_isColumn) ?_
    refine tv_b (pc' := (if (sp_isColumn c) = 0 then 26 else 14)) (ls' := [some (.ref 0), some (.int x), some (.int c), some (.int l)]) (st' := []) (h' := (n, sl, wKK kk, I, L, wQQ q)) 1 rfl ?_
    refine tv_if (fun c11 => ?_) (fun c11 => ?_)
    · refine tv_b (pc' := 27) (ls' := [some (.ref 0), some (.int x), some (.int c), some (.int l)]) (st' := [.int (-1)]) (h' := (n, sl, wKK kk, I, L, wQQ q)) 1 rfl ?_
      exact tv_ri rfl (Or.inl ⟨fun z => z.2.1 c11, rfl, rfl⟩)
    · refine tv_b (pc' := 20) (ls' := [some (.ref 0), some (.int x), some (.int c), some (.int l)]) (st' := [.long 1000, .long 1, .long l.toInt64]) (h' := (n, sl, wKK kk, I, L, wQQ q)) 4 rfl ?_
      refine tv_csE [.long l.toInt64, .long 1, .long 1000] [] rfl rfl (by omega) rfl (Nat.le_of_ble_eq_true rfl) (Nat.le_of_ble_eq_true rfl) (ev_isWithin) ?_
      refine tv_b (pc' := (if (sp_isWithin l.toInt64 1 1000) = 0 then 26 else 28)) (ls' := [some (.ref 0), some (.int x), some (.int c), some (.int l)]) (st' := []) (h' := (n, sl, wKK kk, I, L, wQQ q)) 1 rfl ?_
      refine tv_if (fun c23 => ?_) (fun c23 => ?_)
      · refine tv_b (pc' := 27) (ls' := [some (.ref 0), some (.int x), some (.int c), some (.int l)]) (st' := [.int (-1)]) (h' := (n, sl, wKK kk, I, L, wQQ q)) 1 rfl ?_
        exact tv_ri rfl (Or.inl ⟨fun z => z.2.2 c23, rfl, rfl⟩)
      · refine tv_b (pc' := 32) (ls' := [some (.ref 0), some (.int x), some (.int c), some (.int l)]) (st' := [.ref 55]) (h' := (n, sl, wKK kk, I, L, wQQ q)) 2 rfl ?_
        refine tv_newa rfl hn ?_
        refine tv_b (pc' := 43) (ls' := [some (.ref 0), some (.int x), some (.int c), some (.int l)]) (st' := [.null, .int 0, .int l, .int c, .int x, .int x, .int 1, .ref n, .ref n, .ref 55]) (h' := (n + 1, sl + 9, wKK (va_up kk n (0, 0)), va_up I n (fun _ => 0), va_up L n (fun _ => 0), wQQ (va_up q n (fun _ => none)))) 8 rfl ?_
        refine tv_cvE [.int 1, .int x, .int x, .int c, .int l, .int 0, .null] [.ref n, .ref 55] rfl rfl (by omega) rfl (Nat.le_of_ble_eq_true rfl) (Nat.le_of_ble_eq_true rfl) (Or.inl rfl) (ev_a_init (o := none) rfl ⟨hn, va_e1⟩ va_e1) ?_
        refine tv_hI (I' := va_up I n (acR 1 x x c l 0)) va_uu ?_
        refine tv_hQ (Q' := wQQ (qNew q n none)) (by rw [qNew_e]) ?_
        obtain ⟨hB, hen⟩ := hX ⟨c4, c11, c23⟩
        have hbX := hen
        obtain ⟨e0, e1, e2, e3, e4, e5, e6, e7, e8, e9, e10⟩ := hbX
        refine tv_cv [.ref n] [] rfl rfl (by omega) rfl (Nat.le_of_ble_eq_true rfl) (Nat.le_of_ble_eq_true rfl) (Or.inr (Or.inr rfl)) (tv_b_wrn (s := 1) (x := x) (a := c) (b := l) (c := 0) hC2 hB0 hB hen g1 g2 b1 b2 b3 (fun i hi => cAct_r rfl ⟨(e4 (i + 1) (by omega) (by omega)).1, (e4 (i + 1) (by omega) (by omega)).2.1, (e4 (i + 1) (by omega) (by omega)).2.2.1, (e4 (i + 1) (by omega) (by omega)).2.2.2.1, (e4 (i + 1) (by omega) (by omega)).2.2.2.2, (hv (i + 1) (by omega) (by omega)).symm⟩ (b5 i hi)) (cAct_1 e5 e6 e7 e8 e10) rfl b6 b7 b8 g4 g5 hn (va_n1 (show 56 ≠ n by omega))) ?_
        rintro rv9 h9 ⟨rfl, I9, L9, R9, rfl, g9, l9⟩
        exact tv_ri rfl (Or.inr ⟨⟨c4, c11, c23⟩, rfl, I9, L9, R9, rfl, g9, l9⟩)
theorem tv_x_pipeF {d n sl : Nat} {kk : Nat → Nat × Nat} {I : Nat → Nat → Int32} {L : Nat → Nat → Int64} {q : Nat → Nat → Option Nat} {x c l : Int32} (h2 : I 55 2 = nI 200) (hn : 131 ≤ n) : am_T (d + 5) 118 0 (am_ent 4 [.ref 0, .int x, .int c, .int l]) [] (n, sl, wKK kk, I, L, wQQ q) (fun rv h' => (¬ vlPipe x c l ∧ rv = some (.int (-1)) ∧ h' = (n, sl, wKK kk, I, L, wQQ q)) ∨ (vlPipe x c l ∧ gaP n (sl + 9) kk (qNew q n none) (acR 1 x x c l 0) I L rv h')) := by
  show am_T _ _ 0 [some (.ref 0), some (.int x), some (.int c), some (.int l)] _ _ _
  refine tv_b (pc' := 1) (ls' := [some (.ref 0), some (.int x), some (.int c), some (.int l)]) (st' := [.int x]) (h' := (n, sl, wKK kk, I, L, wQQ q)) 1 rfl ?_
  refine tv_csE [.int x] [] rfl rfl (by omega) rfl (Nat.le_of_ble_eq_true rfl) (Nat.le_of_ble_eq_true rfl) (ev_isDay) ?_
  refine tv_b (pc' := (if (sp_isDay x) = 0 then 26 else 7)) (ls' := [some (.ref 0), some (.int x), some (.int c), some (.int l)]) (st' := []) (h' := (n, sl, wKK kk, I, L, wQQ q)) 1 rfl ?_
  refine tv_if (fun c4 => ?_) (fun c4 => ?_)
  · refine tv_b (pc' := 27) (ls' := [some (.ref 0), some (.int x), some (.int c), some (.int l)]) (st' := [.int (-1)]) (h' := (n, sl, wKK kk, I, L, wQQ q)) 1 rfl ?_
    exact tv_ri rfl (Or.inl ⟨fun z => z.1 c4, rfl, rfl⟩)
  · refine tv_b (pc' := 8) (ls' := [some (.ref 0), some (.int x), some (.int c), some (.int l)]) (st' := [.int c]) (h' := (n, sl, wKK kk, I, L, wQQ q)) 1 rfl ?_
    refine tv_csE [.int c] [] rfl rfl (by omega) rfl (Nat.le_of_ble_eq_true rfl) (Nat.le_of_ble_eq_true rfl) (ev_isColumn) ?_
    refine tv_b (pc' := (if (sp_isColumn c) = 0 then 26 else 14)) (ls' := [some (.ref 0), some (.int x), some (.int c), some (.int l)]) (st' := []) (h' := (n, sl, wKK kk, I, L, wQQ q)) 1 rfl ?_
    refine tv_if (fun c11 => ?_) (fun c11 => ?_)
    · refine tv_b (pc' := 27) (ls' := [some (.ref 0), some (.int x), some (.int c), some (.int l)]) (st' := [.int (-1)]) (h' := (n, sl, wKK kk, I, L, wQQ q)) 1 rfl ?_
      exact tv_ri rfl (Or.inl ⟨fun z => z.2.1 c11, rfl, rfl⟩)
    · refine tv_b (pc' := 20) (ls' := [some (.ref 0), some (.int x), some (.int c), some (.int l)]) (st' := [.long 1000, .long 1, .long l.toInt64]) (h' := (n, sl, wKK kk, I, L, wQQ q)) 4 rfl ?_
      refine tv_csE [.long l.toInt64, .long 1, .long 1000] [] rfl rfl (by omega) rfl (Nat.le_of_ble_eq_true rfl) (Nat.le_of_ble_eq_true rfl) (ev_isWithin) ?_
      refine tv_b (pc' := (if (sp_isWithin l.toInt64 1 1000) = 0 then 26 else 28)) (ls' := [some (.ref 0), some (.int x), some (.int c), some (.int l)]) (st' := []) (h' := (n, sl, wKK kk, I, L, wQQ q)) 1 rfl ?_
      refine tv_if (fun c23 => ?_) (fun c23 => ?_)
      · refine tv_b (pc' := 27) (ls' := [some (.ref 0), some (.int x), some (.int c), some (.int l)]) (st' := [.int (-1)]) (h' := (n, sl, wKK kk, I, L, wQQ q)) 1 rfl ?_
        exact tv_ri rfl (Or.inl ⟨fun z => z.2.2 c23, rfl, rfl⟩)
      · refine tv_b (pc' := 32) (ls' := [some (.ref 0), some (.int x), some (.int c), some (.int l)]) (st' := [.ref 55]) (h' := (n, sl, wKK kk, I, L, wQQ q)) 2 rfl ?_
        refine tv_newa rfl hn ?_
        refine tv_b (pc' := 43) (ls' := [some (.ref 0), some (.int x), some (.int c), some (.int l)]) (st' := [.null, .int 0, .int l, .int c, .int x, .int x, .int 1, .ref n, .ref n, .ref 55]) (h' := (n + 1, sl + 9, wKK (va_up kk n (0, 0)), va_up I n (fun _ => 0), va_up L n (fun _ => 0), wQQ (va_up q n (fun _ => none)))) 8 rfl ?_
        refine tv_cvE [.int 1, .int x, .int x, .int c, .int l, .int 0, .null] [.ref n, .ref 55] rfl rfl (by omega) rfl (Nat.le_of_ble_eq_true rfl) (Nat.le_of_ble_eq_true rfl) (Or.inl rfl) (ev_a_init (o := none) rfl ⟨hn, va_e1⟩ va_e1) ?_
        refine tv_hI (I' := va_up I n (acR 1 x x c l 0)) va_uu ?_
        refine tv_hQ (Q' := wQQ (qNew q n none)) (by rw [qNew_e]) ?_
        refine tv_cvE [.ref n] [] rfl rfl (by omega) rfl (Nat.le_of_ble_eq_true rfl) (Nat.le_of_ble_eq_true rfl) (Or.inr (Or.inr rfl)) (ev_b_writeF (by rw [va_n1 (show 55 ≠ n by omega)]; exact h2)) ?_
        exact tv_ri rfl (Or.inr ⟨⟨c4, c11, c23⟩, rfl, rfl⟩)
theorem tv_x_frost {d n sl : Nat} {kk : Nat → Nat × Nat} {I : Nat → Nat → Int32} {L : Nat → Nat → Int64} {q : Nat → Nat → Option Nat} {X0 X : Nat → Nat → Int32} {C : Nat} {ah : Nat → Nat} {x c : Int32} (hC2 : C < 200) (hB0 : wfB X0) (G : cGr n kk q I L X0 C ah) (hn : 131 ≤ n) (hX : vlFrost x c → wfB X ∧ enX X0 X C 2 x c 0 0) (hv : ∀ i, 1 ≤ i → i ≤ C → X 112 i = X0 112 i) : am_T (d + 5) 119 0 (am_ent 3 [.ref 0, .int x, .int c]) [] (n, sl, wKK kk, I, L, wQQ q) (fun rv h' => (¬ vlFrost x c ∧ rv = some (.int (-1)) ∧ h' = (n, sl, wKK kk, I, L, wQQ q)) ∨ (vlFrost x c ∧ wrP n (sl + 9) kk (qNew q n none) X0 X C ah (acR 2 x x c 1 0) I L rv h')) := by
  obtain ⟨g1, g2, ⟨⟨b1, b2, b3⟩, b4, b5, b6, b7, b8⟩, g4, g5⟩ := G
  show am_T _ _ 0 [some (.ref 0), some (.int x), some (.int c)] _ _ _
  refine tv_b (pc' := 1) (ls' := [some (.ref 0), some (.int x), some (.int c)]) (st' := [.int x]) (h' := (n, sl, wKK kk, I, L, wQQ q)) 1 rfl ?_
  refine tv_csE [.int x] [] rfl rfl (by omega) rfl (Nat.le_of_ble_eq_true rfl) (Nat.le_of_ble_eq_true rfl) (ev_isDay) ?_
  refine tv_b (pc' := (if (sp_isDay x) = 0 then 14 else 7)) (ls' := [some (.ref 0), some (.int x), some (.int c)]) (st' := []) (h' := (n, sl, wKK kk, I, L, wQQ q)) 1 rfl ?_
  refine tv_if (fun c4 => ?_) (fun c4 => ?_)
  · refine tv_b (pc' := 15) (ls' := [some (.ref 0), some (.int x), some (.int c)]) (st' := [.int (-1)]) (h' := (n, sl, wKK kk, I, L, wQQ q)) 1 rfl ?_
    exact tv_ri rfl (Or.inl ⟨fun z => z.1 c4, rfl, rfl⟩)
  · refine tv_b (pc' := 8) (ls' := [some (.ref 0), some (.int x), some (.int c)]) (st' := [.int c]) (h' := (n, sl, wKK kk, I, L, wQQ q)) 1 rfl ?_
    refine tv_csE [.int c] [] rfl rfl (by omega) rfl (Nat.le_of_ble_eq_true rfl) (Nat.le_of_ble_eq_true rfl) (ev_isColumn) ?_
    refine tv_b (pc' := (if (sp_isColumn c) = 0 then 14 else 16)) (ls' := [some (.ref 0), some (.int x), some (.int c)]) (st' := []) (h' := (n, sl, wKK kk, I, L, wQQ q)) 1 rfl ?_
    refine tv_if (fun c11 => ?_) (fun c11 => ?_)
    · refine tv_b (pc' := 15) (ls' := [some (.ref 0), some (.int x), some (.int c)]) (st' := [.int (-1)]) (h' := (n, sl, wKK kk, I, L, wQQ q)) 1 rfl ?_
      exact tv_ri rfl (Or.inl ⟨fun z => z.2 c11, rfl, rfl⟩)
    · refine tv_b (pc' := 20) (ls' := [some (.ref 0), some (.int x), some (.int c)]) (st' := [.ref 55]) (h' := (n, sl, wKK kk, I, L, wQQ q)) 2 rfl ?_
      refine tv_newa rfl hn ?_
      refine tv_b (pc' := 31) (ls' := [some (.ref 0), some (.int x), some (.int c)]) (st' := [.null, .int 0, .int 1, .int c, .int x, .int x, .int 2, .ref n, .ref n, .ref 55]) (h' := (n + 1, sl + 9, wKK (va_up kk n (0, 0)), va_up I n (fun _ => 0), va_up L n (fun _ => 0), wQQ (va_up q n (fun _ => none)))) 8 rfl ?_
      refine tv_cvE [.int 2, .int x, .int x, .int c, .int 1, .int 0, .null] [.ref n, .ref 55] rfl rfl (by omega) rfl (Nat.le_of_ble_eq_true rfl) (Nat.le_of_ble_eq_true rfl) (Or.inl rfl) (ev_a_init (o := none) rfl ⟨hn, va_e1⟩ va_e1) ?_
      refine tv_hI (I' := va_up I n (acR 2 x x c 1 0)) va_uu ?_
      refine tv_hQ (Q' := wQQ (qNew q n none)) (by rw [qNew_e]) ?_
      obtain ⟨hB, hen⟩ := hX ⟨c4, c11⟩
      have hbX := hen
      obtain ⟨e0, e1, e2, e3, e4, e5, e6, e7, e8, e9, e10⟩ := hbX
      refine tv_cv [.ref n] [] rfl rfl (by omega) rfl (Nat.le_of_ble_eq_true rfl) (Nat.le_of_ble_eq_true rfl) (Or.inr (Or.inr rfl)) (tv_b_wrn (s := 2) (x := x) (a := c) (b := 0) (c := 0) hC2 hB0 hB hen g1 g2 b1 b2 b3 (fun i hi => cAct_r rfl ⟨(e4 (i + 1) (by omega) (by omega)).1, (e4 (i + 1) (by omega) (by omega)).2.1, (e4 (i + 1) (by omega) (by omega)).2.2.1, (e4 (i + 1) (by omega) (by omega)).2.2.2.1, (e4 (i + 1) (by omega) (by omega)).2.2.2.2, (hv (i + 1) (by omega) (by omega)).symm⟩ (b5 i hi)) (cAct_2 e5 e6 e7 e10) rfl b6 b7 b8 g4 g5 hn (va_n1 (show 56 ≠ n by omega))) ?_
      rintro rv9 h9 ⟨rfl, I9, L9, R9, rfl, g9, l9⟩
      exact tv_ri rfl (Or.inr ⟨⟨c4, c11⟩, rfl, I9, L9, R9, rfl, g9, l9⟩)
theorem tv_x_frostF {d n sl : Nat} {kk : Nat → Nat × Nat} {I : Nat → Nat → Int32} {L : Nat → Nat → Int64} {q : Nat → Nat → Option Nat} {x c : Int32} (h2 : I 55 2 = nI 200) (hn : 131 ≤ n) : am_T (d + 5) 119 0 (am_ent 3 [.ref 0, .int x, .int c]) [] (n, sl, wKK kk, I, L, wQQ q) (fun rv h' => (¬ vlFrost x c ∧ rv = some (.int (-1)) ∧ h' = (n, sl, wKK kk, I, L, wQQ q)) ∨ (vlFrost x c ∧ gaP n (sl + 9) kk (qNew q n none) (acR 2 x x c 1 0) I L rv h')) := by
  show am_T _ _ 0 [some (.ref 0), some (.int x), some (.int c)] _ _ _
  refine tv_b (pc' := 1) (ls' := [some (.ref 0), some (.int x), some (.int c)]) (st' := [.int x]) (h' := (n, sl, wKK kk, I, L, wQQ q)) 1 rfl ?_
  refine tv_csE [.int x] [] rfl rfl (by omega) rfl (Nat.le_of_ble_eq_true rfl) (Nat.le_of_ble_eq_true rfl) (ev_isDay) ?_
  refine tv_b (pc' := (if (sp_isDay x) = 0 then 14 else 7)) (ls' := [some (.ref 0), some (.int x), some (.int c)]) (st' := []) (h' := (n, sl, wKK kk, I, L, wQQ q)) 1 rfl ?_
  refine tv_if (fun c4 => ?_) (fun c4 => ?_)
  · refine tv_b (pc' := 15) (ls' := [some (.ref 0), some (.int x), some (.int c)]) (st' := [.int (-1)]) (h' := (n, sl, wKK kk, I, L, wQQ q)) 1 rfl ?_
    exact tv_ri rfl (Or.inl ⟨fun z => z.1 c4, rfl, rfl⟩)
  · refine tv_b (pc' := 8) (ls' := [some (.ref 0), some (.int x), some (.int c)]) (st' := [.int c]) (h' := (n, sl, wKK kk, I, L, wQQ q)) 1 rfl ?_
    refine tv_csE [.int c] [] rfl rfl (by omega) rfl (Nat.le_of_ble_eq_true rfl) (Nat.le_of_ble_eq_true rfl) (ev_isColumn) ?_
    refine tv_b (pc' := (if (sp_isColumn c) = 0 then 14 else 16)) (ls' := [some (.ref 0), some (.int x), some (.int c)]) (st' := []) (h' := (n, sl, wKK kk, I, L, wQQ q)) 1 rfl ?_
    refine tv_if (fun c11 => ?_) (fun c11 => ?_)
    · refine tv_b (pc' := 15) (ls' := [some (.ref 0), some (.int x), some (.int c)]) (st' := [.int (-1)]) (h' := (n, sl, wKK kk, I, L, wQQ q)) 1 rfl ?_
      exact tv_ri rfl (Or.inl ⟨fun z => z.2 c11, rfl, rfl⟩)
    · refine tv_b (pc' := 20) (ls' := [some (.ref 0), some (.int x), some (.int c)]) (st' := [.ref 55]) (h' := (n, sl, wKK kk, I, L, wQQ q)) 2 rfl ?_
      refine tv_newa rfl hn ?_
      refine tv_b (pc' := 31) (ls' := [some (.ref 0), some (.int x), some (.int c)]) (st' := [.null, .int 0, .int 1, .int c, .int x, .int x, .int 2, .ref n, .ref n, .ref 55]) (h' := (n + 1, sl + 9, wKK (va_up kk n (0, 0)), va_up I n (fun _ => 0), va_up L n (fun _ => 0), wQQ (va_up q n (fun _ => none)))) 8 rfl ?_
      refine tv_cvE [.int 2, .int x, .int x, .int c, .int 1, .int 0, .null] [.ref n, .ref 55] rfl rfl (by omega) rfl (Nat.le_of_ble_eq_true rfl) (Nat.le_of_ble_eq_true rfl) (Or.inl rfl) (ev_a_init (o := none) rfl ⟨hn, va_e1⟩ va_e1) ?_
      refine tv_hI (I' := va_up I n (acR 2 x x c 1 0)) va_uu ?_
      refine tv_hQ (Q' := wQQ (qNew q n none)) (by rw [qNew_e]) ?_
      refine tv_cvE [.ref n] [] rfl rfl (by omega) rfl (Nat.le_of_ble_eq_true rfl) (Nat.le_of_ble_eq_true rfl) (Or.inr (Or.inr rfl)) (ev_b_writeF (by rw [va_n1 (show 55 ≠ n by omega)]; exact h2)) ?_
      exact tv_ri rfl (Or.inr ⟨⟨c4, c11⟩, rfl, rfl⟩)
theorem tv_x_reading {d n sl : Nat} {kk : Nat → Nat × Nat} {I : Nat → Nat → Int32} {L : Nat → Nat → Int64} {q : Nat → Nat → Option Nat} {X0 X : Nat → Nat → Int32} {C : Nat} {ah : Nat → Nat} {g x e : Int32} (hC2 : C < 200) (hB0 : wfB X0) (G : cGr n kk q I L X0 C ah) (hn : 131 ≤ n) (hX : vlRead g x e → wfB X ∧ enX X0 X C 3 x g e 0) (hv : ∀ i, 1 ≤ i → i ≤ C → X 112 i = X0 112 i) : am_T (d + 5) 120 0 (am_ent 4 [.ref 0, .int g, .int x, .int e]) [] (n, sl, wKK kk, I, L, wQQ q) (fun rv h' => (¬ vlRead g x e ∧ rv = some (.int (-1)) ∧ h' = (n, sl, wKK kk, I, L, wQQ q)) ∨ (vlRead g x e ∧ wrP n (sl + 9) kk (qNew q n none) X0 X C ah (acR 3 x x g e 0) I L rv h')) := by
  obtain ⟨g1, g2, ⟨⟨b1, b2, b3⟩, b4, b5, b6, b7, b8⟩, g4, g5⟩ := G
  show am_T _ _ 0 [some (.ref 0), some (.int g), some (.int x), some (.int e)] _ _ _
  refine tv_b (pc' := 1) (ls' := [some (.ref 0), some (.int g), some (.int x), some (.int e)]) (st' := [.int g]) (h' := (n, sl, wKK kk, I, L, wQQ q)) 1 rfl ?_
  refine tv_csE [.int g] [] rfl rfl (by omega) rfl (Nat.le_of_ble_eq_true rfl) (Nat.le_of_ble_eq_true rfl) (ev_isGauge) ?_
  refine tv_b (pc' := (if (sp_isGauge g) = 0 then 28 else 7)) (ls' := [some (.ref 0), some (.int g), some (.int x), some (.int e)]) (st' := []) (h' := (n, sl, wKK kk, I, L, wQQ q)) 1 rfl ?_
  refine tv_if (fun c4 => ?_) (fun c4 => ?_)
  · refine tv_b (pc' := 29) (ls' := [some (.ref 0), some (.int g), some (.int x), some (.int e)]) (st' := [.int (-1)]) (h' := (n, sl, wKK kk, I, L, wQQ q)) 1 rfl ?_
    exact tv_ri rfl (Or.inl ⟨fun z => z.1 c4, rfl, rfl⟩)
  · refine tv_b (pc' := 8) (ls' := [some (.ref 0), some (.int g), some (.int x), some (.int e)]) (st' := [.int x]) (h' := (n, sl, wKK kk, I, L, wQQ q)) 1 rfl ?_
    refine tv_csE [.int x] [] rfl rfl (by omega) rfl (Nat.le_of_ble_eq_true rfl) (Nat.le_of_ble_eq_true rfl) (ev_isDay) ?_
    refine tv_b (pc' := (if (sp_isDay x) = 0 then 28 else 14)) (ls' := [some (.ref 0), some (.int g), some (.int x), some (.int e)]) (st' := []) (h' := (n, sl, wKK kk, I, L, wQQ q)) 1 rfl ?_
    refine tv_if (fun c11 => ?_) (fun c11 => ?_)
    · refine tv_b (pc' := 29) (ls' := [some (.ref 0), some (.int g), some (.int x), some (.int e)]) (st' := [.int (-1)]) (h' := (n, sl, wKK kk, I, L, wQQ q)) 1 rfl ?_
      exact tv_ri rfl (Or.inl ⟨fun z => z.2.1 c11, rfl, rfl⟩)
    · refine tv_b (pc' := 22) (ls' := [some (.ref 0), some (.int g), some (.int x), some (.int e)]) (st' := [.long 1000000000, .long (-1000000000), .long e.toInt64]) (h' := (n, sl, wKK kk, I, L, wQQ q)) 4 rfl ?_
      refine tv_csE [.long e.toInt64, .long (-1000000000), .long 1000000000] [] rfl rfl (by omega) rfl (Nat.le_of_ble_eq_true rfl) (Nat.le_of_ble_eq_true rfl) (ev_isWithin) ?_
      refine tv_b (pc' := (if (sp_isWithin e.toInt64 (-1000000000) 1000000000) = 0 then 28 else 30)) (ls' := [some (.ref 0), some (.int g), some (.int x), some (.int e)]) (st' := []) (h' := (n, sl, wKK kk, I, L, wQQ q)) 1 rfl ?_
      refine tv_if (fun c25 => ?_) (fun c25 => ?_)
      · refine tv_b (pc' := 29) (ls' := [some (.ref 0), some (.int g), some (.int x), some (.int e)]) (st' := [.int (-1)]) (h' := (n, sl, wKK kk, I, L, wQQ q)) 1 rfl ?_
        exact tv_ri rfl (Or.inl ⟨fun z => z.2.2 c25, rfl, rfl⟩)
      · refine tv_b (pc' := 34) (ls' := [some (.ref 0), some (.int g), some (.int x), some (.int e)]) (st' := [.ref 55]) (h' := (n, sl, wKK kk, I, L, wQQ q)) 2 rfl ?_
        refine tv_newa rfl hn ?_
        refine tv_b (pc' := 45) (ls' := [some (.ref 0), some (.int g), some (.int x), some (.int e)]) (st' := [.null, .int 0, .int e, .int g, .int x, .int x, .int 3, .ref n, .ref n, .ref 55]) (h' := (n + 1, sl + 9, wKK (va_up kk n (0, 0)), va_up I n (fun _ => 0), va_up L n (fun _ => 0), wQQ (va_up q n (fun _ => none)))) 8 rfl ?_
        refine tv_cvE [.int 3, .int x, .int x, .int g, .int e, .int 0, .null] [.ref n, .ref 55] rfl rfl (by omega) rfl (Nat.le_of_ble_eq_true rfl) (Nat.le_of_ble_eq_true rfl) (Or.inl rfl) (ev_a_init (o := none) rfl ⟨hn, va_e1⟩ va_e1) ?_
        refine tv_hI (I' := va_up I n (acR 3 x x g e 0)) va_uu ?_
        refine tv_hQ (Q' := wQQ (qNew q n none)) (by rw [qNew_e]) ?_
        obtain ⟨hB, hen⟩ := hX ⟨c4, c11, c25⟩
        have hbX := hen
        obtain ⟨e0, e1, e2, e3, e4, e5, e6, e7, e8, e9, e10⟩ := hbX
        refine tv_cv [.ref n] [] rfl rfl (by omega) rfl (Nat.le_of_ble_eq_true rfl) (Nat.le_of_ble_eq_true rfl) (Or.inr (Or.inr rfl)) (tv_b_wrn (s := 3) (x := x) (a := g) (b := e) (c := 0) hC2 hB0 hB hen g1 g2 b1 b2 b3 (fun i hi => cAct_r rfl ⟨(e4 (i + 1) (by omega) (by omega)).1, (e4 (i + 1) (by omega) (by omega)).2.1, (e4 (i + 1) (by omega) (by omega)).2.2.1, (e4 (i + 1) (by omega) (by omega)).2.2.2.1, (e4 (i + 1) (by omega) (by omega)).2.2.2.2, (hv (i + 1) (by omega) (by omega)).symm⟩ (b5 i hi)) (cAct_3 e5 e6 e7 e8 e10) rfl b6 b7 b8 g4 g5 hn (va_n1 (show 56 ≠ n by omega))) ?_
        rintro rv9 h9 ⟨rfl, I9, L9, R9, rfl, g9, l9⟩
        exact tv_ri rfl (Or.inr ⟨⟨c4, c11, c25⟩, rfl, I9, L9, R9, rfl, g9, l9⟩)
theorem tv_x_readingF {d n sl : Nat} {kk : Nat → Nat × Nat} {I : Nat → Nat → Int32} {L : Nat → Nat → Int64} {q : Nat → Nat → Option Nat} {g x e : Int32} (h2 : I 55 2 = nI 200) (hn : 131 ≤ n) : am_T (d + 5) 120 0 (am_ent 4 [.ref 0, .int g, .int x, .int e]) [] (n, sl, wKK kk, I, L, wQQ q) (fun rv h' => (¬ vlRead g x e ∧ rv = some (.int (-1)) ∧ h' = (n, sl, wKK kk, I, L, wQQ q)) ∨ (vlRead g x e ∧ gaP n (sl + 9) kk (qNew q n none) (acR 3 x x g e 0) I L rv h')) := by
  show am_T _ _ 0 [some (.ref 0), some (.int g), some (.int x), some (.int e)] _ _ _
  refine tv_b (pc' := 1) (ls' := [some (.ref 0), some (.int g), some (.int x), some (.int e)]) (st' := [.int g]) (h' := (n, sl, wKK kk, I, L, wQQ q)) 1 rfl ?_
  refine tv_csE [.int g] [] rfl rfl (by omega) rfl (Nat.le_of_ble_eq_true rfl) (Nat.le_of_ble_eq_true rfl) (ev_isGauge) ?_
  refine tv_b (pc' := (if (sp_isGauge g) = 0 then 28 else 7)) (ls' := [some (.ref 0), some (.int g), some (.int x), some (.int e)]) (st' := []) (h' := (n, sl, wKK kk, I, L, wQQ q)) 1 rfl ?_
  refine tv_if (fun c4 => ?_) (fun c4 => ?_)
  · refine tv_b (pc' := 29) (ls' := [some (.ref 0), some (.int g), some (.int x), some (.int e)]) (st' := [.int (-1)]) (h' := (n, sl, wKK kk, I, L, wQQ q)) 1 rfl ?_
    exact tv_ri rfl (Or.inl ⟨fun z => z.1 c4, rfl, rfl⟩)
  · refine tv_b (pc' := 8) (ls' := [some (.ref 0), some (.int g), some (.int x), some (.int e)]) (st' := [.int x]) (h' := (n, sl, wKK kk, I, L, wQQ q)) 1 rfl ?_
    refine tv_csE [.int x] [] rfl rfl (by omega) rfl (Nat.le_of_ble_eq_true rfl) (Nat.le_of_ble_eq_true rfl) (ev_isDay) ?_
    refine tv_b (pc' := (if (sp_isDay x) = 0 then 28 else 14)) (ls' := [some (.ref 0), some (.int g), some (.int x), some (.int e)]) (st' := []) (h' := (n, sl, wKK kk, I, L, wQQ q)) 1 rfl ?_
    refine tv_if (fun c11 => ?_) (fun c11 => ?_)
    · refine tv_b (pc' := 29) (ls' := [some (.ref 0), some (.int g), some (.int x), some (.int e)]) (st' := [.int (-1)]) (h' := (n, sl, wKK kk, I, L, wQQ q)) 1 rfl ?_
      exact tv_ri rfl (Or.inl ⟨fun z => z.2.1 c11, rfl, rfl⟩)
    · refine tv_b (pc' := 22) (ls' := [some (.ref 0), some (.int g), some (.int x), some (.int e)]) (st' := [.long 1000000000, .long (-1000000000), .long e.toInt64]) (h' := (n, sl, wKK kk, I, L, wQQ q)) 4 rfl ?_
      refine tv_csE [.long e.toInt64, .long (-1000000000), .long 1000000000] [] rfl rfl (by omega) rfl (Nat.le_of_ble_eq_true rfl) (Nat.le_of_ble_eq_true rfl) (ev_isWithin) ?_
      refine tv_b (pc' := (if (sp_isWithin e.toInt64 (-1000000000) 1000000000) = 0 then 28 else 30)) (ls' := [some (.ref 0), some (.int g), some (.int x), some (.int e)]) (st' := []) (h' := (n, sl, wKK kk, I, L, wQQ q)) 1 rfl ?_
      refine tv_if (fun c25 => ?_) (fun c25 => ?_)
      · refine tv_b (pc' := 29) (ls' := [some (.ref 0), some (.int g), some (.int x), some (.int e)]) (st' := [.int (-1)]) (h' := (n, sl, wKK kk, I, L, wQQ q)) 1 rfl ?_
        exact tv_ri rfl (Or.inl ⟨fun z => z.2.2 c25, rfl, rfl⟩)
      · refine tv_b (pc' := 34) (ls' := [some (.ref 0), some (.int g), some (.int x), some (.int e)]) (st' := [.ref 55]) (h' := (n, sl, wKK kk, I, L, wQQ q)) 2 rfl ?_
        refine tv_newa rfl hn ?_
        refine tv_b (pc' := 45) (ls' := [some (.ref 0), some (.int g), some (.int x), some (.int e)]) (st' := [.null, .int 0, .int e, .int g, .int x, .int x, .int 3, .ref n, .ref n, .ref 55]) (h' := (n + 1, sl + 9, wKK (va_up kk n (0, 0)), va_up I n (fun _ => 0), va_up L n (fun _ => 0), wQQ (va_up q n (fun _ => none)))) 8 rfl ?_
        refine tv_cvE [.int 3, .int x, .int x, .int g, .int e, .int 0, .null] [.ref n, .ref 55] rfl rfl (by omega) rfl (Nat.le_of_ble_eq_true rfl) (Nat.le_of_ble_eq_true rfl) (Or.inl rfl) (ev_a_init (o := none) rfl ⟨hn, va_e1⟩ va_e1) ?_
        refine tv_hI (I' := va_up I n (acR 3 x x g e 0)) va_uu ?_
        refine tv_hQ (Q' := wQQ (qNew q n none)) (by rw [qNew_e]) ?_
        refine tv_cvE [.ref n] [] rfl rfl (by omega) rfl (Nat.le_of_ble_eq_true rfl) (Nat.le_of_ble_eq_true rfl) (Or.inr (Or.inr rfl)) (ev_b_writeF (by rw [va_n1 (show 55 ≠ n by omega)]; exact h2)) ?_
        exact tv_ri rfl (Or.inr ⟨⟨c4, c11, c25⟩, rfl, rfl⟩)
