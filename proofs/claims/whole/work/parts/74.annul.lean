/-! THE CLASS'S ANNUL AND AS -/
theorem ev_b_act0 {d n sl : Nat} {kk : Nat → Nat × Nat} {I : Nat → Nat → Int32} {L : Nat → Nat → Int64} {q : Nat → Nat → Option Nat} {x : Int32} {C : Nat} (h2 : I 55 2 = nI C) (hx : x < 1 ∨ nI C < x) : am_Ev d 9 0 (am_ent 2 [.ref 55, .int x]) [] (n, sl, wKK kk, I, L, wQQ q) (some .null, (n, sl, wKK kk, I, L, wQQ q)) := by
  refine tv_ev ?_
  by_cases c : x < 1
  · show am_T _ _ 0 [some (.ref 55), some (.int x)] _ _ _
    refine tv_b (pc' := (if x < 1 then 31 else 5)) (ls' := [some (.ref 55), some (.int x)]) (st' := []) (h' := (n, sl, wKK kk, I, L, wQQ q)) 3 rfl ?_
    refine tv_t (c) ?_
    refine tv_b (pc' := 32) (ls' := [some (.ref 55), some (.int x)]) (st' := [.null]) (h' := (n, sl, wKK kk, I, L, wQQ q)) 1 rfl ?_
    exact tv_rn rfl ⟨rfl, rfl⟩
  · show am_T _ _ 0 [some (.ref 55), some (.int x)] _ _ _
    refine tv_b (pc' := (if x < 1 then 31 else 5)) (ls' := [some (.ref 55), some (.int x)]) (st' := []) (h' := (n, sl, wKK kk, I, L, wQQ q)) 3 rfl ?_
    refine tv_f (c) ?_
    refine tv_b (pc' := 10) (ls' := [some (.ref 55), some (.int x)]) (st' := [.int (I 55 2), .int x]) (h' := (n, sl, wKK kk, I, L, wQQ q)) 3 rfl ?_
    refine tv_top (h2) ?_
    refine tv_b (pc' := (if (nI C) < x then 31 else 13)) (ls' := [some (.ref 55), some (.int x)]) (st' := []) (h' := (n, sl, wKK kk, I, L, wQQ q)) 1 rfl ?_
    refine tv_t (hx.resolve_left c) ?_
    refine tv_b (pc' := 32) (ls' := [some (.ref 55), some (.int x)]) (st' := [.null]) (h' := (n, sl, wKK kk, I, L, wQQ q)) 1 rfl ?_
    exact tv_rn rfl ⟨rfl, rfl⟩
theorem tv_b_strike0 {d n sl : Nat} {kk : Nat → Nat × Nat} {I : Nat → Nat → Int32} {L : Nat → Nat → Int64} {q : Nat → Nat → Option Nat} {x : Int32} {C : Nat} (h2 : I 55 2 = nI C) (hx : x < 1 ∨ nI C < x) : am_T (d + 1) 11 0 (am_ent 3 [.ref 55, .int x]) [] (n, sl, wKK kk, I, L, wQQ q) (fun rv h' => rv = some (.int (-1)) ∧ h' = (n, sl, wKK kk, I, L, wQQ q)) := by
  show am_T _ _ 0 [some (.ref 55), some (.int x), none] _ _ _
  refine tv_b (pc' := 2) (ls' := [some (.ref 55), some (.int x), none]) (st' := [.int x, .ref 55]) (h' := (n, sl, wKK kk, I, L, wQQ q)) 2 rfl ?_
  refine tv_cvE [.int x] [] rfl rfl (by omega) rfl (Nat.le_of_ble_eq_true rfl) (Nat.le_of_ble_eq_true rfl) (Or.inr (Or.inr rfl)) (ev_b_act0 h2 hx) ?_
  refine tv_b (pc' := 33) (ls' := [some (.ref 55), some (.int x), some (.null)]) (st' := [.int (-1)]) (h' := (n, sl, wKK kk, I, L, wQQ q)) 4 rfl ?_
  exact tv_ri rfl ⟨rfl, rfl⟩
def vlStr (X0 : Nat → Nat → Int32) (C k : Nat) : Prop := ¬ X0 107 (k + 1) = 5 ∧ X0 112 (k + 1) = 0 ∧ C < 200
theorem tv_b_strike {d n sl : Nat} {kk : Nat → Nat × Nat} {I : Nat → Nat → Int32} {L : Nat → Nat → Int64} {q : Nat → Nat → Option Nat} {X0 X : Nat → Nat → Int32} {C : Nat} {ah : Nat → Nat} {k : Nat} (hC2 : C ≤ 200) (hB0 : wfB X0) (G : cGr n kk q I L X0 C ah) (hn : 131 ≤ n) (hk : k < C) (hX : vlStr X0 C k → wfB X ∧ enX X0 X C 5 0 (nI (k + 1)) 0 0) (hv : ∀ i, 1 ≤ i → i ≤ C → X 112 i = if i = k + 1 then nI (C + 1) else X0 112 i) : am_T (d + 5) 11 0 (am_ent 3 [.ref 55, .int (nI (k + 1))]) [] (n, sl, wKK kk, I, L, wQQ q) (fun rv h' => (¬ vlStr X0 C k ∧ rv = some (.int (-1)) ∧ h' = (n, sl, wKK kk, I, L, wQQ q)) ∨ (vlStr X0 C k ∧ wrP n (sl + 9) kk (qNew q n none) X0 X C ah (acR 5 0 0 0 0 0) (va_up I (ah k) (upd (I (ah k)) 7 (nI (C + 1)))) L rv h')) := by
  obtain ⟨g1, g2, ⟨⟨b1, b2, b3⟩, b4, b5, b6, b7, b8⟩, g4, g5⟩ := G
  have h2 : I 55 2 = nI C := by rw [b6, hB0.1.1, b4]
  have hak := (b1 k hk).2.1
  have hakn := b2 k hk
  show am_T _ _ 0 [some (.ref 55), some (.int (nI (k + 1))), none] _ _ _
  refine tv_b (pc' := 2) (ls' := [some (.ref 55), some (.int (nI (k + 1))), none]) (st' := [.int (nI (k + 1)), .ref 55]) (h' := (n, sl, wKK kk, I, L, wQQ q)) 2 rfl ?_
  refine tv_cvE [.int (nI (k + 1))] [] rfl rfl (by omega) rfl (Nat.le_of_ble_eq_true rfl) (Nat.le_of_ble_eq_true rfl) (Or.inr (Or.inr rfl)) (ev_b_act b1 h2 hC2 hk) ?_
  refine tv_b (pc' := 11) (ls' := [some (.ref 55), some (.int (nI (k + 1))), some (.ref (ah k))]) (st' := [.ref (ah k)]) (h' := (n, sl, wKK kk, I, L, wQQ q)) 4 rfl ?_
  refine tv_gfa rfl (Or.inl rfl) (am_acK (b1 k hk).2) ?_
  refine tv_top ((b5 k hk).1) ?_
  refine tv_b (pc' := (if (X0 107 (k + 1)) = 5 then 32 else 18)) (ls' := [some (.ref 55), some (.int (nI (k + 1))), some (.ref (ah k))]) (st' := []) (h' := (n, sl, wKK kk, I, L, wQQ q)) 2 rfl ?_
  refine tv_if (fun c15 => ?_) (fun c15 => ?_)
  · refine tv_b (pc' := 33) (ls' := [some (.ref 55), some (.int (nI (k + 1))), some (.ref (ah k))]) (st' := [.int (-1)]) (h' := (n, sl, wKK kk, I, L, wQQ q)) 1 rfl ?_
    exact tv_ri rfl (Or.inl ⟨fun z => z.1 c15, rfl, rfl⟩)
  · refine tv_b (pc' := 19) (ls' := [some (.ref 55), some (.int (nI (k + 1))), some (.ref (ah k))]) (st' := [.ref (ah k)]) (h' := (n, sl, wKK kk, I, L, wQQ q)) 1 rfl ?_
    refine tv_gfa rfl (Or.inl rfl) (am_acK (b1 k hk).2) ?_
    refine tv_top ((b5 k hk).2.2.1) ?_
    refine tv_b (pc' := (if (X0 112 (k + 1)) = 0 then 25 else 32)) (ls' := [some (.ref 55), some (.int (nI (k + 1))), some (.ref (ah k))]) (st' := []) (h' := (n, sl, wKK kk, I, L, wQQ q)) 1 rfl ?_
    refine tv_if (fun c22 => ?_) (fun c22 => ?_)
    · refine tv_b (pc' := 26) (ls' := [some (.ref 55), some (.int (nI (k + 1))), some (.ref (ah k))]) (st' := [.ref 55]) (h' := (n, sl, wKK kk, I, L, wQQ q)) 1 rfl ?_
      refine tv_cvE [] [] rfl rfl (by omega) rfl (Nat.le_of_ble_eq_true rfl) (Nat.le_of_ble_eq_true rfl) (Or.inr (Or.inr rfl)) (ev_b_isFull) ?_
      refine tv_b (pc' := (if (sp_b_isFull I L) = 0 then 34 else 32)) (ls' := [some (.ref 55), some (.int (nI (k + 1))), some (.ref (ah k))]) (st' := []) (h' := (n, sl, wKK kk, I, L, wQQ q)) 1 rfl ?_
      refine tv_if (fun c29 => ?_) (fun c29 => ?_)
      · refine tv_b (pc' := 39) (ls' := [some (.ref 55), some (.int (nI (k + 1))), some (.ref (ah k))]) (st' := [.int (I 55 2), .ref (ah k)]) (h' := (n, sl, wKK kk, I, L, wQQ q)) 3 rfl ?_
        refine tv_top (h2) ?_
        refine tv_b (pc' := 40) (ls' := [some (.ref 55), some (.int (nI (k + 1))), some (.ref (ah k))]) (st' := [.int 1, .int (nI C), .ref (ah k)]) (h' := (n, sl, wKK kk, I, L, wQQ q)) 1 rfl ?_
        refine tv_b (pc' := 41) (ls' := [some (.ref 55), some (.int (nI (k + 1))), some (.ref (ah k))]) (st' := [.int ((nI C) + 1), .ref (ah k)]) (h' := (n, sl, wKK kk, I, L, wQQ q)) 1 rfl ?_
        refine tv_top (show (nI C) + 1 = nI (C + 1) from nI_add C 1) ?_
        refine tv_pfa rfl (Or.inl rfl) (am_acK (b1 k hk).2) ?_
        refine tv_b (pc' := 45) (ls' := [some (.ref 55), some (.int (nI (k + 1))), some (.ref (ah k))]) (st' := [.ref 55]) (h' := (n, sl, wKK kk, va_up I (ah k) (upd (I (ah k)) 7 (nI (C + 1))), L, wQQ q)) 1 rfl ?_
        refine tv_newa rfl hn ?_
        refine tv_b (pc' := 56) (ls' := [some (.ref 55), some (.int (nI (k + 1))), some (.ref (ah k))]) (st' := [.null, .int 0, .int 0, .int 0, .int 0, .int 0, .int 5, .ref n, .ref n, .ref 55]) (h' := (n + 1, sl + 9, wKK (va_up kk n (0, 0)), va_up (va_up I (ah k) (upd (I (ah k)) 7 (nI (C + 1)))) n (fun _ => 0), va_up L n (fun _ => 0), wQQ (va_up q n (fun _ => none)))) 8 rfl ?_
        refine tv_cvE [.int 5, .int 0, .int 0, .int 0, .int 0, .int 0, .null] [.ref n, .ref 55] rfl rfl (by omega) rfl (Nat.le_of_ble_eq_true rfl) (Nat.le_of_ble_eq_true rfl) (Or.inl rfl) (ev_a_init (o := none) rfl ⟨hn, va_e1⟩ va_e1) ?_
        refine tv_hI (I' := va_up (va_up I (ah k) (upd (I (ah k)) 7 (nI (C + 1)))) n (acR 5 0 0 0 0 0)) va_uu ?_
        refine tv_hQ (Q' := wQQ (qNew q n none)) (by rw [qNew_e]) ?_
        have hC3 : C < 200 := by
          rcases Nat.lt_or_ge C 200 with z | z
          · exact z
          · exact absurd c29 (isF1 (by rw [h2, show C = 200 by omega]))
        obtain ⟨hB, hen⟩ := hX ⟨c15, c22, hC3⟩
        have hbX := hen
        obtain ⟨e0, e1, e2, e3, e4, e5, e6, e7, e8, e9, e10⟩ := hbX
        have hlo : ∀ j, j < 131 → (va_up I (ah k) (upd (I (ah k)) 7 (nI (C + 1)))) j = I j := fun j hj => va_n1 (by omega)
        have hact : ∀ i, i < C → cAct (va_up I (ah k) (upd (I (ah k)) 7 (nI (C + 1)))) X (i + 1) (ah i) := by
          intro i hi
          obtain ⟨z1, z2, z3, z4, z5⟩ := e4 (i + 1) (by omega) (by omega)
          have zv := hv (i + 1) (by omega) (by omega)
          have bi := b5 i hi
          by_cases e : i = k
          · subst e
            rw [if_pos rfl] at zv
            unfold cAct at bi ⊢
            rw [va_e1, zv, ← z1, ← z2, ← z3, ← z4, ← z5]
            exact ⟨bi.1, bi.2.1, rfl, bi.2.2.2⟩
          · rw [if_neg (by omega)] at zv
            exact cAct_r (va_n1 (fun z => e (b3 i k hi hk z))) ⟨z1, z2, z3, z4, z5, zv.symm⟩ bi
        have hfl : ∀ i, i < C → (va_up I (ah k) (upd (I (ah k)) 7 (nI (C + 1)))) (ah i) 8 = bz (kn X0 (i + 1)) := by
          intro i hi
          by_cases e : i = k
          · subst e; rw [va_e1, upd_n (by decide)]; exact b8 i hi
          · rw [va_n1 (fun z => e (b3 i k hi hk z))]; exact b8 i hi
        refine tv_cv [.ref n] [] rfl rfl (by omega) rfl (Nat.le_of_ble_eq_true rfl) (Nat.le_of_ble_eq_true rfl) (Or.inr (Or.inr rfl)) (tv_b_wrn (I := (va_up I (ah k) (upd (I (ah k)) 7 (nI (C + 1))))) (s := 5) (x := 0) (a := nI (k + 1)) (b := 0) (c := 0) hC3 hB0 hB hen (by unfold cTow; rw [hlo 14 (by decide), hlo 8 (by decide), hlo 9 (by decide), hlo 10 (by decide), hlo 11 (by decide), hlo 12 (by decide)]; exact g1) (by unfold cWet; rw [hlo 2 (by decide)]; exact g2) b1 b2 b3 hact (cAct_5 e5 e6 e10) rfl (by rw [hlo 55 (by decide)]; exact b6) (by rw [hlo 55 (by decide)]; exact b7) hfl (cSum_xy (fun d _ => sXY_r) (hlo 15 (by decide)) (hlo 17 (by decide)) (fun c hc => hlo _ (by omega)) rfl g4) (by obtain ⟨R, r1, r2, r3⟩ := g5; exact ⟨R, by rw [hlo 13 (by decide)]; exact r1, r2, fun D hD => cRow_s (R := D) (fun _ _ _ => rfl) (fun d _ => sXY_r) (hlo 52 (by decide)) (hlo 53 (by decide)) (hlo 54 (by decide)) (fun _ _ => rfl) (Nat.le_refl _) (r3 D hD)⟩) hn (va_n1 (show 56 ≠ n by omega))) ?_
        rintro rv9 h9 ⟨rfl, I9, L9, R9, rfl, g9, l9⟩
        exact tv_ri rfl (Or.inr ⟨⟨c15, c22, hC3⟩, rfl, I9, L9, R9, rfl, g9, l9⟩)
      · refine tv_b (pc' := 33) (ls' := [some (.ref 55), some (.int (nI (k + 1))), some (.ref (ah k))]) (st' := [.int (-1)]) (h' := (n, sl, wKK kk, I, L, wQQ q)) 1 rfl ?_
        exact tv_ri rfl (Or.inl ⟨fun z => c29 (isF0 h2 z.2.2), rfl, rfl⟩)
    · refine tv_b (pc' := 33) (ls' := [some (.ref 55), some (.int (nI (k + 1))), some (.ref (ah k))]) (st' := [.int (-1)]) (h' := (n, sl, wKK kk, I, L, wQQ q)) 1 rfl ?_
      exact tv_ri rfl (Or.inl ⟨fun z => c22 z.2.1, rfl, rfl⟩)
def asX (X0 X : Nat → Nat → Int32) (x : Int32) : Prop := (∀ j, 94 ≤ j → j ≤ 112 → X0 j = X j) ∧ X 80 45 = X0 80 45 ∧ X 80 46 = x
theorem tv_b_turnTo {d n sl : Nat} {kk : Nat → Nat × Nat} {I : Nat → Nat → Int32} {L : Nat → Nat → Int64} {q : Nat → Nat → Option Nat} {X0 X : Nat → Nat → Int32} {C : Nat} {ah : Nat → Nat} {x : Int32} (hB0 : wfB X0) (G : cGr n kk q I L X0 C ah) (hX : ¬ (x < -1 ∨ nI C < x) → wfB X ∧ asX X0 X x) : am_T (d + 4) 12 0 (am_ent 2 [.ref 55, .int x]) [] (n, sl, wKK kk, I, L, wQQ q) (fun rv h' => ((x < -1 ∨ nI C < x) ∧ rv = some (.int 0) ∧ h' = (n, sl, wKK kk, I, L, wQQ q)) ∨ (¬ (x < -1 ∨ nI C < x) ∧ rv = some (.int 1) ∧ ∃ I' L' R, h' = (n, sl, wKK kk, I', L', wQQ q) ∧ cGr n kk q I' L' X C ah ∧ LI X C ah (kn X0) (kn X) R (va_up I 55 (upd (I 55) 3 x)) L I' L' C)) := by
  obtain ⟨g1, g2, ⟨⟨b1, b2, b3⟩, b4, b5, b6, b7, b8⟩, g4, g5⟩ := G
  have h2 : I 55 2 = nI C := by rw [b6, hB0.1.1, b4]
  show am_T _ _ 0 [some (.ref 55), some (.int x)] _ _ _
  refine tv_b (pc' := (if x < (-1) then 13 else 5)) (ls' := [some (.ref 55), some (.int x)]) (st' := []) (h' := (n, sl, wKK kk, I, L, wQQ q)) 3 rfl ?_
  refine tv_if (fun c2 => ?_) (fun c2 => ?_)
  · refine tv_b (pc' := 14) (ls' := [some (.ref 55), some (.int x)]) (st' := [.int 0]) (h' := (n, sl, wKK kk, I, L, wQQ q)) 1 rfl ?_
    exact tv_rz rfl (Or.inl rfl) (Or.inl ⟨Or.inl c2, rfl, rfl⟩)
  · refine tv_b (pc' := 10) (ls' := [some (.ref 55), some (.int x)]) (st' := [.int (I 55 2), .int x]) (h' := (n, sl, wKK kk, I, L, wQQ q)) 3 rfl ?_
    refine tv_top (h2) ?_
    refine tv_b (pc' := (if x ≤ (nI C) then 15 else 13)) (ls' := [some (.ref 55), some (.int x)]) (st' := []) (h' := (n, sl, wKK kk, I, L, wQQ q)) 1 rfl ?_
    refine tv_if (fun c10 => ?_) (fun c10 => ?_)
    · refine tv_b (pc' := 20) (ls' := [some (.ref 55), some (.int x)]) (st' := []) (h' := (n, sl, wKK kk, va_up I 55 (upd (I 55) 3 x), L, wQQ q)) 3 rfl ?_
      refine tv_b (pc' := 21) (ls' := [some (.ref 55), some (.int x)]) (st' := [.ref 55]) (h' := (n, sl, wKK kk, va_up I 55 (upd (I 55) 3 x), L, wQQ q)) 1 rfl ?_
      obtain ⟨hB, z1, z2, z3⟩ := hX (fun z => z.elim c2 (Int32.not_lt.mpr c10))
      have hlo : ∀ j, j ≠ 55 → (va_up I 55 (upd (I 55) 3 x)) j = I j := fun j hj => va_n1 hj
      have hah : ∀ i, i < C → ah i ≠ 55 := fun i hi => by have := (b1 i hi).2.1; omega
      have hnC : nC X = C := by unfold nC at b4 ⊢; rw [z2]; exact b4
      have hsx : ∀ d, sXY X0 (kn X0) X (kn X0) d := fun d => sXY_a b4 (Or.inl hnC) (fun n n1 n2 => ⟨congrFun (z1 107 (by decide) (by decide)) n, congrFun (z1 108 (by decide) (by decide)) n, congrFun (z1 109 (by decide) (by decide)) n, congrFun (z1 110 (by decide) (by decide)) n, congrFun (z1 111 (by decide) (by decide)) n⟩) (fun _ _ => rfl) d
      refine tv_cv [] [] rfl rfl (by omega) rfl (Nat.le_of_ble_eq_true rfl) (Nat.le_of_ble_eq_true rfl) (Or.inr (Or.inr rfl)) (tv_b_learnG (I := (va_up I 55 (upd (I 55) 3 x))) hB (by unfold cTow; rw [hlo 14 (by decide), hlo 8 (by decide), hlo 9 (by decide), hlo 10 (by decide), hlo 11 (by decide), hlo 12 (by decide), ← z1 94 (by decide) (by decide), ← z1 95 (by decide) (by decide), ← z1 96 (by decide) (by decide), ← z1 97 (by decide) (by decide), ← z1 98 (by decide) (by decide), ← z1 99 (by decide) (by decide)]; exact g1) (by unfold cWet; rw [hlo 2 (by decide), ← z1 101 (by decide) (by decide), ← z1 100 (by decide) (by decide)]; exact g2) ⟨⟨b1, b2, b3⟩, hnC, fun i hi => cAct_r (hlo _ (hah i hi)) ⟨congrFun (z1 107 (by decide) (by decide)) _, congrFun (z1 108 (by decide) (by decide)) _, congrFun (z1 109 (by decide) (by decide)) _, congrFun (z1 110 (by decide) (by decide)) _, congrFun (z1 111 (by decide) (by decide)) _, congrFun (z1 112 (by decide) (by decide)) _⟩ (b5 i hi), by rw [va_e1, upd_n (by decide), b6, z2], by rw [va_e1, upd_e, z3], fun i hi => by rw [hlo _ (hah i hi)]; exact b8 i hi⟩ (cSum_xy (fun d _ => hsx d) (hlo 15 (by decide)) (hlo 17 (by decide)) (fun c hc => hlo _ (by omega)) rfl g4) (by obtain ⟨R, r1, r2, r3⟩ := g5; exact ⟨R, by rw [hlo 13 (by decide)]; exact r1, r2, fun D hD => cRow_s (R := D) (fun _ _ _ => rfl) (fun d _ => sXY_r) (hlo 52 (by decide)) (hlo 53 (by decide)) (hlo 54 (by decide)) (fun _ _ => rfl) (Nat.le_refl _) (r3 D hD)⟩) (fun j j1 j2 => z1 j j1 (by omega)) hsx) ?_
      rintro rv9 h9 ⟨rfl, I9, L9, R9, rfl, g9, l9⟩
      refine tv_b (pc' := 25) (ls' := [some (.ref 55), some (.int x)]) (st' := [.int 1]) (h' := (n, sl, wKK kk, I9, L9, wQQ q)) 1 rfl ?_
      exact tv_rz rfl (Or.inr rfl) (Or.inr ⟨fun z => z.elim c2 (Int32.not_lt.mpr c10), rfl, I9, L9, R9, rfl, g9, l9⟩)
    · refine tv_b (pc' := 14) (ls' := [some (.ref 55), some (.int x)]) (st' := [.int 0]) (h' := (n, sl, wKK kk, I, L, wQQ q)) 1 rfl ?_
      exact tv_rz rfl (Or.inl rfl) (Or.inl ⟨Or.inr (Int32.not_le.mp c10), rfl, rfl⟩)
