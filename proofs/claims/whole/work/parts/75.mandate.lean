/-! THE CLASS'S MANDATE; its annul and as -/
theorem cGr_m {n n' C : Nat} {kk kk' : Nat → Nat × Nat} {q q' : Nat → Nat → Option Nat} {I I' X : Nat → Nat → Int32} {L L' : Nat → Nat → Int64} {ah : Nat → Nat} (hn : n ≤ n') (hk : ∀ j, j < n → kk' j = kk j) (hq : q' 56 = q 56) (hl : ∀ j, j < 57 → I' j = I j) (ha : ∀ j, 131 ≤ j → j < n → I' j = I j) (hL : ∀ j, j < 57 → L' j = L j) (g : cGr n kk q I L X C ah) : cGr n' kk' q' I' L' X C ah := by
  obtain ⟨g1, g2, ⟨⟨b1, b2, b3⟩, b4, b5, b6, b7, b8⟩, g4, ⟨R, r1, r2, r3⟩⟩ := g
  refine ⟨?_, ?_, ⟨⟨fun i hi => ?_, fun i hi => by have := b2 i hi; omega, b3⟩, b4, fun i hi => cAct_r (ha _ (b1 i hi).2.1 (b2 i hi)) ⟨rfl, rfl, rfl, rfl, rfl, rfl⟩ (b5 i hi), by rw [hl 55 (by decide)]; exact b6, by rw [hl 55 (by decide)]; exact b7, fun i hi => by rw [ha _ (b1 i hi).2.1 (b2 i hi)]; exact b8 i hi⟩, cSum_xy (fun d _ => sXY_r) (hl 15 (by decide)) (hl 17 (by decide)) (fun c hc => hl _ (by omega)) (hL 16 (by decide)) g4, R, by rw [hl 13 (by decide)]; exact r1, r2, fun D hD => cRow_s (R := D) (fun _ _ _ => rfl) (fun d _ => sXY_r) (hl 52 (by decide)) (hl 53 (by decide)) (hl 54 (by decide)) (fun c hc => hL _ (by omega)) (Nat.le_refl _) (r3 D hD)⟩
  · unfold cTow
    rw [hl 14 (by decide), hl 8 (by decide), hl 9 (by decide), hl 10 (by decide), hl 11 (by decide), hl 12 (by decide)]
    exact g1
  · unfold cWet
    rw [hl 2 (by decide)]
    exact g2
  · obtain ⟨z1, z2, z3⟩ := b1 i hi
    exact ⟨by rw [hq]; exact z1, z2, by rw [hk _ (b2 i hi)]; exact z3⟩
/-- what the reader leaves with a code -/
def rcI (I I0 : Nat → Nat → Int32) (n : Nat) (l : List (Nat × Nat × List Nat)) : Nat → Nat → Int32 := va_up I0 n (va_cpy (pa_wr (I 59) 0 (pa_flat l)) (fun _ => 0) 0 0 (pa_flat l).length)
theorem rcI_lo {I I0 : Nat → Nat → Int32} {f g : Int32} {n : Nat} {l : List (Nat × Nat × List Nat)} {j : Nat} (hM : rdM I I0 f g) (h1 : j ≠ 57) (h2 : j ≠ 59) (h3 : j ≠ n) (h4 : j < 127 ∨ 131 ≤ j) : rcI I I0 n l j = I j := by
  unfold rcI
  rw [va_n1 h3, hM.1 j h1 h2 h4]
theorem cGr_rc {n C : Nat} {kk : Nat → Nat × Nat} {q : Nat → Nat → Option Nat} {I I0 X : Nat → Nat → Int32} {f0 g0 : Int32} {L : Nat → Nat → Int64} {ah : Nat → Nat} {l : List (Nat × Nat × List Nat)} (hM : rdM I I0 f0 g0) (hn : 131 ≤ n) (g : cGr n kk q I L X C ah) : cGr (n + 1) (va_up kk n (20, (pa_flat l).length)) (va_up q n (fun _ => none)) (rcI I I0 n l) (va_up L n (fun _ => 0)) X C ah :=
  cGr_m (by omega) (fun j hj => va_n1 (by omega)) (va_n1 (by omega)) (fun j hj => rcI_lo hM (by omega) (by omega) (by omega) (by omega)) (fun j h1 h2 => rcI_lo hM (by omega) (by omega) (by omega) (by omega)) (fun j hj => va_n1 (by omega)) g
def mnP (n sl : Nat) (kk : Nat → Nat × Nat) (q : Nat → Nat → Option Nat) (X0 X : Nat → Nat → Int32) (C : Nat) (ah : Nat → Nat) (x : Int32) (I : Nat → Nat → Int32) (L : Nat → Nat → Int64) (tx : Nat → Nat) (T : Nat) (rv : Option Value) (h' : am_H) : Prop := match pa_read tx T with
  | .inl (k, pl) => rv = some (.int (-1)) ∧ k ≠ 0 ∧ k ≤ 5 ∧ ∃ I0, rdM I I0 (nI k) (nI pl) ∧ h' = (n, sl, wKK kk, I0, L, wQQ q)
  | .inr l => (pa_flat l).length < 800 ∧ ∃ I0, rdM I I0 0 (-1) ∧ wrP (n + 1) (sl + (pa_flat l).length + 9) (va_up kk n (20, (pa_flat l).length)) (qNew (va_up q n (fun _ => none)) (n + 1) (some n)) X0 X C ah (acR 4 x x 0 0 0) (rcI I I0 n l) (va_up L n (fun _ => 0)) rv h'
theorem tv_x_mandate {d n sl : Nat} {kk : Nat → Nat × Nat} {I : Nat → Nat → Int32} {L : Nat → Nat → Int64} {q : Nat → Nat → Option Nat} {X0 X : Nat → Nat → Int32} {C : Nat} {ah : Nat → Nat} {x : Int32} {tx : Nat → Nat} {T : Nat} (hH : rdH tx T I) (hW : rdW kk I) (hx : ¬ sp_isDay x = 0) (hC2 : C < 200) (hB0 : wfB X0) (G : cGr n kk q I L X0 C ah) (hn : 131 ≤ n) (hX : ∀ l, pa_read tx T = .inr l → wfB X ∧ enX X0 X C 4 x 0 0 0) (hv : ∀ i, 1 ≤ i → i ≤ C → X 112 i = X0 112 i) : am_T (d + 38) 121 0 (am_ent 3 [.ref 0, .int x]) [] (n, sl, wKK kk, I, L, wQQ q) (mnP n sl kk q X0 X C ah x I L tx T) := by
  have h2 : I 55 2 = nI C := by rw [G.2.2.1.2.2.2.1, hB0.1.1, G.2.2.1.2.1]
  show am_T _ _ 0 [some (.ref 0), some (.int x), none] _ _ _
  refine tv_b (pc' := 1) (ls' := [some (.ref 0), some (.int x), none]) (st' := [.int x]) (h' := (n, sl, wKK kk, I, L, wQQ q)) 1 rfl ?_
  refine tv_csE [.int x] [] rfl rfl (by omega) rfl (Nat.le_of_ble_eq_true rfl) (Nat.le_of_ble_eq_true rfl) (ev_isDay) ?_
  refine tv_b (pc' := (if (sp_isDay x) = 0 then 17 else 7)) (ls' := [some (.ref 0), some (.int x), none]) (st' := []) (h' := (n, sl, wKK kk, I, L, wQQ q)) 1 rfl ?_
  refine tv_f (hx) ?_
  refine tv_b (pc' := 11) (ls' := [some (.ref 0), some (.int x), none]) (st' := [.ref 55]) (h' := (n, sl, wKK kk, I, L, wQQ q)) 2 rfl ?_
  refine tv_cvE [] [] rfl rfl (by omega) rfl (Nat.le_of_ble_eq_true rfl) (Nat.le_of_ble_eq_true rfl) (Or.inr (Or.inr rfl)) (ev_b_isFull) ?_
  refine tv_b (pc' := (if (sp_b_isFull I L) = 0 then 27 else 17)) (ls' := [some (.ref 0), some (.int x), none]) (st' := []) (h' := (n, sl, wKK kk, I, L, wQQ q)) 1 rfl ?_
  refine tv_t (isF0 h2 hC2) ?_
  refine tv_b (pc' := 31) (ls' := [some (.ref 0), some (.int x), none]) (st' := [.ref 57]) (h' := (n, sl, wKK kk, I, L, wQQ q)) 2 rfl ?_
  refine tv_cv [] [] rfl rfl (by omega) rfl (Nat.le_of_ble_eq_true rfl) (Nat.le_of_ble_eq_true rfl) (Or.inr (Or.inr rfl)) (tv_r_read hH hW hn) ?_
  intro rv9 h9 ho
  rcases hs : pa_read tx T with ⟨k0, l0⟩ | l0 <;> rw [hs] at ho
  · obtain ⟨rfl, hk0, hk5, I0, hM, rfl⟩ := ho
    refine tv_b (pc' := 64) (ls' := [some (.ref 0), some (.int x), some (.null)]) (st' := [.int (-1)]) (h' := (n, sl, wKK kk, I0, L, wQQ q)) 5 rfl ?_
    exact tv_ri rfl (by unfold mnP; rw [hs]; exact ⟨rfl, hk0, hk5, I0, hM, rfl⟩)
  · obtain ⟨rfl, hl0, I0, hM, rfl⟩ := ho
    refine tv_b (pc' := 47) (ls' := [some (.ref 0), some (.int x), some (.ref n)]) (st' := [.ref 55]) (h' := (n + 1, sl + (pa_flat l0).length, wKK (va_up kk n (20, (pa_flat l0).length)), (rcI I I0 n l0), va_up L n (fun _ => 0), wQQ (va_up q n (fun _ => none)))) 5 rfl ?_
    refine tv_newa rfl (show 131 ≤ n + 1 by omega) ?_
    refine tv_b (pc' := 58) (ls' := [some (.ref 0), some (.int x), some (.ref n)]) (st' := [.ref n, .int 0, .int 0, .int 0, .int x, .int x, .int 4, .ref (n + 1), .ref (n + 1), .ref 55]) (h' := (n + 1 + 1, sl + (pa_flat l0).length + 9, wKK (va_up (va_up kk n (20, (pa_flat l0).length)) (n + 1) (0, 0)), va_up (rcI I I0 n l0) (n + 1) (fun _ => 0), va_up (va_up L n (fun _ => 0)) (n + 1) (fun _ => 0), wQQ (va_up (va_up q n (fun _ => none)) (n + 1) (fun _ => none)))) 8 rfl ?_
    refine tv_cvE [.int 4, .int x, .int x, .int 0, .int 0, .int 0, .ref n] [.ref (n + 1), .ref 55] rfl rfl (by omega) rfl (Nat.le_of_ble_eq_true rfl) (Nat.le_of_ble_eq_true rfl) (Or.inl rfl) (ev_a_init (o := some n) rfl ⟨by omega, va_e1⟩ va_e1) ?_
    refine tv_hI (I' := va_up (rcI I I0 n l0) (n + 1) (acR 4 x x 0 0 0)) va_uu ?_
    refine tv_hQ (Q' := wQQ (qNew (va_up q n (fun _ => none)) (n + 1) (some n))) (by rw [qNew_e]) ?_
    obtain ⟨hB, hen⟩ := hX l0 hs
    have hbX := hen
    obtain ⟨e0, e1, e2, e3, e4, e5, e6, e7, e8, e9, e10⟩ := hbX
    have G2 := cGr_rc (l := l0) hM hn G
    obtain ⟨g1, g2, ⟨⟨b1, b2, b3⟩, b4, b5, b6, b7, b8⟩, g4, g5⟩ := G2
    refine tv_cv [.ref (n + 1)] [] rfl rfl (by omega) rfl (Nat.le_of_ble_eq_true rfl) (Nat.le_of_ble_eq_true rfl) (Or.inr (Or.inr rfl)) (tv_b_wrn (s := 4) (x := x) (a := 0) (b := 0) (c := 0) hC2 hB0 hB hen g1 g2 b1 b2 b3 (fun i hi => cAct_r rfl ⟨(e4 (i + 1) (by omega) (by omega)).1, (e4 (i + 1) (by omega) (by omega)).2.1, (e4 (i + 1) (by omega) (by omega)).2.2.1, (e4 (i + 1) (by omega) (by omega)).2.2.2.1, (e4 (i + 1) (by omega) (by omega)).2.2.2.2, (hv (i + 1) (by omega) (by omega)).symm⟩ (b5 i hi)) (cAct_4 e5 e6 e10) rfl b6 b7 b8 g4 g5 (by omega) (va_n1 (show 56 ≠ n + 1 by omega))) ?_
    rintro rv9 h9 ⟨rfl, I9, L9, R9, rfl, g9, l9⟩
    exact tv_ri rfl (by unfold mnP; rw [hs]; exact ⟨by omega, I0, hM, rfl, I9, L9, R9, rfl, g9, l9⟩)
theorem ev_x_mandD {d n sl : Nat} {kk : Nat → Nat × Nat} {I : Nat → Nat → Int32} {L : Nat → Nat → Int64} {q : Nat → Nat → Option Nat} {x : Int32} (hx : sp_isDay x = 0) : am_Ev (d + 1) 121 0 (am_ent 3 [.ref 0, .int x]) [] (n, sl, wKK kk, I, L, wQQ q) (some (.int (-2)), (n, sl, wKK kk, va_up I 57 (upd (I 57) 1 0), L, wQQ q)) := by
  refine tv_ev ?_
  show am_T _ _ 0 [some (.ref 0), some (.int x), none] _ _ _
  refine tv_b (pc' := 1) (ls' := [some (.ref 0), some (.int x), none]) (st' := [.int x]) (h' := (n, sl, wKK kk, I, L, wQQ q)) 1 rfl ?_
  refine tv_csE [.int x] [] rfl rfl (by omega) rfl (Nat.le_of_ble_eq_true rfl) (Nat.le_of_ble_eq_true rfl) (ev_isDay) ?_
  refine tv_b (pc' := (if (sp_isDay x) = 0 then 17 else 7)) (ls' := [some (.ref 0), some (.int x), none]) (st' := []) (h' := (n, sl, wKK kk, I, L, wQQ q)) 1 rfl ?_
  refine tv_t (hx) ?_
  refine tv_b (pc' := 21) (ls' := [some (.ref 0), some (.int x), none]) (st' := [.ref 57]) (h' := (n, sl, wKK kk, I, L, wQQ q)) 2 rfl ?_
  refine tv_cvE [] [] rfl rfl (by omega) rfl (Nat.le_of_ble_eq_true rfl) (Nat.le_of_ble_eq_true rfl) (Or.inr (Or.inr rfl)) (ev_r_drop) ?_
  refine tv_b (pc' := 26) (ls' := [some (.ref 0), some (.int x), none]) (st' := [.int (-2)]) (h' := (n, sl, wKK kk, sI_r_drop I L, sL_r_drop I L, wQQ q)) 1 rfl ?_
  exact tv_ri rfl ⟨rfl, rfl⟩
theorem ev_x_mandA {d n sl : Nat} {kk : Nat → Nat × Nat} {I : Nat → Nat → Int32} {L : Nat → Nat → Int64} {q : Nat → Nat → Option Nat} {x : Int32} (hx : ¬ sp_isDay x = 0) (h2 : I 55 2 = nI 200) : am_Ev (d + 1) 121 0 (am_ent 3 [.ref 0, .int x]) [] (n, sl, wKK kk, I, L, wQQ q) (some (.int (-2)), (n, sl, wKK kk, va_up I 57 (upd (I 57) 1 0), L, wQQ q)) := by
  refine tv_ev ?_
  show am_T _ _ 0 [some (.ref 0), some (.int x), none] _ _ _
  refine tv_b (pc' := 1) (ls' := [some (.ref 0), some (.int x), none]) (st' := [.int x]) (h' := (n, sl, wKK kk, I, L, wQQ q)) 1 rfl ?_
  refine tv_csE [.int x] [] rfl rfl (by omega) rfl (Nat.le_of_ble_eq_true rfl) (Nat.le_of_ble_eq_true rfl) (ev_isDay) ?_
  refine tv_b (pc' := (if (sp_isDay x) = 0 then 17 else 7)) (ls' := [some (.ref 0), some (.int x), none]) (st' := []) (h' := (n, sl, wKK kk, I, L, wQQ q)) 1 rfl ?_
  refine tv_f (hx) ?_
  refine tv_b (pc' := 11) (ls' := [some (.ref 0), some (.int x), none]) (st' := [.ref 55]) (h' := (n, sl, wKK kk, I, L, wQQ q)) 2 rfl ?_
  refine tv_cvE [] [] rfl rfl (by omega) rfl (Nat.le_of_ble_eq_true rfl) (Nat.le_of_ble_eq_true rfl) (Or.inr (Or.inr rfl)) (ev_b_isFull) ?_
  refine tv_b (pc' := (if (sp_b_isFull I L) = 0 then 27 else 17)) (ls' := [some (.ref 0), some (.int x), none]) (st' := []) (h' := (n, sl, wKK kk, I, L, wQQ q)) 1 rfl ?_
  refine tv_f (isF1 h2) ?_
  refine tv_b (pc' := 21) (ls' := [some (.ref 0), some (.int x), none]) (st' := [.ref 57]) (h' := (n, sl, wKK kk, I, L, wQQ q)) 2 rfl ?_
  refine tv_cvE [] [] rfl rfl (by omega) rfl (Nat.le_of_ble_eq_true rfl) (Nat.le_of_ble_eq_true rfl) (Or.inr (Or.inr rfl)) (ev_r_drop) ?_
  refine tv_b (pc' := 26) (ls' := [some (.ref 0), some (.int x), none]) (st' := [.int (-2)]) (h' := (n, sl, wKK kk, sI_r_drop I L, sL_r_drop I L, wQQ q)) 1 rfl ?_
  exact tv_ri rfl ⟨rfl, rfl⟩
theorem tv_x_annul {d n sl : Nat} {kk : Nat → Nat × Nat} {I : Nat → Nat → Int32} {L : Nat → Nat → Int64} {q : Nat → Nat → Option Nat} {x : Int32} {P : Option Value → am_H → Prop} (hP : ∀ rv h1, P rv h1 → ∃ z, rv = some (.int z)) (h : am_T d 11 0 (am_ent 3 [.ref 55, .int x]) [] (n, sl, wKK kk, I, L, wQQ q) P) : am_T (d + 1) 123 0 (am_ent 2 [.ref 0, .int x]) [] (n, sl, wKK kk, I, L, wQQ q) P := by
  show am_T _ _ 0 [some (.ref 0), some (.int x)] _ _ _
  refine tv_b (pc' := 5) (ls' := [some (.ref 0), some (.int x)]) (st' := [.int x, .ref 55]) (h' := (n, sl, wKK kk, I, L, wQQ q)) 3 rfl ?_
  refine tv_cv [.int x] [] rfl rfl (by omega) rfl (Nat.le_of_ble_eq_true rfl) (Nat.le_of_ble_eq_true rfl) (Or.inr (Or.inr rfl)) (h) ?_
  intro rv9 h9 hp
  obtain ⟨z, rfl⟩ := hP _ _ hp
  exact tv_ri rfl hp
theorem tv_x_as {d n sl : Nat} {kk : Nat → Nat × Nat} {I : Nat → Nat → Int32} {L : Nat → Nat → Int64} {q : Nat → Nat → Option Nat} {x : Int32} {P : Option Value → am_H → Prop} (hP : ∀ rv h1, P rv h1 → ∃ z, rv = some (.int z) ∧ (z = 0 ∨ z = 1)) (h : am_T d 12 0 (am_ent 2 [.ref 55, .int x]) [] (n, sl, wKK kk, I, L, wQQ q) P) : am_T (d + 1) 124 0 (am_ent 2 [.ref 0, .int x]) [] (n, sl, wKK kk, I, L, wQQ q) P := by
  show am_T _ _ 0 [some (.ref 0), some (.int x)] _ _ _
  refine tv_b (pc' := 5) (ls' := [some (.ref 0), some (.int x)]) (st' := [.int x, .ref 55]) (h' := (n, sl, wKK kk, I, L, wQQ q)) 3 rfl ?_
  refine tv_cv [.int x] [] rfl rfl (by omega) rfl (Nat.le_of_ble_eq_true rfl) (Nat.le_of_ble_eq_true rfl) (Or.inr (Or.inr rfl)) (h) ?_
  intro rv9 h9 hp
  obtain ⟨z, rfl, hz⟩ := hP _ _ hp
  exact tv_rz rfl hz hp
