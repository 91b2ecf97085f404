/-! THE REFERENCE'S ANSWERS ON DAYS -/
theorem sp_m_is_nI {D M : Nat} (h : D ≤ M) (hM : M < 2 ^ 31) : ¬ sp_m_is (nI D) 0 (nI M) = 0 := by
  unfold sp_m_is
  rw [if_neg (Int32.not_lt.mpr (nI_0le (by omega))), if_neg (nI_notlt h (by omega))]
  decide
theorem sp_m_isDay_nI {D : Nat} (h : D < 400) : ¬ sp_m_isDay (nI D) = 0 := sp_m_is_nI (M := 399) (by omega) (by omega)
theorem sp_m_isColumn_nI {D : Nat} (h : D < 16) : ¬ sp_m_isColumn (nI D) = 0 := sp_m_is_nI (M := 15) (by omega) (by omega)
def sp_m_lean (D : Nat) (I : Nat → Nat → Int32) (L : Nat → Nat → Int64) : Int32 := ((sL_m_play I L) 114 D).toInt32
def sI_m_lean (D : Nat) (I : Nat → Nat → Int32) (L : Nat → Nat → Int64) : Nat → Nat → Int32 := (sI_m_play I L)
def sL_m_lean (D : Nat) (I : Nat → Nat → Int32) (L : Nat → Nat → Int64) : Nat → Nat → Int64 := (sL_m_play I L)
theorem ev_m_lean {d : Nat} {n sl : Nat} {k : Nat → Nat × Nat} {I : Nat → Nat → Int32} {L : Nat → Nat → Int64} {q : Nat → Nat → Option Nat} {D : Nat} (hD : D ≤ 400) (hN : sp_m_now I L = nI (sp_m_now I L).toNatClampNeg) (hN2 : (sp_m_now I L).toNatClampNeg ≤ 200) (hx : ∀ j, j < (sp_m_now I L).toNatClampNeg → I 107 (j + 1) = 1 ∨ I 107 (j + 1) = 2 → ¬ (16 * I 108 (j + 1) + I 109 (j + 1) < 0 ∨ 6400 ≤ (16 * I 108 (j + 1) + I 109 (j + 1)).toNatClampNeg)) (hl : ∀ j, j < (sp_m_now I L).toNatClampNeg → I 107 (j + 1) = 0 → I 108 (j + 1) = nI (I 108 (j + 1)).toNatClampNeg ∧ I 111 (j + 1) = nI (I 111 (j + 1)).toNatClampNeg ∧ (I 108 (j + 1)).toNatClampNeg ≤ (I 111 (j + 1)).toNatClampNeg + 1 ∧ (I 111 (j + 1)).toNatClampNeg < 400) : am_Ev (d + 5) 209 0 (am_ent 2 [.ref 80, .int (nI D)]) [] (n, sl, wKK k, I, L, wQQ q) (some (.int (sp_m_lean D I L)), (n, sl, wKK k, sI_m_lean D I L, sL_m_lean D I L, wQQ q)) := by
  show am_Ev _ _ 0 [some (.ref 80), some (.int (nI D))] _ _ (some (.int (((sL_m_play I L) 114 D).toInt32)), (n, sl, wKK k, (sI_m_play I L), (sL_m_play I L), wQQ q))
  refine ev_b (pc' := 5) (ls' := [some (.ref 80), some (.int (nI D))]) (st' := [.int 400, .int 0, .int (nI D)]) (h' := (n, sl, wKK k, I, L, wQQ q)) 3 rfl ?_
  refine ev_cs [.int (nI D), .int 0, .int 400] [] rfl rfl (by omega) rfl (Nat.le_of_ble_eq_true rfl) (Nat.le_of_ble_eq_true rfl) (ev_m_is) ?_
  refine ev_b (pc' := (if (sp_m_is (nI D) 0 400) = 0 then 11 else 15)) (ls' := [some (.ref 80), some (.int (nI D))]) (st' := []) (h' := (n, sl, wKK k, I, L, wQQ q)) 1 rfl ?_
  refine ev_f (sp_m_is_nI (M := 400) hD (by omega)) ?_
  refine ev_b (pc' := 16) (ls' := [some (.ref 80), some (.int (nI D))]) (st' := [.ref 80]) (h' := (n, sl, wKK k, I, L, wQQ q)) 1 rfl ?_
  refine ev_cv [] [] rfl rfl (by omega) rfl (Nat.le_of_ble_eq_true rfl) (Nat.le_of_ble_eq_true rfl) (Or.inr (Or.inr rfl)) (ev_m_play hN hN2 hx hl) ?_
  refine ev_b (pc' := 24) (ls' := [some (.ref 80), some (.int (nI D))]) (st' := [.int (nI D), .ref 114]) (h' := (n, sl, wKK k, sI_m_play I L, sL_m_play I L, wQQ q)) 3 rfl ?_
  refine ev_lalN (k := D) rfl (rfl) (by omega) ?_
  refine ev_b (pc' := 26) (ls' := [some (.ref 80), some (.int (nI D))]) (st' := [.int (((sL_m_play I L) 114 D).toInt32)]) (h' := (n, sl, wKK k, sI_m_play I L, sL_m_play I L, wQQ q)) 1 rfl ?_
  exact ev_ri rfl rfl rfl
def sp_m_settled (c : Nat) (D : Nat) (I : Nat → Nat → Int32) (L : Nat → Nat → Int64) : Int64 := (sL_m_play I L) 113 ((16 * D) + c)
def sI_m_settled (c : Nat) (D : Nat) (I : Nat → Nat → Int32) (L : Nat → Nat → Int64) : Nat → Nat → Int32 := (sI_m_play I L)
def sL_m_settled (c : Nat) (D : Nat) (I : Nat → Nat → Int32) (L : Nat → Nat → Int64) : Nat → Nat → Int64 := (sL_m_play I L)
theorem ev_m_settled {d : Nat} {n sl : Nat} {k : Nat → Nat × Nat} {I : Nat → Nat → Int32} {L : Nat → Nat → Int64} {q : Nat → Nat → Option Nat} {c : Nat} {D : Nat} (hc : c < 16) (hD : D ≤ 400) (hN : sp_m_now I L = nI (sp_m_now I L).toNatClampNeg) (hN2 : (sp_m_now I L).toNatClampNeg ≤ 200) (hx : ∀ j, j < (sp_m_now I L).toNatClampNeg → I 107 (j + 1) = 1 ∨ I 107 (j + 1) = 2 → ¬ (16 * I 108 (j + 1) + I 109 (j + 1) < 0 ∨ 6400 ≤ (16 * I 108 (j + 1) + I 109 (j + 1)).toNatClampNeg)) (hl : ∀ j, j < (sp_m_now I L).toNatClampNeg → I 107 (j + 1) = 0 → I 108 (j + 1) = nI (I 108 (j + 1)).toNatClampNeg ∧ I 111 (j + 1) = nI (I 111 (j + 1)).toNatClampNeg ∧ (I 108 (j + 1)).toNatClampNeg ≤ (I 111 (j + 1)).toNatClampNeg + 1 ∧ (I 111 (j + 1)).toNatClampNeg < 400) : am_Ev (d + 5) 210 0 (am_ent 3 [.ref 80, .int (nI c), .int (nI D)]) [] (n, sl, wKK k, I, L, wQQ q) (some (.long (sp_m_settled c D I L)), (n, sl, wKK k, sI_m_settled c D I L, sL_m_settled c D I L, wQQ q)) := by
  show am_Ev _ _ 0 [some (.ref 80), some (.int (nI c)), some (.int (nI D))] _ _ (some (.long ((sL_m_play I L) 113 ((16 * D) + c))), (n, sl, wKK k, (sI_m_play I L), (sL_m_play I L), wQQ q))
  refine ev_b (pc' := 1) (ls' := [some (.ref 80), some (.int (nI c)), some (.int (nI D))]) (st' := [.int (nI c)]) (h' := (n, sl, wKK k, I, L, wQQ q)) 1 rfl ?_
  refine ev_cs [.int (nI c)] [] rfl rfl (by omega) rfl (Nat.le_of_ble_eq_true rfl) (Nat.le_of_ble_eq_true rfl) (ev_m_isColumn) ?_
  refine ev_b (pc' := (if (sp_m_isColumn (nI c)) = 0 then 18 else 7)) (ls' := [some (.ref 80), some (.int (nI c)), some (.int (nI D))]) (st' := []) (h' := (n, sl, wKK k, I, L, wQQ q)) 1 rfl ?_
  refine ev_f (sp_m_isColumn_nI hc) ?_
  refine ev_b (pc' := 12) (ls' := [some (.ref 80), some (.int (nI c)), some (.int (nI D))]) (st' := [.int 400, .int 0, .int (nI D)]) (h' := (n, sl, wKK k, I, L, wQQ q)) 3 rfl ?_
  refine ev_cs [.int (nI D), .int 0, .int 400] [] rfl rfl (by omega) rfl (Nat.le_of_ble_eq_true rfl) (Nat.le_of_ble_eq_true rfl) (ev_m_is) ?_
  refine ev_b (pc' := (if (sp_m_is (nI D) 0 400) = 0 then 18 else 22)) (ls' := [some (.ref 80), some (.int (nI c)), some (.int (nI D))]) (st' := []) (h' := (n, sl, wKK k, I, L, wQQ q)) 1 rfl ?_
  refine ev_f (sp_m_is_nI (M := 400) hD (by omega)) ?_
  refine ev_b (pc' := 23) (ls' := [some (.ref 80), some (.int (nI c)), some (.int (nI D))]) (st' := [.ref 80]) (h' := (n, sl, wKK k, I, L, wQQ q)) 1 rfl ?_
  refine ev_cv [] [] rfl rfl (by omega) rfl (Nat.le_of_ble_eq_true rfl) (Nat.le_of_ble_eq_true rfl) (Or.inr (Or.inr rfl)) (ev_m_play hN hN2 hx hl) ?_
  refine ev_b (pc' := 33) (ls' := [some (.ref 80), some (.int (nI c)), some (.int (nI D))]) (st' := [.int (nI D), .int 16, .ref 113]) (h' := (n, sl, wKK k, sI_m_play I L, sL_m_play I L, wQQ q)) 4 rfl ?_
  refine ev_b (pc' := 34) (ls' := [some (.ref 80), some (.int (nI c)), some (.int (nI D))]) (st' := [.int (16 * (nI D)), .ref 113]) (h' := (n, sl, wKK k, sI_m_play I L, sL_m_play I L, wQQ q)) 1 rfl ?_
  refine ev_top (show 16 * (nI D) = nI (16 * D) from nI_mul 16 D) ?_
  refine ev_b (pc' := 35) (ls' := [some (.ref 80), some (.int (nI c)), some (.int (nI D))]) (st' := [.int (nI c), .int (nI (16 * D)), .ref 113]) (h' := (n, sl, wKK k, sI_m_play I L, sL_m_play I L, wQQ q)) 1 rfl ?_
  refine ev_b (pc' := 36) (ls' := [some (.ref 80), some (.int (nI c)), some (.int (nI D))]) (st' := [.int ((nI (16 * D)) + (nI c)), .ref 113]) (h' := (n, sl, wKK k, sI_m_play I L, sL_m_play I L, wQQ q)) 1 rfl ?_
  refine ev_top (show (nI (16 * D)) + (nI c) = nI ((16 * D) + c) from nI_add (16 * D) c) ?_
  refine ev_lalN (k := ((16 * D) + c)) rfl (rfl) (by omega) ?_
  exact ev_rl rfl rfl rfl
def sp_m_load (c : Nat) (D : Nat) (I : Nat → Nat → Int32) (L : Nat → Nat → Int64) : Int32 := (sp_m_loadOf (nI c) (sI_m_weighs D ((sL_m_play I L) 114 D) (sI_m_play I L) (sL_m_play I L)) (sL_m_weighs D ((sL_m_play I L) 114 D) (sI_m_play I L) (sL_m_play I L))).toInt32
def sI_m_load (c : Nat) (D : Nat) (I : Nat → Nat → Int32) (L : Nat → Nat → Int64) : Nat → Nat → Int32 := (sI_m_weighs D ((sL_m_play I L) 114 D) (sI_m_play I L) (sL_m_play I L))
def sL_m_load (c : Nat) (D : Nat) (I : Nat → Nat → Int32) (L : Nat → Nat → Int64) : Nat → Nat → Int64 := (sL_m_weighs D ((sL_m_play I L) 114 D) (sI_m_play I L) (sL_m_play I L))
theorem ev_m_load {d : Nat} {n sl : Nat} {k : Nat → Nat × Nat} {I : Nat → Nat → Int32} {L : Nat → Nat → Int64} {q : Nat → Nat → Option Nat} {c : Nat} {D : Nat} (hc : c < 16) (hD : D < 400) (hN : sp_m_now I L = nI (sp_m_now I L).toNatClampNeg) (hN2 : (sp_m_now I L).toNatClampNeg ≤ 200) (hx : ∀ j, j < (sp_m_now I L).toNatClampNeg → I 107 (j + 1) = 1 ∨ I 107 (j + 1) = 2 → ¬ (16 * I 108 (j + 1) + I 109 (j + 1) < 0 ∨ 6400 ≤ (16 * I 108 (j + 1) + I 109 (j + 1)).toNatClampNeg)) (hl : ∀ j, j < (sp_m_now I L).toNatClampNeg → I 107 (j + 1) = 0 → I 108 (j + 1) = nI (I 108 (j + 1)).toNatClampNeg ∧ I 111 (j + 1) = nI (I 111 (j + 1)).toNatClampNeg ∧ (I 108 (j + 1)).toNatClampNeg ≤ (I 111 (j + 1)).toNatClampNeg + 1 ∧ (I 111 (j + 1)).toNatClampNeg < 400) : am_Ev (d + 5) 211 0 (am_ent 3 [.ref 80, .int (nI c), .int (nI D)]) [] (n, sl, wKK k, I, L, wQQ q) (some (.int (sp_m_load c D I L)), (n, sl, wKK k, sI_m_load c D I L, sL_m_load c D I L, wQQ q)) := by
  show am_Ev _ _ 0 [some (.ref 80), some (.int (nI c)), some (.int (nI D))] _ _ (some (.int ((sp_m_loadOf (nI c) (sI_m_weighs D ((sL_m_play I L) 114 D) (sI_m_play I L) (sL_m_play I L)) (sL_m_weighs D ((sL_m_play I L) 114 D) (sI_m_play I L) (sL_m_play I L))).toInt32)), (n, sl, wKK k, (sI_m_weighs D ((sL_m_play I L) 114 D) (sI_m_play I L) (sL_m_play I L)), (sL_m_weighs D ((sL_m_play I L) 114 D) (sI_m_play I L) (sL_m_play I L)), wQQ q))
  refine ev_b (pc' := 1) (ls' := [some (.ref 80), some (.int (nI c)), some (.int (nI D))]) (st' := [.int (nI c)]) (h' := (n, sl, wKK k, I, L, wQQ q)) 1 rfl ?_
  refine ev_cs [.int (nI c)] [] rfl rfl (by omega) rfl (Nat.le_of_ble_eq_true rfl) (Nat.le_of_ble_eq_true rfl) (ev_m_isColumn) ?_
  refine ev_b (pc' := (if (sp_m_isColumn (nI c)) = 0 then 14 else 7)) (ls' := [some (.ref 80), some (.int (nI c)), some (.int (nI D))]) (st' := []) (h' := (n, sl, wKK k, I, L, wQQ q)) 1 rfl ?_
  refine ev_f (sp_m_isColumn_nI hc) ?_
  refine ev_b (pc' := 8) (ls' := [some (.ref 80), some (.int (nI c)), some (.int (nI D))]) (st' := [.int (nI D)]) (h' := (n, sl, wKK k, I, L, wQQ q)) 1 rfl ?_
  refine ev_cs [.int (nI D)] [] rfl rfl (by omega) rfl (Nat.le_of_ble_eq_true rfl) (Nat.le_of_ble_eq_true rfl) (ev_m_isDay) ?_
  refine ev_b (pc' := (if (sp_m_isDay (nI D)) = 0 then 14 else 16)) (ls' := [some (.ref 80), some (.int (nI c)), some (.int (nI D))]) (st' := []) (h' := (n, sl, wKK k, I, L, wQQ q)) 1 rfl ?_
  refine ev_f (sp_m_isDay_nI hD) ?_
  refine ev_b (pc' := 17) (ls' := [some (.ref 80), some (.int (nI c)), some (.int (nI D))]) (st' := [.ref 80]) (h' := (n, sl, wKK k, I, L, wQQ q)) 1 rfl ?_
  refine ev_cv [] [] rfl rfl (by omega) rfl (Nat.le_of_ble_eq_true rfl) (Nat.le_of_ble_eq_true rfl) (Or.inr (Or.inr rfl)) (ev_m_play hN hN2 hx hl) ?_
  refine ev_b (pc' := 27) (ls' := [some (.ref 80), some (.int (nI c)), some (.int (nI D))]) (st' := [.int (nI D), .ref 114, .int (nI D), .ref 80]) (h' := (n, sl, wKK k, sI_m_play I L, sL_m_play I L, wQQ q)) 5 rfl ?_
  refine ev_lalN (k := D) rfl (rfl) (by omega) ?_
  refine ev_cv [.int (nI D), .long ((sL_m_play I L) 114 D)] [] rfl rfl (by omega) rfl (Nat.le_of_ble_eq_true rfl) (Nat.le_of_ble_eq_true rfl) (Or.inr (Or.inr rfl)) (ev_m_weighs (by omega)) ?_
  refine ev_b (pc' := 33) (ls' := [some (.ref 80), some (.int (nI c)), some (.int (nI D))]) (st' := [.int (nI c), .ref 80]) (h' := (n, sl, wKK k, sI_m_weighs D ((sL_m_play I L) 114 D) (sI_m_play I L) (sL_m_play I L), sL_m_weighs D ((sL_m_play I L) 114 D) (sI_m_play I L) (sL_m_play I L), wQQ q)) 2 rfl ?_
  refine ev_cv [.int (nI c)] [] rfl rfl (by omega) rfl (Nat.le_of_ble_eq_true rfl) (Nat.le_of_ble_eq_true rfl) (Or.inr (Or.inr rfl)) (ev_m_loadOf) ?_
  refine ev_b (pc' := 37) (ls' := [some (.ref 80), some (.int (nI c)), some (.int (nI D))]) (st' := [.int ((sp_m_loadOf (nI c) (sI_m_weighs D ((sL_m_play I L) 114 D) (sI_m_play I L) (sL_m_play I L)) (sL_m_weighs D ((sL_m_play I L) 114 D) (sI_m_play I L) (sL_m_play I L))).toInt32)]) (h' := (n, sl, wKK k, sI_m_weighs D ((sL_m_play I L) 114 D) (sI_m_play I L) (sL_m_play I L), sL_m_weighs D ((sL_m_play I L) 114 D) (sI_m_play I L) (sL_m_play I L), wQQ q)) 1 rfl ?_
  exact ev_ri rfl rfl rfl
