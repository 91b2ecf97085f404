/-! THE CLASS ANSWERS ON DAYS -/
theorem nI_toI64 {D : Nat} (h : D < 2 ^ 31) : (nI D).toInt64.toInt = (D : Int) := by
  rw [Int32.toInt_toInt64]
  exact Int32.toInt_ofNat_small h
theorem lg_nlt {a b : Int64} (h : b ≤ a) : ¬ lg_cmp a b < 0 := by
  unfold lg_cmp
  by_cases q : b < a
  · rw [if_pos q]; decide
  · rw [if_neg q]
    by_cases e : a = b
    · rw [if_pos e]; decide
    · exact absurd (Int64.le_antisymm (Int64.not_lt.mp q) h) e
theorem lg_ngt {a b : Int64} (h : a ≤ b) : ¬ 0 < lg_cmp a b := by
  unfold lg_cmp
  rw [if_neg (Int64.not_lt.mpr h)]
  by_cases e : a = b
  · rw [if_pos e]; decide
  · rw [if_neg e]; decide
theorem sp_isWithin_nI {D M : Nat} {m : Int64} (h : D ≤ M) (hM : M < 2 ^ 31) (hm : m.toInt = (M : Int)) : ¬ sp_isWithin (nI D).toInt64 0 m = 0 := by
  have e1 : (nI D).toInt64.toInt = (D : Int) := nI_toI64 (by omega)
  have a1 : (0 : Int64) ≤ (nI D).toInt64 := Int64.le_iff_toInt_le.mpr (by rw [e1]; show (0 : Int) ≤ _; omega)
  have a2 : (nI D).toInt64 ≤ m := Int64.le_iff_toInt_le.mpr (by rw [e1, hm]; omega)
  unfold sp_isWithin
  rw [if_neg (lg_nlt a1), if_neg (lg_ngt a2)]
  decide
theorem sp_isColumn_nI {c : Nat} (h : c < 16) : ¬ sp_isColumn (nI c) = 0 := by
  show ¬ (if nI c < 0 then 0 else (if nI 16 ≤ nI c then 0 else 1) : Int32) = 0
  rw [if_neg (Int32.not_lt.mpr (nI_0le (by omega))), if_neg (nI_ge h (by omega))]
  decide
def sp_x_lean (D : Nat) (I : Nat → Nat → Int32) (L : Nat → Nat → Int64) : Int32 := sp_d_leanAt (nI D) (sI_d_reach D I L) (sL_d_reach D I L)
def sI_x_lean (D : Nat) (I : Nat → Nat → Int32) (L : Nat → Nat → Int64) : Nat → Nat → Int32 := (sI_d_reach D I L)
def sL_x_lean (D : Nat) (I : Nat → Nat → Int32) (L : Nat → Nat → Int64) : Nat → Nat → Int64 := (sL_d_reach D I L)
theorem ev_x_lean {d : Nat} {n sl : Nat} {k : Nat → Nat × Nat} {I : Nat → Nat → Int32} {L : Nat → Nat → Int64} {q : Nat → Nat → Option Nat} {D : Nat} (hD : D ≤ 400) (hr : I 13 11 = nI (I 13 11).toNatClampNeg) (hA : (I 13 11).toNatClampNeg ≤ 400) (hs : ∀ j, I 14 j ≤ 1000) : am_Ev (d + 6) 125 0 (am_ent 2 [.ref 0, .int (nI D)]) [] (n, sl, wKK k, I, L, wQQ q) (some (.int (sp_x_lean D I L)), (n, sl, wKK k, sI_x_lean D I L, sL_x_lean D I L, wQQ q)) := by
  show am_Ev _ _ 0 [some (.ref 0), some (.int (nI D))] _ _ (some (.int (sp_d_leanAt (nI D) (sI_d_reach D I L) (sL_d_reach D I L))), (n, sl, wKK k, (sI_d_reach D I L), (sL_d_reach D I L), wQQ q))
  refine ev_b (pc' := 6) (ls' := [some (.ref 0), some (.int (nI D))]) (st' := [.long 400, .long 0, .long ((nI D).toInt64)]) (h' := (n, sl, wKK k, I, L, wQQ q)) 4 rfl ?_
  refine ev_cs [.long ((nI D).toInt64), .long 0, .long 400] [] rfl rfl (by omega) rfl (Nat.le_of_ble_eq_true rfl) (Nat.le_of_ble_eq_true rfl) (ev_isWithin) ?_
  refine ev_b (pc' := (if (sp_isWithin ((nI D).toInt64) 0 400) = 0 then 12 else 15)) (ls' := [some (.ref 0), some (.int (nI D))]) (st' := []) (h' := (n, sl, wKK k, I, L, wQQ q)) 1 rfl ?_
  refine ev_f (sp_isWithin_nI (M := 400) hD (by omega) rfl) ?_
  refine ev_b (pc' := 20) (ls' := [some (.ref 0), some (.int (nI D))]) (st' := [.int (nI D), .ref 13]) (h' := (n, sl, wKK k, I, L, wQQ q)) 3 rfl ?_
  refine ev_cv [.int (nI D)] [] rfl rfl (by omega) rfl (Nat.le_of_ble_eq_true rfl) (Nat.le_of_ble_eq_true rfl) (Or.inr (Or.inr rfl)) (ev_d_reach (by omega) hr hA hs) ?_
  refine ev_b (pc' := 28) (ls' := [some (.ref 0), some (.int (nI D))]) (st' := [.int (nI D), .ref 13]) (h' := (n, sl, wKK k, sI_d_reach D I L, sL_d_reach D I L, wQQ q)) 3 rfl ?_
  refine ev_cv [.int (nI D)] [] rfl rfl (by omega) rfl (Nat.le_of_ble_eq_true rfl) (Nat.le_of_ble_eq_true rfl) (Or.inr (Or.inr rfl)) (ev_d_leanAt) ?_
  exact ev_ri rfl rfl rfl
def sp_x_settled (c : Nat) (D : Nat) (I : Nat → Nat → Int32) (L : Nat → Nat → Int64) : Int64 := sp_d_settledAt (nI c) (nI D) (sI_d_reach D I L) (sL_d_reach D I L)
def sI_x_settled (c : Nat) (D : Nat) (I : Nat → Nat → Int32) (L : Nat → Nat → Int64) : Nat → Nat → Int32 := (sI_d_reach D I L)
def sL_x_settled (c : Nat) (D : Nat) (I : Nat → Nat → Int32) (L : Nat → Nat → Int64) : Nat → Nat → Int64 := (sL_d_reach D I L)
theorem ev_x_settled {d : Nat} {n sl : Nat} {k : Nat → Nat × Nat} {I : Nat → Nat → Int32} {L : Nat → Nat → Int64} {q : Nat → Nat → Option Nat} {c : Nat} {D : Nat} (hc : c < 16) (hD : D ≤ 400) (hr : I 13 11 = nI (I 13 11).toNatClampNeg) (hA : (I 13 11).toNatClampNeg ≤ 400) (hs : ∀ j, I 14 j ≤ 1000) : am_Ev (d + 6) 126 0 (am_ent 3 [.ref 0, .int (nI c), .int (nI D)]) [] (n, sl, wKK k, I, L, wQQ q) (some (.long (sp_x_settled c D I L)), (n, sl, wKK k, sI_x_settled c D I L, sL_x_settled c D I L, wQQ q)) := by
  show am_Ev _ _ 0 [some (.ref 0), some (.int (nI c)), some (.int (nI D))] _ _ (some (.long (sp_d_settledAt (nI c) (nI D) (sI_d_reach D I L) (sL_d_reach D I L))), (n, sl, wKK k, (sI_d_reach D I L), (sL_d_reach D I L), wQQ q))
  refine ev_b (pc' := 1) (ls' := [some (.ref 0), some (.int (nI c)), some (.int (nI D))]) (st' := [.int (nI c)]) (h' := (n, sl, wKK k, I, L, wQQ q)) 1 rfl ?_
  refine ev_cs [.int (nI c)] [] rfl rfl (by omega) rfl (Nat.le_of_ble_eq_true rfl) (Nat.le_of_ble_eq_true rfl) (ev_isColumn) ?_
  refine ev_b (pc' := (if (sp_isColumn (nI c)) = 0 then 19 else 7)) (ls' := [some (.ref 0), some (.int (nI c)), some (.int (nI D))]) (st' := []) (h' := (n, sl, wKK k, I, L, wQQ q)) 1 rfl ?_
  refine ev_f (sp_isColumn_nI hc) ?_
  refine ev_b (pc' := 13) (ls' := [some (.ref 0), some (.int (nI c)), some (.int (nI D))]) (st' := [.long 400, .long 0, .long ((nI D).toInt64)]) (h' := (n, sl, wKK k, I, L, wQQ q)) 4 rfl ?_
  refine ev_cs [.long ((nI D).toInt64), .long 0, .long 400] [] rfl rfl (by omega) rfl (Nat.le_of_ble_eq_true rfl) (Nat.le_of_ble_eq_true rfl) (ev_isWithin) ?_
  refine ev_b (pc' := (if (sp_isWithin ((nI D).toInt64) 0 400) = 0 then 19 else 23)) (ls' := [some (.ref 0), some (.int (nI c)), some (.int (nI D))]) (st' := []) (h' := (n, sl, wKK k, I, L, wQQ q)) 1 rfl ?_
  refine ev_f (sp_isWithin_nI (M := 400) hD (by omega) rfl) ?_
  refine ev_b (pc' := 28) (ls' := [some (.ref 0), some (.int (nI c)), some (.int (nI D))]) (st' := [.int (nI D), .ref 13]) (h' := (n, sl, wKK k, I, L, wQQ q)) 3 rfl ?_
  refine ev_cv [.int (nI D)] [] rfl rfl (by omega) rfl (Nat.le_of_ble_eq_true rfl) (Nat.le_of_ble_eq_true rfl) (Or.inr (Or.inr rfl)) (ev_d_reach (by omega) hr hA hs) ?_
  refine ev_b (pc' := 37) (ls' := [some (.ref 0), some (.int (nI c)), some (.int (nI D))]) (st' := [.int (nI D), .int (nI c), .ref 13]) (h' := (n, sl, wKK k, sI_d_reach D I L, sL_d_reach D I L, wQQ q)) 4 rfl ?_
  refine ev_cv [.int (nI c), .int (nI D)] [] rfl rfl (by omega) rfl (Nat.le_of_ble_eq_true rfl) (Nat.le_of_ble_eq_true rfl) (Or.inr (Or.inr rfl)) (ev_d_settledAt) ?_
  exact ev_rl rfl rfl rfl
def sp_x_load (c : Nat) (D : Nat) (I : Nat → Nat → Int32) (L : Nat → Nat → Int64) : Int32 := (sp_d_loadOf (nI c) (sp_d_totalOn (nI D) (sI_d_reach D I L) (sL_d_reach D I L)) (sp_d_momentOn (nI D) (sp_d_leanAt (nI D) (sI_d_reach D I L) (sL_d_reach D I L)) (sI_d_reach D I L) (sL_d_reach D I L)) (sI_d_reach D I L) (sL_d_reach D I L)).toInt32
def sI_x_load (c : Nat) (D : Nat) (I : Nat → Nat → Int32) (L : Nat → Nat → Int64) : Nat → Nat → Int32 := (sI_d_reach D I L)
def sL_x_load (c : Nat) (D : Nat) (I : Nat → Nat → Int32) (L : Nat → Nat → Int64) : Nat → Nat → Int64 := (sL_d_reach D I L)
theorem ev_x_load {d : Nat} {n sl : Nat} {k : Nat → Nat × Nat} {I : Nat → Nat → Int32} {L : Nat → Nat → Int64} {q : Nat → Nat → Option Nat} {c : Nat} {D : Nat} (hc : c < 16) (hD : D < 400) (hr : I 13 11 = nI (I 13 11).toNatClampNeg) (hA : (I 13 11).toNatClampNeg ≤ 400) (hs : ∀ j, I 14 j ≤ 1000) : am_Ev (d + 6) 127 0 (am_ent 3 [.ref 0, .int (nI c), .int (nI D)]) [] (n, sl, wKK k, I, L, wQQ q) (some (.int (sp_x_load c D I L)), (n, sl, wKK k, sI_x_load c D I L, sL_x_load c D I L, wQQ q)) := by
  show am_Ev _ _ 0 [some (.ref 0), some (.int (nI c)), some (.int (nI D))] _ _ (some (.int ((sp_d_loadOf (nI c) (sp_d_totalOn (nI D) (sI_d_reach D I L) (sL_d_reach D I L)) (sp_d_momentOn (nI D) (sp_d_leanAt (nI D) (sI_d_reach D I L) (sL_d_reach D I L)) (sI_d_reach D I L) (sL_d_reach D I L)) (sI_d_reach D I L) (sL_d_reach D I L)).toInt32)), (n, sl, wKK k, (sI_d_reach D I L), (sL_d_reach D I L), wQQ q))
  refine ev_b (pc' := 1) (ls' := [some (.ref 0), some (.int (nI c)), some (.int (nI D))]) (st' := [.int (nI c)]) (h' := (n, sl, wKK k, I, L, wQQ q)) 1 rfl ?_
  refine ev_cs [.int (nI c)] [] rfl rfl (by omega) rfl (Nat.le_of_ble_eq_true rfl) (Nat.le_of_ble_eq_true rfl) (ev_isColumn) ?_
  refine ev_b (pc' := (if (sp_isColumn (nI c)) = 0 then 14 else 7)) (ls' := [some (.ref 0), some (.int (nI c)), some (.int (nI D))]) (st' := []) (h' := (n, sl, wKK k, I, L, wQQ q)) 1 rfl ?_
  refine ev_f (sp_isColumn_nI hc) ?_
  refine ev_b (pc' := 8) (ls' := [some (.ref 0), some (.int (nI c)), some (.int (nI D))]) (st' := [.int (nI D)]) (h' := (n, sl, wKK k, I, L, wQQ q)) 1 rfl ?_
  refine ev_cs [.int (nI D)] [] rfl rfl (by omega) rfl (Nat.le_of_ble_eq_true rfl) (Nat.le_of_ble_eq_true rfl) (ev_isDay) ?_
  refine ev_b (pc' := (if (sp_isDay (nI D)) = 0 then 14 else 16)) (ls' := [some (.ref 0), some (.int (nI c)), some (.int (nI D))]) (st' := []) (h' := (n, sl, wKK k, I, L, wQQ q)) 1 rfl ?_
  refine ev_f (sp_isDay_nI hD) ?_
  refine ev_b (pc' := 21) (ls' := [some (.ref 0), some (.int (nI c)), some (.int (nI D))]) (st' := [.int (nI D), .ref 13]) (h' := (n, sl, wKK k, I, L, wQQ q)) 3 rfl ?_
  refine ev_cv [.int (nI D)] [] rfl rfl (by omega) rfl (Nat.le_of_ble_eq_true rfl) (Nat.le_of_ble_eq_true rfl) (Or.inr (Or.inr rfl)) (ev_d_reach (by omega) hr hA hs) ?_
  refine ev_b (pc' := 34) (ls' := [some (.ref 0), some (.int (nI c)), some (.int (nI D))]) (st' := [.int (nI D), .ref 13, .int (nI c), .ref 13]) (h' := (n, sl, wKK k, sI_d_reach D I L, sL_d_reach D I L, wQQ q)) 6 rfl ?_
  refine ev_cv [.int (nI D)] [.int (nI c), .ref 13] rfl rfl (by omega) rfl (Nat.le_of_ble_eq_true rfl) (Nat.le_of_ble_eq_true rfl) (Or.inr (Or.inr rfl)) (ev_d_totalOn) ?_
  refine ev_b (pc' := 47) (ls' := [some (.ref 0), some (.int (nI c)), some (.int (nI D))]) (st' := [.int (nI D), .ref 13, .int (nI D), .ref 13, .long (sp_d_totalOn (nI D) (sI_d_reach D I L) (sL_d_reach D I L)), .int (nI c), .ref 13]) (h' := (n, sl, wKK k, sI_d_reach D I L, sL_d_reach D I L, wQQ q)) 6 rfl ?_
  refine ev_cv [.int (nI D)] [.int (nI D), .ref 13, .long (sp_d_totalOn (nI D) (sI_d_reach D I L) (sL_d_reach D I L)), .int (nI c), .ref 13] rfl rfl (by omega) rfl (Nat.le_of_ble_eq_true rfl) (Nat.le_of_ble_eq_true rfl) (Or.inr (Or.inr rfl)) (ev_d_leanAt) ?_
  refine ev_cv [.int (nI D), .int (sp_d_leanAt (nI D) (sI_d_reach D I L) (sL_d_reach D I L))] [.long (sp_d_totalOn (nI D) (sI_d_reach D I L) (sL_d_reach D I L)), .int (nI c), .ref 13] rfl rfl (by omega) rfl (Nat.le_of_ble_eq_true rfl) (Nat.le_of_ble_eq_true rfl) (Or.inr (Or.inr rfl)) (ev_d_momentOn) ?_
  refine ev_cv [.int (nI c), .long (sp_d_totalOn (nI D) (sI_d_reach D I L) (sL_d_reach D I L)), .long (sp_d_momentOn (nI D) (sp_d_leanAt (nI D) (sI_d_reach D I L) (sL_d_reach D I L)) (sI_d_reach D I L) (sL_d_reach D I L))] [] rfl rfl (by omega) rfl (Nat.le_of_ble_eq_true rfl) (Nat.le_of_ble_eq_true rfl) (Or.inr (Or.inr rfl)) (ev_d_loadOf) ?_
  refine ev_b (pc' := 57) (ls' := [some (.ref 0), some (.int (nI c)), some (.int (nI D))]) (st' := [.int ((sp_d_loadOf (nI c) (sp_d_totalOn (nI D) (sI_d_reach D I L) (sL_d_reach D I L)) (sp_d_momentOn (nI D) (sp_d_leanAt (nI D) (sI_d_reach D I L) (sL_d_reach D I L)) (sI_d_reach D I L) (sL_d_reach D I L)) (sI_d_reach D I L) (sL_d_reach D I L)).toInt32)]) (h' := (n, sl, wKK k, sI_d_reach D I L, sL_d_reach D I L, wQQ q)) 1 rfl ?_
  exact ev_ri rfl rfl rfl
