/-! READINGS PUT RIGHT, OF BOTH SIDES -/
def sp_g_putRight (a : Nat) (I : Nat → Nat → Int32) (L : Nat → Nat → Int64) : Int32 := (if (sp_isGauge (I a 3)) = 0 then (-2000000000) else ((I a 4) - ((I 65 ((I a 3).toNatClampNeg)) * (sp_warm_on (I a 1) I L))) - ((I 66 ((I a 3).toNatClampNeg)) * (I a 1)))
theorem ev_g_putRight {d : Nat} {n sl : Nat} {k : Nat → Nat × Nat} {I : Nat → Nat → Int32} {L : Nat → Nat → Int64} {q : Nat → Nat → Option Nat} {a : Nat} (ha : 131 ≤ a ∧ k a = (0, 0)) : am_Ev (d + 2) 42 0 (am_ent 3 [.ref 64, .ref a]) [] (n, sl, wKK k, I, L, wQQ q) (some (.int (sp_g_putRight a I L)), (n, sl, wKK k, I, L, wQQ q)) := by
  show am_Ev _ _ 0 [some (.ref 64), some (.ref a), none] _ _ (some (.int (if (sp_isGauge (I a 3)) = 0 then (-2000000000) else ((I a 4) - ((I 65 ((I a 3).toNatClampNeg)) * (sp_warm_on (I a 1) I L))) - ((I 66 ((I a 3).toNatClampNeg)) * (I a 1)))), (n, sl, wKK k, I, L, wQQ q))
  refine ev_b (pc' := 1) (ls' := [some (.ref 64), some (.ref a), none]) (st' := [.ref a]) (h' := (n, sl, wKK k, I, L, wQQ q)) 1 rfl ?_
  refine ev_gfa rfl (Or.inl rfl) (am_acK ha) ?_
  refine ev_b (pc' := 6) (ls' := [some (.ref 64), some (.ref a), some (.int (I a 3))]) (st' := [.int (I a 3)]) (h' := (n, sl, wKK k, I, L, wQQ q)) 2 rfl ?_
  refine ev_cs [.int (I a 3)] [] rfl rfl (by omega) rfl (Nat.le_of_ble_eq_true rfl) (Nat.le_of_ble_eq_true rfl) (ev_isGauge) ?_
  refine ev_b (pc' := (if (sp_isGauge (I a 3)) = 0 then 12 else 15)) (ls' := [some (.ref 64), some (.ref a), some (.int (I a 3))]) (st' := []) (h' := (n, sl, wKK k, I, L, wQQ q)) 1 rfl ?_
  refine ev_ifIs (fun c9 => ?_) (fun c9 => ?_)
  · refine ev_b (pc' := 14) (ls' := [some (.ref 64), some (.ref a), some (.int (I a 3))]) (st' := [.int (-2000000000)]) (h' := (n, sl, wKK k, I, L, wQQ q)) 1 rfl ?_
    exact ev_ri rfl rfl rfl
  · refine ev_b (pc' := 16) (ls' := [some (.ref 64), some (.ref a), some (.int (I a 3))]) (st' := [.ref a]) (h' := (n, sl, wKK k, I, L, wQQ q)) 1 rfl ?_
    refine ev_gfa rfl (Or.inl rfl) (am_acK ha) ?_
    refine ev_b (pc' := 24) (ls' := [some (.ref 64), some (.ref a), some (.int (I a 3))]) (st' := [.int (I a 3), .ref 65, .int (I a 4)]) (h' := (n, sl, wKK k, I, L, wQQ q)) 3 rfl ?_
    refine ev_ial rfl (rfl) (sp_isGauge_in (by assumption)) ?_
    refine ev_b (pc' := 30) (ls' := [some (.ref 64), some (.ref a), some (.int (I a 3))]) (st' := [.ref a, .ref 4, .int (I 65 ((I a 3).toNatClampNeg)), .int (I a 4)]) (h' := (n, sl, wKK k, I, L, wQQ q)) 3 rfl ?_
    refine ev_gfa rfl (Or.inl rfl) (am_acK ha) ?_
    refine ev_cv [.int (I a 1)] [.int (I 65 ((I a 3).toNatClampNeg)), .int (I a 4)] rfl rfl (by omega) rfl (Nat.le_of_ble_eq_true rfl) (Nat.le_of_ble_eq_true rfl) (Or.inr (Or.inr rfl)) (ev_warm_on) ?_
    refine ev_b (pc' := 43) (ls' := [some (.ref 64), some (.ref a), some (.int (I a 3))]) (st' := [.int (I a 3), .ref 66, .int ((I a 4) - ((I 65 ((I a 3).toNatClampNeg)) * (sp_warm_on (I a 1) I L)))]) (h' := (n, sl, wKK k, I, L, wQQ q)) 5 rfl ?_
    refine ev_ial rfl (rfl) (sp_isGauge_in (by assumption)) ?_
    refine ev_b (pc' := 45) (ls' := [some (.ref 64), some (.ref a), some (.int (I a 3))]) (st' := [.ref a, .int (I 66 ((I a 3).toNatClampNeg)), .int ((I a 4) - ((I 65 ((I a 3).toNatClampNeg)) * (sp_warm_on (I a 1) I L)))]) (h' := (n, sl, wKK k, I, L, wQQ q)) 1 rfl ?_
    refine ev_gfa rfl (Or.inl rfl) (am_acK ha) ?_
    refine ev_b (pc' := 50) (ls' := [some (.ref 64), some (.ref a), some (.int (I a 3))]) (st' := [.int (((I a 4) - ((I 65 ((I a 3).toNatClampNeg)) * (sp_warm_on (I a 1) I L))) - ((I 66 ((I a 3).toNatClampNeg)) * (I a 1)))]) (h' := (n, sl, wKK k, I, L, wQQ q)) 2 rfl ?_
    exact ev_ri rfl rfl rfl
def sp_x_right (i : Nat) (ah : (Nat → Nat)) (I : Nat → Nat → Int32) (L : Nat → Nat → Int64) : Int32 := (if (I (ah i) 8) = 0 then (-2000000000) else (if (I (ah i) 0) = 3 then sp_g_putRight (ah i) I L else (-2000000000)))
theorem ev_x_right {d : Nat} {n sl : Nat} {k : Nat → Nat × Nat} {I : Nat → Nat → Int32} {L : Nat → Nat → Int64} {q : Nat → Nat → Option Nat} {i : Nat} {ah : (Nat → Nat)} {C : Nat} (hB : am_Bk k q C ah) (hC : I 55 2 = nI C) (hC2 : C ≤ 200) (hi : i < C) : am_Ev (d + 3) 133 0 (am_ent 3 [.ref 0, .int (nI (i + 1))]) [] (n, sl, wKK k, I, L, wQQ q) (some (.int (sp_x_right i ah I L)), (n, sl, wKK k, I, L, wQQ q)) := by
  show am_Ev _ _ 0 [some (.ref 0), some (.int (nI (i + 1))), none] _ _ (some (.int (if (I (ah i) 8) = 0 then (-2000000000) else (if (I (ah i) 0) = 3 then sp_g_putRight (ah i) I L else (-2000000000)))), (n, sl, wKK k, I, L, wQQ q))
  refine ev_b (pc' := 5) (ls' := [some (.ref 0), some (.int (nI (i + 1))), none]) (st' := [.int (nI (i + 1)), .ref 55]) (h' := (n, sl, wKK k, I, L, wQQ q)) 3 rfl ?_
  refine ev_cv [.int (nI (i + 1))] [] rfl rfl (by omega) rfl (Nat.le_of_ble_eq_true rfl) (Nat.le_of_ble_eq_true rfl) (Or.inr (Or.inr rfl)) (ev_b_act hB hC hC2 hi) ?_
  refine ev_b (pc' := 14) (ls' := [some (.ref 0), some (.int (nI (i + 1))), some (.ref (ah i))]) (st' := [.ref (ah i)]) (h' := (n, sl, wKK k, I, L, wQQ q)) 4 rfl ?_
  refine ev_gfa rfl (Or.inr rfl) (am_acK (hB i hi).2) ?_
  refine ev_b (pc' := (if (I (ah i) 8) = 0 then 39 else 20)) (ls' := [some (.ref 0), some (.int (nI (i + 1))), some (.ref (ah i))]) (st' := []) (h' := (n, sl, wKK k, I, L, wQQ q)) 1 rfl ?_
  refine ev_ifIs (fun c17 => ?_) (fun c17 => ?_)
  · refine ev_b (pc' := 41) (ls' := [some (.ref 0), some (.int (nI (i + 1))), some (.ref (ah i))]) (st' := [.int (-2000000000)]) (h' := (n, sl, wKK k, I, L, wQQ q)) 1 rfl ?_
    exact ev_ri rfl rfl rfl
  · refine ev_b (pc' := 21) (ls' := [some (.ref 0), some (.int (nI (i + 1))), some (.ref (ah i))]) (st' := [.ref (ah i)]) (h' := (n, sl, wKK k, I, L, wQQ q)) 1 rfl ?_
    refine ev_gfa rfl (Or.inl rfl) (am_acK (hB i hi).2) ?_
    refine ev_b (pc' := (if (I (ah i) 0) = 3 then 28 else 39)) (ls' := [some (.ref 0), some (.int (nI (i + 1))), some (.ref (ah i))]) (st' := []) (h' := (n, sl, wKK k, I, L, wQQ q)) 2 rfl ?_
    refine ev_ifIs (fun c25 => ?_) (fun c25 => ?_)
    · refine ev_b (pc' := 33) (ls' := [some (.ref 0), some (.int (nI (i + 1))), some (.ref (ah i))]) (st' := [.ref (ah i), .ref 64]) (h' := (n, sl, wKK k, I, L, wQQ q)) 3 rfl ?_
      refine ev_cv [.ref (ah i)] [] rfl rfl (by omega) rfl (Nat.le_of_ble_eq_true rfl) (Nat.le_of_ble_eq_true rfl) (Or.inr (Or.inr rfl)) (ev_g_putRight (hB i hi).2) ?_
      refine ev_b (pc' := 41) (ls' := [some (.ref 0), some (.int (nI (i + 1))), some (.ref (ah i))]) (st' := [.int (sp_g_putRight (ah i) I L)]) (h' := (n, sl, wKK k, I, L, wQQ q)) 1 rfl ?_
      exact ev_ri rfl rfl rfl
    · refine ev_b (pc' := 41) (ls' := [some (.ref 0), some (.int (nI (i + 1))), some (.ref (ah i))]) (st' := [.int (-2000000000)]) (h' := (n, sl, wKK k, I, L, wQQ q)) 1 rfl ?_
      exact ev_ri rfl rfl rfl
