/-! READINGS PUT RIGHT BY THE REFERENCE -/
def sp_m_rightOf (nn : Nat) (I : Nat → Nat → Int32) (L : Nat → Nat → Int64) : Int32 := ((I 110 nn) - ((I 104 ((I 109 nn).toNatClampNeg)) * (wf 0 (I 103) (I 102) ((I 108 nn).toNatClampNeg)))) - ((I 105 ((I 109 nn).toNatClampNeg)) * (nI ((I 108 nn).toNatClampNeg)))
theorem ev_m_rightOf {d : Nat} {n sl : Nat} {k : Nat → Nat × Nat} {I : Nat → Nat → Int32} {L : Nat → Nat → Int64} {q : Nat → Nat → Option Nat} {nn : Nat} (hn : nn ≤ 200) (hF : ¬ (I 109 nn < 0 ∨ 4 ≤ (I 109 nn).toNatClampNeg)) (hD : I 108 nn = nI (I 108 nn).toNatClampNeg) (hD4 : (I 108 nn).toNatClampNeg < 400) : am_Ev (d + 1) 225 0 (am_ent 2 [.ref 80, .int (nI nn)]) [] (n, sl, wKK k, I, L, wQQ q) (some (.int (sp_m_rightOf nn I L)), (n, sl, wKK k, I, L, wQQ q)) := by
  show am_Ev _ _ 0 [some (.ref 80), some (.int (nI nn))] _ _ (some (.int (((I 110 nn) - ((I 104 ((I 109 nn).toNatClampNeg)) * (wf 0 (I 103) (I 102) ((I 108 nn).toNatClampNeg)))) - ((I 105 ((I 109 nn).toNatClampNeg)) * (nI ((I 108 nn).toNatClampNeg))))), (n, sl, wKK k, I, L, wQQ q))
  refine ev_b (pc' := 5) (ls' := [some (.ref 80), some (.int (nI nn))]) (st' := [.int (nI nn), .ref 110]) (h' := (n, sl, wKK k, I, L, wQQ q)) 3 rfl ?_
  refine ev_ialN (k := nn) rfl (rfl) (by omega) ?_
  refine ev_b (pc' := 15) (ls' := [some (.ref 80), some (.int (nI nn))]) (st' := [.int (nI nn), .ref 109, .ref 104, .int (I 110 nn)]) (h' := (n, sl, wKK k, I, L, wQQ q)) 5 rfl ?_
  refine ev_ialN (k := nn) rfl (rfl) (by omega) ?_
  refine ev_ial rfl (rfl) (hF) ?_
  refine ev_b (pc' := 23) (ls' := [some (.ref 80), some (.int (nI nn))]) (st' := [.int (nI nn), .ref 108, .ref 80, .int (I 104 ((I 109 nn).toNatClampNeg)), .int (I 110 nn)]) (h' := (n, sl, wKK k, I, L, wQQ q)) 4 rfl ?_
  refine ev_ialN (k := nn) rfl (rfl) (by omega) ?_
  refine ev_top (show I 108 nn = nI ((I 108 nn).toNatClampNeg) from hD) ?_
  refine ev_cv [.int (nI ((I 108 nn).toNatClampNeg))] [.int (I 104 ((I 109 nn).toNatClampNeg)), .int (I 110 nn)] rfl rfl (by omega) rfl (Nat.le_of_ble_eq_true rfl) (Nat.le_of_ble_eq_true rfl) (Or.inr (Or.inr rfl)) (ev_m_warmthOn (by omega)) ?_
  refine ev_b (pc' := 38) (ls' := [some (.ref 80), some (.int (nI nn))]) (st' := [.int (nI nn), .ref 109, .ref 105, .int ((I 110 nn) - ((I 104 ((I 109 nn).toNatClampNeg)) * (wf 0 (I 103) (I 102) ((I 108 nn).toNatClampNeg))))]) (h' := (n, sl, wKK k, I, L, wQQ q)) 7 rfl ?_
  refine ev_ialN (k := nn) rfl (rfl) (by omega) ?_
  refine ev_ial rfl (rfl) (hF) ?_
  refine ev_b (pc' := 45) (ls' := [some (.ref 80), some (.int (nI nn))]) (st' := [.int (nI nn), .ref 108, .int (I 105 ((I 109 nn).toNatClampNeg)), .int ((I 110 nn) - ((I 104 ((I 109 nn).toNatClampNeg)) * (wf 0 (I 103) (I 102) ((I 108 nn).toNatClampNeg))))]) (h' := (n, sl, wKK k, I, L, wQQ q)) 3 rfl ?_
  refine ev_ialN (k := nn) rfl (rfl) (by omega) ?_
  refine ev_top (show I 108 nn = nI ((I 108 nn).toNatClampNeg) from hD) ?_
  refine ev_b (pc' := 48) (ls' := [some (.ref 80), some (.int (nI nn))]) (st' := [.int (((I 110 nn) - ((I 104 ((I 109 nn).toNatClampNeg)) * (wf 0 (I 103) (I 102) ((I 108 nn).toNatClampNeg)))) - ((I 105 ((I 109 nn).toNatClampNeg)) * (nI ((I 108 nn).toNatClampNeg))))]) (h' := (n, sl, wKK k, I, L, wQQ q)) 2 rfl ?_
  exact ev_ri rfl rfl rfl
def sp_m_right (nn : Nat) (I : Nat → Nat → Int32) (L : Nat → Nat → Int64) : Int32 := (if (sp_m_isKnown (nI nn) I L) = 0 then (-2000000000) else (if (I 107 nn) = 3 then sp_m_rightOf nn I L else (-2000000000)))
theorem ev_m_right {d : Nat} {n sl : Nat} {k : Nat → Nat × Nat} {I : Nat → Nat → Int32} {L : Nat → Nat → Int64} {q : Nat → Nat → Option Nat} {nn : Nat} (hn : nn ≤ 200) (hrd : I 107 nn = 3 → ¬ (I 109 nn < 0 ∨ 4 ≤ (I 109 nn).toNatClampNeg) ∧ I 108 nn = nI (I 108 nn).toNatClampNeg ∧ (I 108 nn).toNatClampNeg < 400) : am_Ev (d + 2) 226 0 (am_ent 2 [.ref 80, .int (nI nn)]) [] (n, sl, wKK k, I, L, wQQ q) (some (.int (sp_m_right nn I L)), (n, sl, wKK k, I, L, wQQ q)) := by
  show am_Ev _ _ 0 [some (.ref 80), some (.int (nI nn))] _ _ (some (.int (if (sp_m_isKnown (nI nn) I L) = 0 then (-2000000000) else (if (I 107 nn) = 3 then sp_m_rightOf nn I L else (-2000000000)))), (n, sl, wKK k, I, L, wQQ q))
  refine ev_b (pc' := 2) (ls' := [some (.ref 80), some (.int (nI nn))]) (st' := [.int (nI nn), .ref 80]) (h' := (n, sl, wKK k, I, L, wQQ q)) 2 rfl ?_
  refine ev_cv [.int (nI nn)] [] rfl rfl (by omega) rfl (Nat.le_of_ble_eq_true rfl) (Nat.le_of_ble_eq_true rfl) (Or.inr (Or.inr rfl)) (ev_m_isKnown (fun _ _ => ev_ix (by omega) (by omega))) ?_
  refine ev_b (pc' := (if (sp_m_isKnown (nI nn) I L) = 0 then 26 else 8)) (ls' := [some (.ref 80), some (.int (nI nn))]) (st' := []) (h' := (n, sl, wKK k, I, L, wQQ q)) 1 rfl ?_
  refine ev_ifIs (fun c5 => ?_) (fun c5 => ?_)
  · refine ev_b (pc' := 29) (ls' := [some (.ref 80), some (.int (nI nn))]) (st' := [.int (-2000000000)]) (h' := (n, sl, wKK k, I, L, wQQ q)) 1 rfl ?_
    exact ev_ri rfl rfl rfl
  · refine ev_b (pc' := 13) (ls' := [some (.ref 80), some (.int (nI nn))]) (st' := [.int (nI nn), .ref 107]) (h' := (n, sl, wKK k, I, L, wQQ q)) 3 rfl ?_
    refine ev_ialN (k := nn) rfl (rfl) (by omega) ?_
    refine ev_b (pc' := (if (I 107 nn) = 3 then 18 else 26)) (ls' := [some (.ref 80), some (.int (nI nn))]) (st' := []) (h' := (n, sl, wKK k, I, L, wQQ q)) 2 rfl ?_
    refine ev_ifIs (fun c15 => ?_) (fun c15 => ?_)
    · refine ev_b (pc' := 20) (ls' := [some (.ref 80), some (.int (nI nn))]) (st' := [.int (nI nn), .ref 80]) (h' := (n, sl, wKK k, I, L, wQQ q)) 2 rfl ?_
      refine ev_cv [.int (nI nn)] [] rfl rfl (by omega) rfl (Nat.le_of_ble_eq_true rfl) (Nat.le_of_ble_eq_true rfl) (Or.inr (Or.inr rfl)) (ev_m_rightOf (by omega) (hrd c15).1 (hrd c15).2.1 (hrd c15).2.2) ?_
      refine ev_b (pc' := 29) (ls' := [some (.ref 80), some (.int (nI nn))]) (st' := [.int (sp_m_rightOf nn I L)]) (h' := (n, sl, wKK k, I, L, wQQ q)) 1 rfl ?_
      exact ev_ri rfl rfl rfl
    · refine ev_b (pc' := 29) (ls' := [some (.ref 80), some (.int (nI nn))]) (st' := [.int (-2000000000)]) (h' := (n, sl, wKK k, I, L, wQQ q)) 1 rfl ?_
      exact ev_ri rfl rfl rfl
