/-! BREACHES, BREACH: both sides answer alike -/
/-- what mayDo leaves of the longs -/
def kP (L K : Nat → Nat → Int64) : Prop := (∀ j, j ≠ 80 → j ≠ 119 → j ≠ 120 → K j = L j) ∧ (∀ i, i ≠ 57 → i ≠ 58 → K 80 i = L 80 i)
theorem kP_t {L K K1 : Nat → Nat → Int64} (a : kP L K) (b : kP K K1) : kP L K1 := ⟨fun j j1 j2 j3 => (b.1 j j1 j2 j3).trans (a.1 j j1 j2 j3), fun i i1 i2 => (b.2 i i1 i2).trans (a.2 i i1 i2)⟩
theorem mPl_k {I : Nat → Nat → Int32} {L K : Nat → Nat → Int64} (h : kP L K) (p : mPl I L) : mPl I K := by
  unfold mPl
  rw [h.1 115 (by decide) (by decide) (by decide), h.1 116 (by decide) (by decide) (by decide), h.1 114 (by decide) (by decide) (by decide), h.1 113 (by decide) (by decide) (by decide)]
  exact p
set_option maxHeartbeats 1000000 in
theorem tv_m_isB {n sl : Nat} {kk : Nat → Nat × Nat} {I : Nat → Nat → Int32} {L : Nat → Nat → Int64} {q : Nat → Nat → Option Nat} {M : Nat → List (Nat × Nat × List Nat)} (hT : wfT I) (hB : wfB I) (hP : mPl I L) (hM : mCode I M) {k : Nat} {K : Nat → Nat → Int64} (hk : k < nC I) (hK : kP L K) : am_T 7 222 0 (am_ent 3 [.ref 80, .int (nI (k + 1))]) [] (n, sl, wKK kk, I, K, wQQ q) (fun rv h' => rv = some (.int (if isB I M (k + 1) = true then 1 else 0)) ∧ ∃ K1, h' = (n, sl, wKK kk, I, K1, wQQ q) ∧ kP L K1) := by
  have hC2 := hB.1.2
  have hkn := known_k (L := K) hB (n := k + 1) (by omega) (by omega)
  obtain ⟨hn1, hn2⟩ := now_N (L := K) hB
  have hcl : (nI (k + 1)).toNatClampNeg = k + 1 := nI_clamp (by omega)
  have ek : ∀ d', am_Ev (d' + 1) 199 0 (am_ent 2 [.ref 80, .int (nI (k + 1))]) [] (n, sl, wKK kk, I, K, wQQ q) (some (.int (if kn I (k + 1) = true then 1 else 0)), (n, sl, wKK kk, I, K, wQQ q)) := fun d' => by
    have e := ev_m_isKnown (d := d') (n := n) (sl := sl) (k := kk) (q := q) (I := I) (L := K) (x := nI (k + 1)) (fun _ _ => by rw [hcl]; exact fun z => z.elim (nI_pos (by omega)) (by omega))
    rw [hkn] at e
    exact e
  obtain ⟨_, w1, w2, w3⟩ := hB.2.2 (k + 1) (by omega) (by omega)
  by_cases hq : kn I (k + 1) = true
  · rw [if_pos hq] at ek
    by_cases hw : I 107 (k + 1) = 0 ∨ I 107 (k + 1) = 1 ∨ I 107 (k + 1) = 2
    · rcases (show I 107 (k + 1) = 0 ∨ I 107 (k + 1) = 1 ∨ I 107 (k + 1) = 2 from hw) with z | z | z
      · have hib : isB I M (k + 1) = true ↔ ¬ (vdZ I M 0 (I 109 (k + 1)) (dyN I (k + 1))) = 0 := by
          have e : muZ I (k + 1) = (I 109 (k + 1)) := by unfold muZ; rw [if_pos z]
          have e2 : (I 107 (k + 1)).toNatClampNeg = 0 := by rw [z]; decide
          unfold isB
          rw [decide_eq_true_iff, e, e2]
          exact ⟨fun y => y.2.2, fun y => ⟨hq, hw, y⟩⟩
        by_cases hz : (vdZ I M 0 (I 109 (k + 1)) (dyN I (k + 1))) = 0
        · show am_T _ _ 0 [some (.ref 80), some (.int (nI (k + 1))), none] _ _ _
          refine tv_b (pc' := 2) (ls' := [some (.ref 80), some (.int (nI (k + 1))), none]) (st' := [.int (nI (k + 1)), .ref 80]) (h' := (n, sl, wKK kk, I, K, wQQ q)) 2 rfl ?_
          refine tv_cvE [.int (nI (k + 1))] [] rfl rfl (by omega) rfl (Nat.le_of_ble_eq_true rfl) (Nat.le_of_ble_eq_true rfl) (Or.inr (Or.inr rfl)) (ek _) ?_
          refine tv_b (pc' := 13) (ls' := [some (.ref 80), some (.int (nI (k + 1))), none]) (st' := [.int (nI (k + 1)), .ref 107]) (h' := (n, sl, wKK kk, I, K, wQQ q)) 4 rfl ?_
          refine tv_ialN (k := (k + 1)) rfl (rfl) (⟨by omega, by omega⟩) ?_
          refine tv_top (z) ?_
          refine tv_b (pc' := 25) (ls' := [some (.ref 80), some (.int (nI (k + 1))), none]) (st' := [.int (nI (k + 1)), .ref 107]) (h' := (n, sl, wKK kk, I, K, wQQ q)) 5 rfl ?_
          refine tv_ialN (k := (k + 1)) rfl (rfl) (⟨by omega, by omega⟩) ?_
          refine tv_top (z) ?_
          refine tv_b (pc' := 34) (ls' := [some (.ref 80), some (.int (nI (k + 1))), none]) (st' := [.int (nI (k + 1)), .ref 109]) (h' := (n, sl, wKK kk, I, K, wQQ q)) 4 rfl ?_
          refine tv_ialN (k := (k + 1)) rfl (rfl) (⟨by omega, by omega⟩) ?_
          refine tv_b (pc' := 65) (ls' := [some (.ref 80), some (.int (nI (k + 1))), some (.int (I 109 (k + 1)))]) (st' := [.int (nI (k + 1)), .ref 107, .ref 80]) (h' := (n, sl, wKK kk, I, K, wQQ q)) 6 rfl ?_
          refine tv_ialN (k := (k + 1)) rfl (rfl) (⟨by omega, by omega⟩) ?_
          refine tv_top (z) ?_
          refine tv_b (pc' := 72) (ls' := [some (.ref 80), some (.int (nI (k + 1))), some (.int (I 109 (k + 1)))]) (st' := [.int (nI (k + 1)), .ref 108, .int (I 109 (k + 1)), .int 0, .ref 80]) (h' := (n, sl, wKK kk, I, K, wQQ q)) 4 rfl ?_
          refine tv_ialN (k := (k + 1)) rfl (rfl) (⟨by omega, by omega⟩) ?_
          refine tv_top (w1) ?_
          refine tv_cv [.int 0, .int (I 109 (k + 1)), .int (nI (dyN I (k + 1)))] [] rfl rfl (by omega) rfl (Nat.le_of_ble_eq_true rfl) (Nat.le_of_ble_eq_true rfl) (Or.inr (Or.inr rfl)) (tv_m_mayDo (d := 0) (W := 0) (much := (I 109 (k + 1))) (D := dyN I (k + 1)) (by decide) w2 hT hB (mPl_k hK hP) hM) ?_
          rintro rv9 h9 ⟨rfl, K1, rfl, k1, k2⟩
          have hK1 : kP L K1 := kP_t hK ⟨k1, k2⟩
          refine tv_b (pc' := (if (vdZ I M 0 (I 109 (k + 1)) (dyN I (k + 1))) ≤ 0 then 83 else 79)) (ls' := [some (.ref 80), some (.int (nI (k + 1))), some (.int (I 109 (k + 1)))]) (st' := []) (h' := (n, sl, wKK kk, I, K1, wQQ q)) 1 rfl ?_
          refine tv_t (vdZ_r.mpr hz) ?_
          refine tv_b (pc' := 84) (ls' := [some (.ref 80), some (.int (nI (k + 1))), some (.int (I 109 (k + 1)))]) (st' := [.int 0]) (h' := (n, sl, wKK kk, I, K1, wQQ q)) 1 rfl ?_
          exact tv_rz rfl (Or.inl rfl) ⟨by rw [if_neg (fun y => (hib.mp y) hz)], K1, rfl, hK1⟩
        · show am_T _ _ 0 [some (.ref 80), some (.int (nI (k + 1))), none] _ _ _
          refine tv_b (pc' := 2) (ls' := [some (.ref 80), some (.int (nI (k + 1))), none]) (st' := [.int (nI (k + 1)), .ref 80]) (h' := (n, sl, wKK kk, I, K, wQQ q)) 2 rfl ?_
          refine tv_cvE [.int (nI (k + 1))] [] rfl rfl (by omega) rfl (Nat.le_of_ble_eq_true rfl) (Nat.le_of_ble_eq_true rfl) (Or.inr (Or.inr rfl)) (ek _) ?_
          refine tv_b (pc' := 13) (ls' := [some (.ref 80), some (.int (nI (k + 1))), none]) (st' := [.int (nI (k + 1)), .ref 107]) (h' := (n, sl, wKK kk, I, K, wQQ q)) 4 rfl ?_
          refine tv_ialN (k := (k + 1)) rfl (rfl) (⟨by omega, by omega⟩) ?_
          refine tv_top (z) ?_
          refine tv_b (pc' := 25) (ls' := [some (.ref 80), some (.int (nI (k + 1))), none]) (st' := [.int (nI (k + 1)), .ref 107]) (h' := (n, sl, wKK kk, I, K, wQQ q)) 5 rfl ?_
          refine tv_ialN (k := (k + 1)) rfl (rfl) (⟨by omega, by omega⟩) ?_
          refine tv_top (z) ?_
          refine tv_b (pc' := 34) (ls' := [some (.ref 80), some (.int (nI (k + 1))), none]) (st' := [.int (nI (k + 1)), .ref 109]) (h' := (n, sl, wKK kk, I, K, wQQ q)) 4 rfl ?_
          refine tv_ialN (k := (k + 1)) rfl (rfl) (⟨by omega, by omega⟩) ?_
          refine tv_b (pc' := 65) (ls' := [some (.ref 80), some (.int (nI (k + 1))), some (.int (I 109 (k + 1)))]) (st' := [.int (nI (k + 1)), .ref 107, .ref 80]) (h' := (n, sl, wKK kk, I, K, wQQ q)) 6 rfl ?_
          refine tv_ialN (k := (k + 1)) rfl (rfl) (⟨by omega, by omega⟩) ?_
          refine tv_top (z) ?_
          refine tv_b (pc' := 72) (ls' := [some (.ref 80), some (.int (nI (k + 1))), some (.int (I 109 (k + 1)))]) (st' := [.int (nI (k + 1)), .ref 108, .int (I 109 (k + 1)), .int 0, .ref 80]) (h' := (n, sl, wKK kk, I, K, wQQ q)) 4 rfl ?_
          refine tv_ialN (k := (k + 1)) rfl (rfl) (⟨by omega, by omega⟩) ?_
          refine tv_top (w1) ?_
          refine tv_cv [.int 0, .int (I 109 (k + 1)), .int (nI (dyN I (k + 1)))] [] rfl rfl (by omega) rfl (Nat.le_of_ble_eq_true rfl) (Nat.le_of_ble_eq_true rfl) (Or.inr (Or.inr rfl)) (tv_m_mayDo (d := 0) (W := 0) (much := (I 109 (k + 1))) (D := dyN I (k + 1)) (by decide) w2 hT hB (mPl_k hK hP) hM) ?_
          rintro rv9 h9 ⟨rfl, K1, rfl, k1, k2⟩
          have hK1 : kP L K1 := kP_t hK ⟨k1, k2⟩
          refine tv_b (pc' := (if (vdZ I M 0 (I 109 (k + 1)) (dyN I (k + 1))) ≤ 0 then 83 else 79)) (ls' := [some (.ref 80), some (.int (nI (k + 1))), some (.int (I 109 (k + 1)))]) (st' := []) (h' := (n, sl, wKK kk, I, K1, wQQ q)) 1 rfl ?_
          refine tv_f (fun q => hz (vdZ_r.mp q)) ?_
          refine tv_b (pc' := 84) (ls' := [some (.ref 80), some (.int (nI (k + 1))), some (.int (I 109 (k + 1)))]) (st' := [.int 1]) (h' := (n, sl, wKK kk, I, K1, wQQ q)) 2 rfl ?_
          exact tv_rz rfl (Or.inr rfl) ⟨by rw [if_pos (hib.mpr hz)], K1, rfl, hK1⟩
      · have hib : isB I M (k + 1) = true ↔ ¬ (vdZ I M 1 (I 110 (k + 1)) (dyN I (k + 1))) = 0 := by
          have e : muZ I (k + 1) = (I 110 (k + 1)) := by unfold muZ; rw [if_neg (by rw [z]; decide), if_pos z]
          have e2 : (I 107 (k + 1)).toNatClampNeg = 1 := by rw [z]; decide
          unfold isB
          rw [decide_eq_true_iff, e, e2]
          exact ⟨fun y => y.2.2, fun y => ⟨hq, hw, y⟩⟩
        by_cases hz : (vdZ I M 1 (I 110 (k + 1)) (dyN I (k + 1))) = 0
        · show am_T _ _ 0 [some (.ref 80), some (.int (nI (k + 1))), none] _ _ _
          refine tv_b (pc' := 2) (ls' := [some (.ref 80), some (.int (nI (k + 1))), none]) (st' := [.int (nI (k + 1)), .ref 80]) (h' := (n, sl, wKK kk, I, K, wQQ q)) 2 rfl ?_
          refine tv_cvE [.int (nI (k + 1))] [] rfl rfl (by omega) rfl (Nat.le_of_ble_eq_true rfl) (Nat.le_of_ble_eq_true rfl) (Or.inr (Or.inr rfl)) (ek _) ?_
          refine tv_b (pc' := 13) (ls' := [some (.ref 80), some (.int (nI (k + 1))), none]) (st' := [.int (nI (k + 1)), .ref 107]) (h' := (n, sl, wKK kk, I, K, wQQ q)) 4 rfl ?_
          refine tv_ialN (k := (k + 1)) rfl (rfl) (⟨by omega, by omega⟩) ?_
          refine tv_top (z) ?_
          refine tv_b (pc' := 25) (ls' := [some (.ref 80), some (.int (nI (k + 1))), none]) (st' := [.int (nI (k + 1)), .ref 107]) (h' := (n, sl, wKK kk, I, K, wQQ q)) 5 rfl ?_
          refine tv_ialN (k := (k + 1)) rfl (rfl) (⟨by omega, by omega⟩) ?_
          refine tv_top (z) ?_
          refine tv_b (pc' := 43) (ls' := [some (.ref 80), some (.int (nI (k + 1))), none]) (st' := [.int (nI (k + 1)), .ref 107]) (h' := (n, sl, wKK kk, I, K, wQQ q)) 4 rfl ?_
          refine tv_ialN (k := (k + 1)) rfl (rfl) (⟨by omega, by omega⟩) ?_
          refine tv_top (z) ?_
          refine tv_b (pc' := 53) (ls' := [some (.ref 80), some (.int (nI (k + 1))), none]) (st' := [.int (nI (k + 1)), .ref 110]) (h' := (n, sl, wKK kk, I, K, wQQ q)) 5 rfl ?_
          refine tv_ialN (k := (k + 1)) rfl (rfl) (⟨by omega, by omega⟩) ?_
          refine tv_b (pc' := 65) (ls' := [some (.ref 80), some (.int (nI (k + 1))), some (.int (I 110 (k + 1)))]) (st' := [.int (nI (k + 1)), .ref 107, .ref 80]) (h' := (n, sl, wKK kk, I, K, wQQ q)) 6 rfl ?_
          refine tv_ialN (k := (k + 1)) rfl (rfl) (⟨by omega, by omega⟩) ?_
          refine tv_top (z) ?_
          refine tv_b (pc' := 72) (ls' := [some (.ref 80), some (.int (nI (k + 1))), some (.int (I 110 (k + 1)))]) (st' := [.int (nI (k + 1)), .ref 108, .int (I 110 (k + 1)), .int 1, .ref 80]) (h' := (n, sl, wKK kk, I, K, wQQ q)) 4 rfl ?_
          refine tv_ialN (k := (k + 1)) rfl (rfl) (⟨by omega, by omega⟩) ?_
          refine tv_top (w1) ?_
          refine tv_cv [.int 1, .int (I 110 (k + 1)), .int (nI (dyN I (k + 1)))] [] rfl rfl (by omega) rfl (Nat.le_of_ble_eq_true rfl) (Nat.le_of_ble_eq_true rfl) (Or.inr (Or.inr rfl)) (tv_m_mayDo (d := 0) (W := 1) (much := (I 110 (k + 1))) (D := dyN I (k + 1)) (by decide) w2 hT hB (mPl_k hK hP) hM) ?_
          rintro rv9 h9 ⟨rfl, K1, rfl, k1, k2⟩
          have hK1 : kP L K1 := kP_t hK ⟨k1, k2⟩
          refine tv_b (pc' := (if (vdZ I M 1 (I 110 (k + 1)) (dyN I (k + 1))) ≤ 0 then 83 else 79)) (ls' := [some (.ref 80), some (.int (nI (k + 1))), some (.int (I 110 (k + 1)))]) (st' := []) (h' := (n, sl, wKK kk, I, K1, wQQ q)) 1 rfl ?_
          refine tv_t (vdZ_r.mpr hz) ?_
          refine tv_b (pc' := 84) (ls' := [some (.ref 80), some (.int (nI (k + 1))), some (.int (I 110 (k + 1)))]) (st' := [.int 0]) (h' := (n, sl, wKK kk, I, K1, wQQ q)) 1 rfl ?_
          exact tv_rz rfl (Or.inl rfl) ⟨by rw [if_neg (fun y => (hib.mp y) hz)], K1, rfl, hK1⟩
        · show am_T _ _ 0 [some (.ref 80), some (.int (nI (k + 1))), none] _ _ _
          refine tv_b (pc' := 2) (ls' := [some (.ref 80), some (.int (nI (k + 1))), none]) (st' := [.int (nI (k + 1)), .ref 80]) (h' := (n, sl, wKK kk, I, K, wQQ q)) 2 rfl ?_
          refine tv_cvE [.int (nI (k + 1))] [] rfl rfl (by omega) rfl (Nat.le_of_ble_eq_true rfl) (Nat.le_of_ble_eq_true rfl) (Or.inr (Or.inr rfl)) (ek _) ?_
          refine tv_b (pc' := 13) (ls' := [some (.ref 80), some (.int (nI (k + 1))), none]) (st' := [.int (nI (k + 1)), .ref 107]) (h' := (n, sl, wKK kk, I, K, wQQ q)) 4 rfl ?_
          refine tv_ialN (k := (k + 1)) rfl (rfl) (⟨by omega, by omega⟩) ?_
          refine tv_top (z) ?_
          refine tv_b (pc' := 25) (ls' := [some (.ref 80), some (.int (nI (k + 1))), none]) (st' := [.int (nI (k + 1)), .ref 107]) (h' := (n, sl, wKK kk, I, K, wQQ q)) 5 rfl ?_
          refine tv_ialN (k := (k + 1)) rfl (rfl) (⟨by omega, by omega⟩) ?_
          refine tv_top (z) ?_
          refine tv_b (pc' := 43) (ls' := [some (.ref 80), some (.int (nI (k + 1))), none]) (st' := [.int (nI (k + 1)), .ref 107]) (h' := (n, sl, wKK kk, I, K, wQQ q)) 4 rfl ?_
          refine tv_ialN (k := (k + 1)) rfl (rfl) (⟨by omega, by omega⟩) ?_
          refine tv_top (z) ?_
          refine tv_b (pc' := 53) (ls' := [some (.ref 80), some (.int (nI (k + 1))), none]) (st' := [.int (nI (k + 1)), .ref 110]) (h' := (n, sl, wKK kk, I, K, wQQ q)) 5 rfl ?_
          refine tv_ialN (k := (k + 1)) rfl (rfl) (⟨by omega, by omega⟩) ?_
          refine tv_b (pc' := 65) (ls' := [some (.ref 80), some (.int (nI (k + 1))), some (.int (I 110 (k + 1)))]) (st' := [.int (nI (k + 1)), .ref 107, .ref 80]) (h' := (n, sl, wKK kk, I, K, wQQ q)) 6 rfl ?_
          refine tv_ialN (k := (k + 1)) rfl (rfl) (⟨by omega, by omega⟩) ?_
          refine tv_top (z) ?_
          refine tv_b (pc' := 72) (ls' := [some (.ref 80), some (.int (nI (k + 1))), some (.int (I 110 (k + 1)))]) (st' := [.int (nI (k + 1)), .ref 108, .int (I 110 (k + 1)), .int 1, .ref 80]) (h' := (n, sl, wKK kk, I, K, wQQ q)) 4 rfl ?_
          refine tv_ialN (k := (k + 1)) rfl (rfl) (⟨by omega, by omega⟩) ?_
          refine tv_top (w1) ?_
          refine tv_cv [.int 1, .int (I 110 (k + 1)), .int (nI (dyN I (k + 1)))] [] rfl rfl (by omega) rfl (Nat.le_of_ble_eq_true rfl) (Nat.le_of_ble_eq_true rfl) (Or.inr (Or.inr rfl)) (tv_m_mayDo (d := 0) (W := 1) (much := (I 110 (k + 1))) (D := dyN I (k + 1)) (by decide) w2 hT hB (mPl_k hK hP) hM) ?_
          rintro rv9 h9 ⟨rfl, K1, rfl, k1, k2⟩
          have hK1 : kP L K1 := kP_t hK ⟨k1, k2⟩
          refine tv_b (pc' := (if (vdZ I M 1 (I 110 (k + 1)) (dyN I (k + 1))) ≤ 0 then 83 else 79)) (ls' := [some (.ref 80), some (.int (nI (k + 1))), some (.int (I 110 (k + 1)))]) (st' := []) (h' := (n, sl, wKK kk, I, K1, wQQ q)) 1 rfl ?_
          refine tv_f (fun q => hz (vdZ_r.mp q)) ?_
          refine tv_b (pc' := 84) (ls' := [some (.ref 80), some (.int (nI (k + 1))), some (.int (I 110 (k + 1)))]) (st' := [.int 1]) (h' := (n, sl, wKK kk, I, K1, wQQ q)) 2 rfl ?_
          exact tv_rz rfl (Or.inr rfl) ⟨by rw [if_pos (hib.mpr hz)], K1, rfl, hK1⟩
      · have hib : isB I M (k + 1) = true ↔ ¬ (vdZ I M 2 1 (dyN I (k + 1))) = 0 := by
          have e : muZ I (k + 1) = 1 := by unfold muZ; rw [if_neg (by rw [z]; decide), if_neg (by rw [z]; decide)]
          have e2 : (I 107 (k + 1)).toNatClampNeg = 2 := by rw [z]; decide
          unfold isB
          rw [decide_eq_true_iff, e, e2]
          exact ⟨fun y => y.2.2, fun y => ⟨hq, hw, y⟩⟩
        by_cases hz : (vdZ I M 2 1 (dyN I (k + 1))) = 0
        · show am_T _ _ 0 [some (.ref 80), some (.int (nI (k + 1))), none] _ _ _
          refine tv_b (pc' := 2) (ls' := [some (.ref 80), some (.int (nI (k + 1))), none]) (st' := [.int (nI (k + 1)), .ref 80]) (h' := (n, sl, wKK kk, I, K, wQQ q)) 2 rfl ?_
          refine tv_cvE [.int (nI (k + 1))] [] rfl rfl (by omega) rfl (Nat.le_of_ble_eq_true rfl) (Nat.le_of_ble_eq_true rfl) (Or.inr (Or.inr rfl)) (ek _) ?_
          refine tv_b (pc' := 13) (ls' := [some (.ref 80), some (.int (nI (k + 1))), none]) (st' := [.int (nI (k + 1)), .ref 107]) (h' := (n, sl, wKK kk, I, K, wQQ q)) 4 rfl ?_
          refine tv_ialN (k := (k + 1)) rfl (rfl) (⟨by omega, by omega⟩) ?_
          refine tv_top (z) ?_
          refine tv_b (pc' := 25) (ls' := [some (.ref 80), some (.int (nI (k + 1))), none]) (st' := [.int (nI (k + 1)), .ref 107]) (h' := (n, sl, wKK kk, I, K, wQQ q)) 5 rfl ?_
          refine tv_ialN (k := (k + 1)) rfl (rfl) (⟨by omega, by omega⟩) ?_
          refine tv_top (z) ?_
          refine tv_b (pc' := 43) (ls' := [some (.ref 80), some (.int (nI (k + 1))), none]) (st' := [.int (nI (k + 1)), .ref 107]) (h' := (n, sl, wKK kk, I, K, wQQ q)) 4 rfl ?_
          refine tv_ialN (k := (k + 1)) rfl (rfl) (⟨by omega, by omega⟩) ?_
          refine tv_top (z) ?_
          refine tv_b (pc' := 65) (ls' := [some (.ref 80), some (.int (nI (k + 1))), some (.int 1)]) (st' := [.int (nI (k + 1)), .ref 107, .ref 80]) (h' := (n, sl, wKK kk, I, K, wQQ q)) 8 rfl ?_
          refine tv_ialN (k := (k + 1)) rfl (rfl) (⟨by omega, by omega⟩) ?_
          refine tv_top (z) ?_
          refine tv_b (pc' := 72) (ls' := [some (.ref 80), some (.int (nI (k + 1))), some (.int 1)]) (st' := [.int (nI (k + 1)), .ref 108, .int 1, .int 2, .ref 80]) (h' := (n, sl, wKK kk, I, K, wQQ q)) 4 rfl ?_
          refine tv_ialN (k := (k + 1)) rfl (rfl) (⟨by omega, by omega⟩) ?_
          refine tv_top (w1) ?_
          refine tv_cv [.int 2, .int 1, .int (nI (dyN I (k + 1)))] [] rfl rfl (by omega) rfl (Nat.le_of_ble_eq_true rfl) (Nat.le_of_ble_eq_true rfl) (Or.inr (Or.inr rfl)) (tv_m_mayDo (d := 0) (W := 2) (much := 1) (D := dyN I (k + 1)) (by decide) w2 hT hB (mPl_k hK hP) hM) ?_
          rintro rv9 h9 ⟨rfl, K1, rfl, k1, k2⟩
          have hK1 : kP L K1 := kP_t hK ⟨k1, k2⟩
          refine tv_b (pc' := (if (vdZ I M 2 1 (dyN I (k + 1))) ≤ 0 then 83 else 79)) (ls' := [some (.ref 80), some (.int (nI (k + 1))), some (.int 1)]) (st' := []) (h' := (n, sl, wKK kk, I, K1, wQQ q)) 1 rfl ?_
          refine tv_t (vdZ_r.mpr hz) ?_
          refine tv_b (pc' := 84) (ls' := [some (.ref 80), some (.int (nI (k + 1))), some (.int 1)]) (st' := [.int 0]) (h' := (n, sl, wKK kk, I, K1, wQQ q)) 1 rfl ?_
          exact tv_rz rfl (Or.inl rfl) ⟨by rw [if_neg (fun y => (hib.mp y) hz)], K1, rfl, hK1⟩
        · show am_T _ _ 0 [some (.ref 80), some (.int (nI (k + 1))), none] _ _ _
          refine tv_b (pc' := 2) (ls' := [some (.ref 80), some (.int (nI (k + 1))), none]) (st' := [.int (nI (k + 1)), .ref 80]) (h' := (n, sl, wKK kk, I, K, wQQ q)) 2 rfl ?_
          refine tv_cvE [.int (nI (k + 1))] [] rfl rfl (by omega) rfl (Nat.le_of_ble_eq_true rfl) (Nat.le_of_ble_eq_true rfl) (Or.inr (Or.inr rfl)) (ek _) ?_
          refine tv_b (pc' := 13) (ls' := [some (.ref 80), some (.int (nI (k + 1))), none]) (st' := [.int (nI (k + 1)), .ref 107]) (h' := (n, sl, wKK kk, I, K, wQQ q)) 4 rfl ?_
          refine tv_ialN (k := (k + 1)) rfl (rfl) (⟨by omega, by omega⟩) ?_
          refine tv_top (z) ?_
          refine tv_b (pc' := 25) (ls' := [some (.ref 80), some (.int (nI (k + 1))), none]) (st' := [.int (nI (k + 1)), .ref 107]) (h' := (n, sl, wKK kk, I, K, wQQ q)) 5 rfl ?_
          refine tv_ialN (k := (k + 1)) rfl (rfl) (⟨by omega, by omega⟩) ?_
          refine tv_top (z) ?_
          refine tv_b (pc' := 43) (ls' := [some (.ref 80), some (.int (nI (k + 1))), none]) (st' := [.int (nI (k + 1)), .ref 107]) (h' := (n, sl, wKK kk, I, K, wQQ q)) 4 rfl ?_
          refine tv_ialN (k := (k + 1)) rfl (rfl) (⟨by omega, by omega⟩) ?_
          refine tv_top (z) ?_
          refine tv_b (pc' := 65) (ls' := [some (.ref 80), some (.int (nI (k + 1))), some (.int 1)]) (st' := [.int (nI (k + 1)), .ref 107, .ref 80]) (h' := (n, sl, wKK kk, I, K, wQQ q)) 8 rfl ?_
          refine tv_ialN (k := (k + 1)) rfl (rfl) (⟨by omega, by omega⟩) ?_
          refine tv_top (z) ?_
          refine tv_b (pc' := 72) (ls' := [some (.ref 80), some (.int (nI (k + 1))), some (.int 1)]) (st' := [.int (nI (k + 1)), .ref 108, .int 1, .int 2, .ref 80]) (h' := (n, sl, wKK kk, I, K, wQQ q)) 4 rfl ?_
          refine tv_ialN (k := (k + 1)) rfl (rfl) (⟨by omega, by omega⟩) ?_
          refine tv_top (w1) ?_
          refine tv_cv [.int 2, .int 1, .int (nI (dyN I (k + 1)))] [] rfl rfl (by omega) rfl (Nat.le_of_ble_eq_true rfl) (Nat.le_of_ble_eq_true rfl) (Or.inr (Or.inr rfl)) (tv_m_mayDo (d := 0) (W := 2) (much := 1) (D := dyN I (k + 1)) (by decide) w2 hT hB (mPl_k hK hP) hM) ?_
          rintro rv9 h9 ⟨rfl, K1, rfl, k1, k2⟩
          have hK1 : kP L K1 := kP_t hK ⟨k1, k2⟩
          refine tv_b (pc' := (if (vdZ I M 2 1 (dyN I (k + 1))) ≤ 0 then 83 else 79)) (ls' := [some (.ref 80), some (.int (nI (k + 1))), some (.int 1)]) (st' := []) (h' := (n, sl, wKK kk, I, K1, wQQ q)) 1 rfl ?_
          refine tv_f (fun q => hz (vdZ_r.mp q)) ?_
          refine tv_b (pc' := 84) (ls' := [some (.ref 80), some (.int (nI (k + 1))), some (.int 1)]) (st' := [.int 1]) (h' := (n, sl, wKK kk, I, K1, wQQ q)) 2 rfl ?_
          exact tv_rz rfl (Or.inr rfl) ⟨by rw [if_pos (hib.mpr hz)], K1, rfl, hK1⟩
    · have hnb : ¬ isB I M (k + 1) = true := fun y => by
        unfold isB at y
        exact hw (of_decide_eq_true y).2.1
      have hgt : ¬ I 107 (k + 1) ≤ 2 := by
        rcases w3 with w | w | w | w | w | w
        · exact absurd (Or.inl w.1) hw
        · exact absurd (Or.inr (Or.inl w.1)) hw
        · exact absurd (Or.inr (Or.inr w.1)) hw
        · rw [w.1]; decide
        · rw [w]; decide
        · rw [w]; decide
      show am_T _ _ 0 [some (.ref 80), some (.int (nI (k + 1))), none] _ _ _
      refine tv_b (pc' := 2) (ls' := [some (.ref 80), some (.int (nI (k + 1))), none]) (st' := [.int (nI (k + 1)), .ref 80]) (h' := (n, sl, wKK kk, I, K, wQQ q)) 2 rfl ?_
      refine tv_cvE [.int (nI (k + 1))] [] rfl rfl (by omega) rfl (Nat.le_of_ble_eq_true rfl) (Nat.le_of_ble_eq_true rfl) (Or.inr (Or.inr rfl)) (ek _) ?_
      refine tv_b (pc' := 13) (ls' := [some (.ref 80), some (.int (nI (k + 1))), none]) (st' := [.int (nI (k + 1)), .ref 107]) (h' := (n, sl, wKK kk, I, K, wQQ q)) 4 rfl ?_
      refine tv_ialN (k := (k + 1)) rfl (rfl) (⟨by omega, by omega⟩) ?_
      refine tv_b (pc' := (if (I 107 (k + 1)) ≤ 2 then 20 else 18)) (ls' := [some (.ref 80), some (.int (nI (k + 1))), none]) (st' := []) (h' := (n, sl, wKK kk, I, K, wQQ q)) 2 rfl ?_
      refine tv_f (hgt) ?_
      refine tv_b (pc' := 19) (ls' := [some (.ref 80), some (.int (nI (k + 1))), none]) (st' := [.int 0]) (h' := (n, sl, wKK kk, I, K, wQQ q)) 1 rfl ?_
      exact tv_rz rfl (Or.inl rfl) ⟨by rw [if_neg hnb], K, rfl, hK⟩
  · rw [if_neg hq] at ek
    have hnb : ¬ isB I M (k + 1) = true := fun y => by
      unfold isB at y
      exact hq (of_decide_eq_true y).1
    show am_T _ _ 0 [some (.ref 80), some (.int (nI (k + 1))), none] _ _ _
    refine tv_b (pc' := 2) (ls' := [some (.ref 80), some (.int (nI (k + 1))), none]) (st' := [.int (nI (k + 1)), .ref 80]) (h' := (n, sl, wKK kk, I, K, wQQ q)) 2 rfl ?_
    refine tv_cvE [.int (nI (k + 1))] [] rfl rfl (by omega) rfl (Nat.le_of_ble_eq_true rfl) (Nat.le_of_ble_eq_true rfl) (Or.inr (Or.inr rfl)) (ek _) ?_
    refine tv_b (pc' := 19) (ls' := [some (.ref 80), some (.int (nI (k + 1))), none]) (st' := [.int 0]) (h' := (n, sl, wKK kk, I, K, wQQ q)) 2 rfl ?_
    exact tv_rz rfl (Or.inl rfl) ⟨by rw [if_neg hnb], K, rfl, hK⟩
theorem tv_m_brsL {n sl : Nat} {kk : Nat → Nat × Nat} {I : Nat → Nat → Int32} {L : Nat → Nat → Int64} {q : Nat → Nat → Option Nat} {M : Nat → List (Nat × Nat × List Nat)} (hT : wfT I) (hB : wfB I) (hP : mPl I L) (hM : mCode I M) : ∀ m k : Nat, k + m = nNow I → ∀ K : Nat → Nat → Int64, kP L K → am_T 8 223 8 [some (.ref 80), some (.int (nI ((brl I M k).length))), some (.int (nI (k + 1)))] [] (n, sl, wKK kk, I, K, wQQ q) (fun rv h' => rv = some (.int (nI (brl I M (nNow I)).length)) ∧ ∃ K1, h' = (n, sl, wKK kk, I, K1, wQQ q) ∧ kP L K1) := by
  have hC2 := hB.1.2
  have en : ∀ (d' : Nat) (K : Nat → Nat → Int64), am_Ev d' 198 0 (am_ent 1 [.ref 80]) [] (n, sl, wKK kk, I, K, wQQ q) (some (.int (nI (nNow I))), (n, sl, wKK kk, I, K, wQQ q)) := fun d' K => by
    have e := ev_m_now (d := d') (n := n) (sl := sl) (k := kk) (q := q) (I := I) (L := K)
    rw [(now_N hB).1] at e
    exact e
  have hnn := (now_N (L := L) hB).2
  intro m
  induction m with
  | zero =>
    intro k hk K hK
    have hk2 : k = nNow I := by omega
    subst hk2
    show am_T _ _ 8 [some (.ref 80), some (.int (nI ((brl I M (nNow I)).length))), some (.int (nI (nNow I + 1)))] _ _ _
    refine tv_b (pc' := 10) (ls' := [some (.ref 80), some (.int (nI ((brl I M (nNow I)).length))), some (.int (nI (nNow I + 1)))]) (st' := [.ref 80, .int (nI (nNow I + 1))]) (h' := (n, sl, wKK kk, I, K, wQQ q)) 2 rfl ?_
    refine tv_cvE [] [.int (nI (nNow I + 1))] rfl rfl (by omega) rfl (Nat.le_of_ble_eq_true rfl) (Nat.le_of_ble_eq_true rfl) (Or.inr (Or.inr rfl)) (en _ _) ?_
    refine tv_b (pc' := (if (nI (nNow I)) < (nI (nNow I + 1)) then 38 else 16)) (ls' := [some (.ref 80), some (.int (nI ((brl I M (nNow I)).length))), some (.int (nI (nNow I + 1)))]) (st' := []) (h' := (n, sl, wKK kk, I, K, wQQ q)) 1 rfl ?_
    refine tv_t ((nI_ltI (a := (nNow I)) (b := (nNow I + 1)) (by omega) (by omega)).mpr (by omega)) ?_
    refine tv_b (pc' := 39) (ls' := [some (.ref 80), some (.int (nI ((brl I M (nNow I)).length))), some (.int (nI (nNow I + 1)))]) (st' := [.int (nI ((brl I M (nNow I)).length))]) (h' := (n, sl, wKK kk, I, K, wQQ q)) 1 rfl ?_
    exact tv_ri rfl ⟨rfl, K, rfl, hK⟩
  | succ m ih =>
    intro k hk K hK
    have hlen := brl_len (X := I) (M := M) k
    show am_T _ _ 8 [some (.ref 80), some (.int (nI ((brl I M k).length))), some (.int (nI (k + 1)))] _ _ _
    refine tv_b (pc' := 10) (ls' := [some (.ref 80), some (.int (nI ((brl I M k).length))), some (.int (nI (k + 1)))]) (st' := [.ref 80, .int (nI (k + 1))]) (h' := (n, sl, wKK kk, I, K, wQQ q)) 2 rfl ?_
    refine tv_cvE [] [.int (nI (k + 1))] rfl rfl (by omega) rfl (Nat.le_of_ble_eq_true rfl) (Nat.le_of_ble_eq_true rfl) (Or.inr (Or.inr rfl)) (en _ _) ?_
    refine tv_b (pc' := (if (nI (nNow I)) < (nI (k + 1)) then 38 else 16)) (ls' := [some (.ref 80), some (.int (nI ((brl I M k).length))), some (.int (nI (k + 1)))]) (st' := []) (h' := (n, sl, wKK kk, I, K, wQQ q)) 1 rfl ?_
    refine tv_f (fun hq => absurd ((nI_ltI (a := (nNow I)) (b := (k + 1)) (by omega) (by omega)).mp hq) (by omega)) ?_
    refine tv_b (pc' := 19) (ls' := [some (.ref 80), some (.int (nI ((brl I M k).length))), some (.int (nI (k + 1)))]) (st' := [.int (nI (k + 1)), .ref 80, .int (nI ((brl I M k).length))]) (h' := (n, sl, wKK kk, I, K, wQQ q)) 3 rfl ?_
    refine tv_cv [.int (nI (k + 1))] [.int (nI ((brl I M k).length))] rfl rfl (by omega) rfl (Nat.le_of_ble_eq_true rfl) (Nat.le_of_ble_eq_true rfl) (Or.inr (Or.inr rfl)) (tv_m_isB hT hB hP hM (show k < nC I by omega) hK) ?_
    rintro rv9 h9 ⟨rfl, K1, rfl, hK1⟩
    by_cases hb : isB I M (k + 1) = true
    · rw [if_pos hb]
      refine tv_b (pc' := 30) (ls' := [some (.ref 80), some (.int (nI ((brl I M k).length))), some (.int (nI (k + 1)))]) (st' := [.int 1, .int (nI ((brl I M k).length))]) (h' := (n, sl, wKK kk, I, K1, wQQ q)) 3 rfl ?_
      refine tv_b (pc' := 31) (ls' := [some (.ref 80), some (.int (nI ((brl I M k).length))), some (.int (nI (k + 1)))]) (st' := [.int ((nI ((brl I M k).length)) + 1)]) (h' := (n, sl, wKK kk, I, K1, wQQ q)) 1 rfl ?_
      refine tv_top (show (nI ((brl I M k).length)) + 1 = nI (((brl I M k).length) + 1) from nI_add ((brl I M k).length) 1) ?_
      refine tv_b (pc' := 32) (ls' := [some (.ref 80), some (.int (nI (((brl I M k).length) + 1))), some (.int (nI (k + 1)))]) (st' := []) (h' := (n, sl, wKK kk, I, K1, wQQ q)) 1 rfl ?_
      refine tv_iincN (k := (k + 1)) (ls' := [some (.ref 80), some (.int (nI (((brl I M k).length) + 1))), some (.int (nI ((k + 1) + 1)))]) rfl rfl rfl ?_
      refine tv_b (pc' := 8) (ls' := [some (.ref 80), some (.int (nI (((brl I M k).length) + 1))), some (.int (nI ((k + 1) + 1)))]) (st' := []) (h' := (n, sl, wKK kk, I, K1, wQQ q)) 1 rfl ?_
      have e := (brl_s hb).1
      have hq := ih (k + 1) (by omega) K1 hK1
      rw [e] at hq
      exact hq
    · rw [if_neg hb]
      refine tv_b (pc' := 30) (ls' := [some (.ref 80), some (.int (nI ((brl I M k).length))), some (.int (nI (k + 1)))]) (st' := [.int 0, .int (nI ((brl I M k).length))]) (h' := (n, sl, wKK kk, I, K1, wQQ q)) 2 rfl ?_
      refine tv_b (pc' := 31) (ls' := [some (.ref 80), some (.int (nI ((brl I M k).length))), some (.int (nI (k + 1)))]) (st' := [.int ((nI ((brl I M k).length)) + 0)]) (h' := (n, sl, wKK kk, I, K1, wQQ q)) 1 rfl ?_
      refine tv_top (show (nI ((brl I M k).length)) + 0 = nI (((brl I M k).length) + 0) from nI_add ((brl I M k).length) 0) ?_
      refine tv_b (pc' := 32) (ls' := [some (.ref 80), some (.int (nI (((brl I M k).length) + 0))), some (.int (nI (k + 1)))]) (st' := []) (h' := (n, sl, wKK kk, I, K1, wQQ q)) 1 rfl ?_
      refine tv_iincN (k := (k + 1)) (ls' := [some (.ref 80), some (.int (nI (((brl I M k).length) + 0))), some (.int (nI ((k + 1) + 1)))]) rfl rfl rfl ?_
      refine tv_b (pc' := 8) (ls' := [some (.ref 80), some (.int (nI (((brl I M k).length) + 0))), some (.int (nI ((k + 1) + 1)))]) (st' := []) (h' := (n, sl, wKK kk, I, K1, wQQ q)) 1 rfl ?_
      have e := congrArg List.length (brl_n hb)
      have hq := ih (k + 1) (by omega) K1 hK1
      rw [e] at hq
      exact hq
theorem brl_mono {X : Nat → Nat → Int32} {M : Nat → List (Nat × Nat × List Nat)} {k : Nat} : ∀ e, (brl X M k).length ≤ (brl X M (k + e)).length ∧ ∀ i, i < (brl X M k).length → (brl X M (k + e)).getD i 0 = (brl X M k).getD i 0 := by
  intro e
  induction e with
  | zero => exact ⟨Nat.le_refl _, fun _ _ => rfl⟩
  | succ e ih =>
    by_cases hb : isB X M (k + e + 1) = true
    · obtain ⟨b1, b2, b3⟩ := brl_s hb
      refine ⟨by show _ ≤ (brl X M (k + e + 1)).length; rw [b1]; omega, fun i hi => ?_⟩
      show (brl X M (k + e + 1)).getD i 0 = _
      rw [b2 i (by omega)]
      exact ih.2 i hi
    · have e2 := brl_n hb
      show _ ≤ (brl X M (k + e + 1)).length ∧ ∀ i, _ → (brl X M (k + e + 1)).getD i 0 = _
      rw [e2]
      exact ih
theorem tv_m_brL {n sl : Nat} {kk : Nat → Nat × Nat} {I : Nat → Nat → Int32} {L : Nat → Nat → Int64} {q : Nat → Nat → Option Nat} {M : Nat → List (Nat × Nat × List Nat)} (hT : wfT I) (hB : wfB I) (hP : mPl I L) (hM : mCode I M) {T : Nat} (hT31 : T < 2147483648) : ∀ m k : Nat, k + m = nNow I → (brl I M k).length ≤ T → ∀ K : Nat → Nat → Int64, kP L K → am_T 8 224 8 [some (.ref 80), some (.int (nI T)), some (.int (nI (T - (brl I M k).length))), some (.int (nI (k + 1)))] [] (n, sl, wKK kk, I, K, wQQ q) (fun rv h' => rv = some (.int (if T < (brl I M (nNow I)).length then nI ((brl I M (nNow I)).getD T 0) else -1)) ∧ ∃ K1, h' = (n, sl, wKK kk, I, K1, wQQ q) ∧ kP L K1) := by
  have hC2 := hB.1.2
  have en : ∀ (d' : Nat) (K : Nat → Nat → Int64), am_Ev d' 198 0 (am_ent 1 [.ref 80]) [] (n, sl, wKK kk, I, K, wQQ q) (some (.int (nI (nNow I))), (n, sl, wKK kk, I, K, wQQ q)) := fun d' K => by
    have e := ev_m_now (d := d') (n := n) (sl := sl) (k := kk) (q := q) (I := I) (L := K)
    rw [(now_N hB).1] at e
    exact e
  have hnn := (now_N (L := L) hB).2
  intro m
  induction m with
  | zero =>
    intro k hk hlT K hK
    have hk2 : k = nNow I := by omega
    subst hk2
    show am_T _ _ 8 [some (.ref 80), some (.int (nI T)), some (.int (nI (T - (brl I M (nNow I)).length))), some (.int (nI (nNow I + 1)))] _ _ _
    refine tv_b (pc' := 10) (ls' := [some (.ref 80), some (.int (nI T)), some (.int (nI (T - (brl I M (nNow I)).length))), some (.int (nI (nNow I + 1)))]) (st' := [.ref 80, .int (nI (nNow I + 1))]) (h' := (n, sl, wKK kk, I, K, wQQ q)) 2 rfl ?_
    refine tv_cvE [] [.int (nI (nNow I + 1))] rfl rfl (by omega) rfl (Nat.le_of_ble_eq_true rfl) (Nat.le_of_ble_eq_true rfl) (Or.inr (Or.inr rfl)) (en _ _) ?_
    refine tv_b (pc' := (if (nI (nNow I)) < (nI (nNow I + 1)) then 46 else 16)) (ls' := [some (.ref 80), some (.int (nI T)), some (.int (nI (T - (brl I M (nNow I)).length))), some (.int (nI (nNow I + 1)))]) (st' := []) (h' := (n, sl, wKK kk, I, K, wQQ q)) 1 rfl ?_
    refine tv_t ((nI_ltI (a := (nNow I)) (b := (nNow I + 1)) (by omega) (by omega)).mpr (by omega)) ?_
    refine tv_b (pc' := 47) (ls' := [some (.ref 80), some (.int (nI T)), some (.int (nI (T - (brl I M (nNow I)).length))), some (.int (nI (nNow I + 1)))]) (st' := [.int (-1)]) (h' := (n, sl, wKK kk, I, K, wQQ q)) 1 rfl ?_
    exact tv_ri rfl ⟨by rw [if_neg (by omega)], K, rfl, hK⟩
  | succ m ih =>
    intro k hk hlT K hK
    have hlen := brl_len (X := I) (M := M) k
    have hmo := brl_mono (X := I) (M := M) (k := k + 1) m
    rw [show k + 1 + m = nNow I by omega] at hmo
    have hnT : ¬ nI T < 0 := nI_nlt (b := 0) (by omega) (by omega)
    show am_T _ _ 8 [some (.ref 80), some (.int (nI T)), some (.int (nI (T - (brl I M k).length))), some (.int (nI (k + 1)))] _ _ _
    refine tv_b (pc' := 10) (ls' := [some (.ref 80), some (.int (nI T)), some (.int (nI (T - (brl I M k).length))), some (.int (nI (k + 1)))]) (st' := [.ref 80, .int (nI (k + 1))]) (h' := (n, sl, wKK kk, I, K, wQQ q)) 2 rfl ?_
    refine tv_cvE [] [.int (nI (k + 1))] rfl rfl (by omega) rfl (Nat.le_of_ble_eq_true rfl) (Nat.le_of_ble_eq_true rfl) (Or.inr (Or.inr rfl)) (en _ _) ?_
    refine tv_b (pc' := (if (nI (nNow I)) < (nI (k + 1)) then 46 else 16)) (ls' := [some (.ref 80), some (.int (nI T)), some (.int (nI (T - (brl I M k).length))), some (.int (nI (k + 1)))]) (st' := []) (h' := (n, sl, wKK kk, I, K, wQQ q)) 1 rfl ?_
    refine tv_f (fun hq => absurd ((nI_ltI (a := (nNow I)) (b := (k + 1)) (by omega) (by omega)).mp hq) (by omega)) ?_
    refine tv_b (pc' := (if (nI T) < 0 then 46 else 20)) (ls' := [some (.ref 80), some (.int (nI T)), some (.int (nI (T - (brl I M k).length))), some (.int (nI (k + 1)))]) (st' := []) (h' := (n, sl, wKK kk, I, K, wQQ q)) 2 rfl ?_
    refine tv_f (hnT) ?_
    refine tv_b (pc' := 22) (ls' := [some (.ref 80), some (.int (nI T)), some (.int (nI (T - (brl I M k).length))), some (.int (nI (k + 1)))]) (st' := [.int (nI (k + 1)), .ref 80]) (h' := (n, sl, wKK kk, I, K, wQQ q)) 2 rfl ?_
    refine tv_cv [.int (nI (k + 1))] [] rfl rfl (by omega) rfl (Nat.le_of_ble_eq_true rfl) (Nat.le_of_ble_eq_true rfl) (Or.inr (Or.inr rfl)) (tv_m_isB hT hB hP hM (show k < nC I by omega) hK) ?_
    rintro rv9 h9 ⟨rfl, K1, rfl, hK1⟩
    by_cases hb : isB I M (k + 1) = true
    · rw [if_pos hb]
      obtain ⟨b1, b2, b3⟩ := brl_s hb
      by_cases h0 : (brl I M k).length = T
      · refine tv_b (pc' := (if (nI (T - (brl I M k).length)) = 0 then 35 else 37)) (ls' := [some (.ref 80), some (.int (nI T)), some (.int (nI (T - (brl I M k).length))), some (.int (nI (k + 1)))]) (st' := []) (h' := (n, sl, wKK kk, I, K1, wQQ q)) 3 rfl ?_
        refine tv_t ((nI_eq (a := (T - (brl I M k).length)) (b := 0) (by omega) (by omega)).mpr (by omega)) ?_
        refine tv_b (pc' := 36) (ls' := [some (.ref 80), some (.int (nI T)), some (.int (nI (T - (brl I M k).length))), some (.int (nI (k + 1)))]) (st' := [.int (nI (k + 1))]) (h' := (n, sl, wKK kk, I, K1, wQQ q)) 1 rfl ?_
        exact tv_ri rfl ⟨by rw [if_pos (by omega), hmo.2 T (by omega), ← h0, b3], K1, rfl, hK1⟩
      · refine tv_b (pc' := (if (nI (T - (brl I M k).length)) = 0 then 35 else 37)) (ls' := [some (.ref 80), some (.int (nI T)), some (.int (nI (T - (brl I M k).length))), some (.int (nI (k + 1)))]) (st' := []) (h' := (n, sl, wKK kk, I, K1, wQQ q)) 3 rfl ?_
        refine tv_f (fun hq => absurd ((nI_eq (a := (T - (brl I M k).length)) (b := 0) (by omega) (by omega)).mp hq) (by omega)) ?_
        refine tv_b (pc' := 40) (ls' := [some (.ref 80), some (.int (nI T)), some (.int ((nI (T - (brl I M k).length)) + Int32.ofInt (-1))), some (.int (nI (k + 1)))]) (st' := []) (h' := (n, sl, wKK kk, I, K1, wQQ q)) 1 rfl ?_
        refine tv_iincN (k := (k + 1)) (ls' := [some (.ref 80), some (.int (nI T)), some (.int ((nI (T - (brl I M k).length)) + Int32.ofInt (-1))), some (.int (nI ((k + 1) + 1)))]) rfl rfl rfl ?_
        refine tv_b (pc' := 8) (ls' := [some (.ref 80), some (.int (nI T)), some (.int ((nI (T - (brl I M k).length)) + Int32.ofInt (-1))), some (.int (nI ((k + 1) + 1)))]) (st' := []) (h' := (n, sl, wKK kk, I, K1, wQQ q)) 1 rfl ?_
        rw [show nI (T - (brl I M k).length) + Int32.ofInt (-1) = nI (T - (brl I M (k + 1)).length) from by
          rw [b1]
          obtain ⟨u, hu⟩ : ∃ u, (T - (brl I M k).length) = u + 1 := ⟨(T - (brl I M k).length) - 1, by omega⟩
          rw [hu, show T - ((brl I M k).length + 1) = u by omega]
          exact rg_d (u + 1)]
        exact ih (k + 1) (by omega) (by omega) K1 hK1
    · rw [if_neg hb]
      refine tv_b (pc' := 40) (ls' := [some (.ref 80), some (.int (nI T)), some (.int (nI (T - (brl I M k).length))), some (.int (nI (k + 1)))]) (st' := []) (h' := (n, sl, wKK kk, I, K1, wQQ q)) 2 rfl ?_
      refine tv_iincN (k := (k + 1)) (ls' := [some (.ref 80), some (.int (nI T)), some (.int (nI (T - (brl I M k).length))), some (.int (nI ((k + 1) + 1)))]) rfl rfl rfl ?_
      refine tv_b (pc' := 8) (ls' := [some (.ref 80), some (.int (nI T)), some (.int (nI (T - (brl I M k).length))), some (.int (nI ((k + 1) + 1)))]) (st' := []) (h' := (n, sl, wKK kk, I, K1, wQQ q)) 1 rfl ?_
      have e := brl_n hb
      have hq := ih (k + 1) (by omega) (by rw [e]; exact hlT) K1 hK1
      rw [e] at hq
      exact hq
