/-! FIT, ODD: the calls -/
theorem ar_daysx {x y : Int32} : sp_areDays x y = 0 ↔ ¬ (0 ≤ x.toInt ∧ x.toInt ≤ y.toInt ∧ y.toInt < 400) := ar_days
theorem ar_daysm {x y : Int32} : sp_m_areDays x y = 0 ↔ ¬ (0 ≤ x.toInt ∧ x.toInt ≤ y.toInt ∧ y.toInt < 400) := by
  unfold sp_m_areDays
  have e : (y < x) ↔ y.toInt < x.toInt := Int32.lt_iff_toInt_lt
  by_cases h1 : sp_m_isDay x = 0
  · rw [if_pos h1]
    have := ar_mday.mp h1
    exact ⟨fun _ z => this (by omega), fun _ => rfl⟩
  · rw [if_neg h1]
    have r1 := (nn_iff ar_mday).mp h1
    by_cases h2 : sp_m_isDay y = 0
    · rw [if_pos h2]
      have := ar_mday.mp h2
      exact ⟨fun _ z => this (by omega), fun _ => rfl⟩
    · rw [if_neg h2]
      have r2 := (nn_iff ar_mday).mp h2
      by_cases h3 : y < x
      · rw [if_pos h3]
        have := e.mp h3
        exact ⟨fun _ z => by omega, fun _ => rfl⟩
      · rw [if_neg h3]
        have : ¬ y.toInt < x.toInt := fun z => h3 (e.mpr z)
        exact ⟨fun z => absurd z (by decide), fun z => absurd (by omega) z⟩
theorem jx_fit {x y z : Int32} : jx 134 (am_ent 4 [.ref 0, .int x, .int y, .int z]) 229 (am_ent 4 [.ref 80, .int x, .int y, .int z]) := by
  rintro k h hk ⟨n, sl, kk, I, L, q, rfl, C, ah, M, tx, T0, g, hr, ht, hu, hs, hc, hj, hn, hsl⟩
  have same := h_same (q := q) hk g hr ht hu hs hc hj hn hsl
  have gB := g.2.1
  have hC : nC I = C := g.2.2.1.2.2.1.2.1
  have hC2 : C ≤ 200 := by rw [← hC]; exact gB.1.2
  have hnn : nNow I ≤ C := by rw [← hC]; exact (nNow_v gB).2
  by_cases h : sp_areDays x y = 0
  · exact jx_el (d1 := 2) (d2 := 3) (by decide) (by decide) (ev_x_fitO (d := 0) h) (ev_m_fitO (d := 0) (ar_daysm.mpr (ar_daysx.mp h))) same
  · have h' : ¬ sp_m_areDays x y = 0 := fun z => h (ar_daysx.mpr (ar_daysm.mp z))
    have rr := (nn_iff ar_daysx).mp h
    have ex := x_nI rr.1
    have ey := x_nI (x := y) (by omega)
    have hF : x.toInt.toNat ≤ y.toInt.toNat := by omega
    have hT4 : y.toInt.toNat < 400 := by omega
    generalize x.toInt.toNat = F at ex hF
    generalize y.toInt.toNat = T at ey hF hT4
    subst ex
    subst ey
    clear rr
    obtain ⟨J0, K0, er, hE0, hga, hbd, hfo⟩ := foS_c (sl := sl) g ht hu hF hT4
    have c0 := w_c (F := F) (T := T) (b := 0) hE0 C
    have hlen0 := (rdl_len (X := J0) (F := F) (T := T) C).1
    have wb0 := w_b (b := 0) hbd C
    have hcl0 := (rdl_len (X := J0) (F := F) (T := T) C).2
    rw [c0.1, c0.2.1] at wb0
    rw [hlen0, c0.2.2] at hcl0
    obtain ⟨w1, w2, _, _⟩ := wb0
    rw [hlen0, c0.1, c0.2.1, c0.2.2] at hga
    by_cases h0 : cnw I F T 0 C = 0
    · skip
      refine tv_up (d := 7) (by decide) ?_
      show am_T _ _ 0 [some (.ref 0), some (.int (nI F)), some (.int (nI T)), some (.int z)] _ _ _
      refine tv_b (pc' := 2) (ls' := [some (.ref 0), some (.int (nI F)), some (.int (nI T)), some (.int z)]) (st' := [.int (nI T), .int (nI F)]) (h' := (n, sl, wKK kk, I, L, wQQ q)) 2 rfl ?_
      refine tv_csE [.int (nI F), .int (nI T)] [] rfl rfl (by omega) rfl (Nat.le_of_ble_eq_true rfl) (Nat.le_of_ble_eq_true rfl) (ev_areDays) ?_
      refine tv_b (pc' := (if (sp_areDays (nI F) (nI T)) = 0 then 8 else 12)) (ls' := [some (.ref 0), some (.int (nI F)), some (.int (nI T)), some (.int z)]) (st' := []) (h' := (n, sl, wKK kk, I, L, wQQ q)) 1 rfl ?_
      refine tv_f (h) ?_
      refine tv_b (pc' := 17) (ls' := [some (.ref 0), some (.int (nI F)), some (.int (nI T)), some (.int z)]) (st' := [.int (nI T), .ref 13]) (h' := (n, sl, wKK kk, I, L, wQQ q)) 3 rfl ?_
      refine tv_cvE [.int (nI T)] [] rfl rfl (by omega) rfl (Nat.le_of_ble_eq_true rfl) (Nat.le_of_ble_eq_true rfl) (Or.inr (Or.inr rfl)) (er 1) ?_
      refine tv_b (pc' := 26) (ls' := [some (.ref 0), some (.int (nI F)), some (.int (nI T)), some (.int z)]) (st' := [.int (nI T), .int (nI F), .ref 64]) (h' := (n, sl, wKK kk, J0, K0, wQQ q)) 4 rfl ?_
      refine tv_cv [.int (nI F), .int (nI T)] [] rfl rfl (by omega) rfl (Nat.le_of_ble_eq_true rfl) (Nat.le_of_ble_eq_true rfl) (Or.inr (Or.inr rfl)) (hga) ?_
      rintro rv9 h9 ⟨rfl, r68, r69, r70, rfl, hgE⟩
      have ebd : ∀ d', am_Ev d' 45 0 (am_ent 2 [.ref 64, .int z]) [] (n, sl, wKK kk, (gaI J0 (nI (cnw I F T 0 C)) r68), (gaL K0 (jL (mxw I F T 0 C)) (jL (sxw J0 F T C)) (jL (mnw I F T 0 C)) (jL (snw J0 F T C)) r69 r70), wQQ q) (some (.long (-2000000001)), (n, sl, wKK kk, (gaI J0 (nI (cnw I F T 0 C)) r68), (gaL K0 (jL (mxw I F T 0 C)) (jL (sxw J0 F T C)) (jL (mnw I F T 0 C)) (jL (snw J0 F T C)) r69 r70), wQQ q)) := fun d' => by
        have e := ev_g_bound (d := d') (n := n) (sl := sl) (k := kk) (q := q) (I := (gaI J0 (nI (cnw I F T 0 C)) r68)) (L := (gaL K0 (jL (mxw I F T 0 C)) (jL (sxw J0 F T C)) (jL (mnw I F T 0 C)) (jL (snw J0 F T C)) r69 r70)) (z := z)
        have hv : sp_g_bound z (gaI J0 (nI (cnw I F T 0 C)) r68) (gaL K0 (jL (mxw I F T 0 C)) (jL (sxw J0 F T C)) (jL (mnw I F T 0 C)) (jL (snw J0 F T C)) r69 r70) = (-2000000001) := by
          show (if (nI (cnw I F T 0 C)) = 0 then (-2000000001 : Int64) else (if lg_cmp (jL (mxw I F T 0 C)) (jL (mnw I F T 0 C)) ≤ 0 then (if z = 0 then jL (mxw I F T 0 C) else jL (mnw I F T 0 C)) else (-2000000002))) = (-2000000001)
          rw [if_pos (by rw [h0]; rfl)]
        rw [hv] at e
        exact e
      refine tv_b (pc' := 34) (ls' := [some (.ref 0), some (.int (nI F)), some (.int (nI T)), some (.int z)]) (st' := [.int z, .ref 64]) (h' := (n, sl, wKK kk, (gaI J0 (nI (cnw I F T 0 C)) r68), (gaL K0 (jL (mxw I F T 0 C)) (jL (sxw J0 F T C)) (jL (mnw I F T 0 C)) (jL (snw J0 F T C)) r69 r70), wQQ q)) 3 rfl ?_
      refine tv_cvE [.int z] [] rfl rfl (by omega) rfl (Nat.le_of_ble_eq_true rfl) (Nat.le_of_ble_eq_true rfl) (Or.inr (Or.inr rfl)) (ebd _) ?_
      refine tv_rl rfl ⟨.long (-2000000001), Or.inr ⟨_, rfl⟩, rfl, ?_⟩
      obtain ⟨J3, K3, ep, g3, hP, ht3, hu3, hE3, hfo3⟩ := foS_m (sl := sl) (F := F) (T := T) (hfo (nI (cnw I F T 0 C)) r68 (jL (mxw I F T 0 C)) (jL (sxw J0 F T C)) (jL (mnw I F T 0 C)) (jL (snw J0 F T C)) r69 r70) ht hu hF hT4
      have hnJ : nNow J3 = nNow I := (kn_c hE3).2.1
      have hc3 : ∀ b, mxw J3 F T b (nNow J3) = mxw I F T b C ∧ mnw J3 F T b (nNow J3) = mnw I F T b C ∧ cnw J3 F T b (nNow J3) = cnw I F T b C := fun b => by
        obtain ⟨a1, a2, a3⟩ := w_c (F := F) (T := T) (b := b) hE3 (nNow J3)
        obtain ⟨b1, b2, b3⟩ := w_now (X := I) (F := F) (T := T) (b := b) hnn
        rw [a1, a2, a3, b1, b2, b3, hnJ]
        exact ⟨rfl, rfl, rfl⟩
      refine tv_up (d := 8) (by decide) ?_
      show am_T _ _ 0 [some (.ref 80), some (.int (nI F)), some (.int (nI T)), some (.int z)] _ _ _
      refine tv_b (pc' := 2) (ls' := [some (.ref 80), some (.int (nI F)), some (.int (nI T)), some (.int z)]) (st' := [.int (nI T), .int (nI F)]) (h' := (n, sl, wKK kk, (gaI J0 (nI (cnw I F T 0 C)) r68), (gaL K0 (jL (mxw I F T 0 C)) (jL (sxw J0 F T C)) (jL (mnw I F T 0 C)) (jL (snw J0 F T C)) r69 r70), wQQ q)) 2 rfl ?_
      refine tv_csE [.int (nI F), .int (nI T)] [] rfl rfl (by omega) rfl (Nat.le_of_ble_eq_true rfl) (Nat.le_of_ble_eq_true rfl) (ev_m_areDays) ?_
      refine tv_b (pc' := (if (sp_m_areDays (nI F) (nI T)) = 0 then 8 else 12)) (ls' := [some (.ref 80), some (.int (nI F)), some (.int (nI T)), some (.int z)]) (st' := []) (h' := (n, sl, wKK kk, (gaI J0 (nI (cnw I F T 0 C)) r68), (gaL K0 (jL (mxw I F T 0 C)) (jL (sxw J0 F T C)) (jL (mnw I F T 0 C)) (jL (snw J0 F T C)) r69 r70), wQQ q)) 1 rfl ?_
      refine tv_f (h') ?_
      refine tv_b (pc' := 13) (ls' := [some (.ref 80), some (.int (nI F)), some (.int (nI T)), some (.int z)]) (st' := [.ref 80]) (h' := (n, sl, wKK kk, (gaI J0 (nI (cnw I F T 0 C)) r68), (gaL K0 (jL (mxw I F T 0 C)) (jL (sxw J0 F T C)) (jL (mnw I F T 0 C)) (jL (snw J0 F T C)) r69 r70), wQQ q)) 1 rfl ?_
      refine tv_cvE [] [] rfl rfl (by omega) rfl (Nat.le_of_ble_eq_true rfl) (Nat.le_of_ble_eq_true rfl) (Or.inr (Or.inr rfl)) (ep 3) ?_
      refine tv_hI fi_sI ?_
      refine tv_hL fi_sL ?_
      refine tv_b (pc' := 20) (ls' := [some (.ref 80), some (.int (nI F)), some (.int (nI T)), some (.int z)]) (st' := [.int 0, .int (nI T), .int (nI F), .ref 80]) (h' := (n, sl, wKK kk, (fiI J3 (J3 80 65)), (fiL K3 (K3 80 63) (K3 80 64)), wQQ q)) 4 rfl ?_
      refine tv_cv [.int (nI F), .int (nI T), .int 0] [] rfl rfl (by omega) rfl (Nat.le_of_ble_eq_true rfl) (Nat.le_of_ble_eq_true rfl) (Or.inr (Or.inr rfl)) (tv_up (d := 6) (by decide) (tv_fits (b := 0) g3 ht3 hu3 hF hT4 hP (by omega))) ?_
      rintro rv9 h9 ⟨rfl, lo, up, rfl, hlu⟩
      obtain ⟨e1, e2, e3⟩ := hc3 0
      have hcb : cnw J3 F T 0 (nNow J3) ≤ 200 := by rw [e3]; omega
      refine tv_b (pc' := (if (nI (cnw J3 F T 0 (nNow J3))) = 0 then 30 else 34)) (ls' := [some (.ref 80), some (.int (nI F)), some (.int (nI T)), some (.int z)]) (st' := []) (h' := (n, sl, wKK kk, (fiI J3 (nI (cnw J3 F T 0 (nNow J3)))), (fiL K3 lo up), wQQ q)) 3 rfl ?_
      refine tv_t ((nI_eq (a := (cnw J3 F T 0 (nNow J3))) (b := 0) (by omega) (by omega)).mpr (by rw [e3]; exact h0)) ?_
      refine tv_b (pc' := 33) (ls' := [some (.ref 80), some (.int (nI F)), some (.int (nI T)), some (.int z)]) (st' := [.long (-2000000001)]) (h' := (n, sl, wKK kk, (fiI J3 (nI (cnw J3 F T 0 (nNow J3)))), (fiL K3 lo up), wQQ q)) 1 rfl ?_
      exact tv_rl rfl ⟨rfl, foS_h hk gB hC hr ht hu hs hc hj hn hsl (hfo3 _ _ _)⟩
    · by_cases hz : mxw I F T 0 C ≤ mnw I F T 0 C
      · by_cases hz0 : z = 0
        · skip
          refine tv_up (d := 7) (by decide) ?_
          show am_T _ _ 0 [some (.ref 0), some (.int (nI F)), some (.int (nI T)), some (.int z)] _ _ _
          refine tv_b (pc' := 2) (ls' := [some (.ref 0), some (.int (nI F)), some (.int (nI T)), some (.int z)]) (st' := [.int (nI T), .int (nI F)]) (h' := (n, sl, wKK kk, I, L, wQQ q)) 2 rfl ?_
          refine tv_csE [.int (nI F), .int (nI T)] [] rfl rfl (by omega) rfl (Nat.le_of_ble_eq_true rfl) (Nat.le_of_ble_eq_true rfl) (ev_areDays) ?_
          refine tv_b (pc' := (if (sp_areDays (nI F) (nI T)) = 0 then 8 else 12)) (ls' := [some (.ref 0), some (.int (nI F)), some (.int (nI T)), some (.int z)]) (st' := []) (h' := (n, sl, wKK kk, I, L, wQQ q)) 1 rfl ?_
          refine tv_f (h) ?_
          refine tv_b (pc' := 17) (ls' := [some (.ref 0), some (.int (nI F)), some (.int (nI T)), some (.int z)]) (st' := [.int (nI T), .ref 13]) (h' := (n, sl, wKK kk, I, L, wQQ q)) 3 rfl ?_
          refine tv_cvE [.int (nI T)] [] rfl rfl (by omega) rfl (Nat.le_of_ble_eq_true rfl) (Nat.le_of_ble_eq_true rfl) (Or.inr (Or.inr rfl)) (er 1) ?_
          refine tv_b (pc' := 26) (ls' := [some (.ref 0), some (.int (nI F)), some (.int (nI T)), some (.int z)]) (st' := [.int (nI T), .int (nI F), .ref 64]) (h' := (n, sl, wKK kk, J0, K0, wQQ q)) 4 rfl ?_
          refine tv_cv [.int (nI F), .int (nI T)] [] rfl rfl (by omega) rfl (Nat.le_of_ble_eq_true rfl) (Nat.le_of_ble_eq_true rfl) (Or.inr (Or.inr rfl)) (hga) ?_
          rintro rv9 h9 ⟨rfl, r68, r69, r70, rfl, hgE⟩
          have ebd : ∀ d', am_Ev d' 45 0 (am_ent 2 [.ref 64, .int z]) [] (n, sl, wKK kk, (gaI J0 (nI (cnw I F T 0 C)) r68), (gaL K0 (jL (mxw I F T 0 C)) (jL (sxw J0 F T C)) (jL (mnw I F T 0 C)) (jL (snw J0 F T C)) r69 r70), wQQ q) (some (.long (jL (mxw I F T 0 C))), (n, sl, wKK kk, (gaI J0 (nI (cnw I F T 0 C)) r68), (gaL K0 (jL (mxw I F T 0 C)) (jL (sxw J0 F T C)) (jL (mnw I F T 0 C)) (jL (snw J0 F T C)) r69 r70), wQQ q)) := fun d' => by
            have e := ev_g_bound (d := d') (n := n) (sl := sl) (k := kk) (q := q) (I := (gaI J0 (nI (cnw I F T 0 C)) r68)) (L := (gaL K0 (jL (mxw I F T 0 C)) (jL (sxw J0 F T C)) (jL (mnw I F T 0 C)) (jL (snw J0 F T C)) r69 r70)) (z := z)
            have hv : sp_g_bound z (gaI J0 (nI (cnw I F T 0 C)) r68) (gaL K0 (jL (mxw I F T 0 C)) (jL (sxw J0 F T C)) (jL (mnw I F T 0 C)) (jL (snw J0 F T C)) r69 r70) = (jL (mxw I F T 0 C)) := by
              show (if (nI (cnw I F T 0 C)) = 0 then (-2000000001 : Int64) else (if lg_cmp (jL (mxw I F T 0 C)) (jL (mnw I F T 0 C)) ≤ 0 then (if z = 0 then jL (mxw I F T 0 C) else jL (mnw I F T 0 C)) else (-2000000002))) = (jL (mxw I F T 0 C))
              rw [if_neg (show ¬ nI (cnw I F T 0 C) = 0 from fun y => h0 ((nI_eqI (b := 0) (by omega) (by omega)).mp y)), if_pos ((le_i w1 w2).mpr (by omega)), if_pos hz0]
            rw [hv] at e
            exact e
          refine tv_b (pc' := 34) (ls' := [some (.ref 0), some (.int (nI F)), some (.int (nI T)), some (.int z)]) (st' := [.int z, .ref 64]) (h' := (n, sl, wKK kk, (gaI J0 (nI (cnw I F T 0 C)) r68), (gaL K0 (jL (mxw I F T 0 C)) (jL (sxw J0 F T C)) (jL (mnw I F T 0 C)) (jL (snw J0 F T C)) r69 r70), wQQ q)) 3 rfl ?_
          refine tv_cvE [.int z] [] rfl rfl (by omega) rfl (Nat.le_of_ble_eq_true rfl) (Nat.le_of_ble_eq_true rfl) (Or.inr (Or.inr rfl)) (ebd _) ?_
          refine tv_rl rfl ⟨.long (jL (mxw I F T 0 C)), Or.inr ⟨_, rfl⟩, rfl, ?_⟩
          obtain ⟨J3, K3, ep, g3, hP, ht3, hu3, hE3, hfo3⟩ := foS_m (sl := sl) (F := F) (T := T) (hfo (nI (cnw I F T 0 C)) r68 (jL (mxw I F T 0 C)) (jL (sxw J0 F T C)) (jL (mnw I F T 0 C)) (jL (snw J0 F T C)) r69 r70) ht hu hF hT4
          have hnJ : nNow J3 = nNow I := (kn_c hE3).2.1
          have hc3 : ∀ b, mxw J3 F T b (nNow J3) = mxw I F T b C ∧ mnw J3 F T b (nNow J3) = mnw I F T b C ∧ cnw J3 F T b (nNow J3) = cnw I F T b C := fun b => by
            obtain ⟨a1, a2, a3⟩ := w_c (F := F) (T := T) (b := b) hE3 (nNow J3)
            obtain ⟨b1, b2, b3⟩ := w_now (X := I) (F := F) (T := T) (b := b) hnn
            rw [a1, a2, a3, b1, b2, b3, hnJ]
            exact ⟨rfl, rfl, rfl⟩
          refine tv_up (d := 8) (by decide) ?_
          show am_T _ _ 0 [some (.ref 80), some (.int (nI F)), some (.int (nI T)), some (.int z)] _ _ _
          refine tv_b (pc' := 2) (ls' := [some (.ref 80), some (.int (nI F)), some (.int (nI T)), some (.int z)]) (st' := [.int (nI T), .int (nI F)]) (h' := (n, sl, wKK kk, (gaI J0 (nI (cnw I F T 0 C)) r68), (gaL K0 (jL (mxw I F T 0 C)) (jL (sxw J0 F T C)) (jL (mnw I F T 0 C)) (jL (snw J0 F T C)) r69 r70), wQQ q)) 2 rfl ?_
          refine tv_csE [.int (nI F), .int (nI T)] [] rfl rfl (by omega) rfl (Nat.le_of_ble_eq_true rfl) (Nat.le_of_ble_eq_true rfl) (ev_m_areDays) ?_
          refine tv_b (pc' := (if (sp_m_areDays (nI F) (nI T)) = 0 then 8 else 12)) (ls' := [some (.ref 80), some (.int (nI F)), some (.int (nI T)), some (.int z)]) (st' := []) (h' := (n, sl, wKK kk, (gaI J0 (nI (cnw I F T 0 C)) r68), (gaL K0 (jL (mxw I F T 0 C)) (jL (sxw J0 F T C)) (jL (mnw I F T 0 C)) (jL (snw J0 F T C)) r69 r70), wQQ q)) 1 rfl ?_
          refine tv_f (h') ?_
          refine tv_b (pc' := 13) (ls' := [some (.ref 80), some (.int (nI F)), some (.int (nI T)), some (.int z)]) (st' := [.ref 80]) (h' := (n, sl, wKK kk, (gaI J0 (nI (cnw I F T 0 C)) r68), (gaL K0 (jL (mxw I F T 0 C)) (jL (sxw J0 F T C)) (jL (mnw I F T 0 C)) (jL (snw J0 F T C)) r69 r70), wQQ q)) 1 rfl ?_
          refine tv_cvE [] [] rfl rfl (by omega) rfl (Nat.le_of_ble_eq_true rfl) (Nat.le_of_ble_eq_true rfl) (Or.inr (Or.inr rfl)) (ep 3) ?_
          refine tv_hI fi_sI ?_
          refine tv_hL fi_sL ?_
          refine tv_b (pc' := 20) (ls' := [some (.ref 80), some (.int (nI F)), some (.int (nI T)), some (.int z)]) (st' := [.int 0, .int (nI T), .int (nI F), .ref 80]) (h' := (n, sl, wKK kk, (fiI J3 (J3 80 65)), (fiL K3 (K3 80 63) (K3 80 64)), wQQ q)) 4 rfl ?_
          refine tv_cv [.int (nI F), .int (nI T), .int 0] [] rfl rfl (by omega) rfl (Nat.le_of_ble_eq_true rfl) (Nat.le_of_ble_eq_true rfl) (Or.inr (Or.inr rfl)) (tv_up (d := 6) (by decide) (tv_fits (b := 0) g3 ht3 hu3 hF hT4 hP (by omega))) ?_
          rintro rv9 h9 ⟨rfl, lo, up, rfl, hlu⟩
          obtain ⟨e1, e2, e3⟩ := hc3 0
          have hcb : cnw J3 F T 0 (nNow J3) ≤ 200 := by rw [e3]; omega
          obtain ⟨rfl, rfl⟩ := hlu (by rw [e3]; exact h0)
          rw [e1, e2]
          refine tv_b (pc' := (if (nI (cnw J3 F T 0 (nNow J3))) = 0 then 30 else 34)) (ls' := [some (.ref 80), some (.int (nI F)), some (.int (nI T)), some (.int z)]) (st' := []) (h' := (n, sl, wKK kk, (fiI J3 (nI (cnw J3 F T 0 (nNow J3)))), (fiL K3 (jL (mxw I F T 0 C)) (jL (mnw I F T 0 C))), wQQ q)) 3 rfl ?_
          refine tv_f (fun hq => absurd ((nI_eq (a := (cnw J3 F T 0 (nNow J3))) (b := 0) (by omega) (by omega)).mp hq) (by rw [e3]; exact h0)) ?_
          refine tv_b (pc' := (if (lg_cmp (jL (mxw I F T 0 C)) (jL (mnw I F T 0 C))) ≤ 0 then 52 else 46)) (ls' := [some (.ref 80), some (.int (nI F)), some (.int (nI T)), some (.int z)]) (st' := []) (h' := (n, sl, wKK kk, (fiI J3 (nI (cnw J3 F T 0 (nNow J3)))), (fiL K3 (jL (mxw I F T 0 C)) (jL (mnw I F T 0 C))), wQQ q)) 6 rfl ?_
          refine tv_t ((le_i w1 w2).mpr (by omega)) ?_
          refine tv_b (pc' := (if z = 0 then 63 else 56)) (ls' := [some (.ref 80), some (.int (nI F)), some (.int (nI T)), some (.int z)]) (st' := []) (h' := (n, sl, wKK kk, (fiI J3 (nI (cnw J3 F T 0 (nNow J3)))), (fiL K3 (jL (mxw I F T 0 C)) (jL (mnw I F T 0 C))), wQQ q)) 2 rfl ?_
          refine tv_t (hz0) ?_
          refine tv_b (pc' := 67) (ls' := [some (.ref 80), some (.int (nI F)), some (.int (nI T)), some (.int z)]) (st' := [.long (jL (mxw I F T 0 C))]) (h' := (n, sl, wKK kk, (fiI J3 (nI (cnw J3 F T 0 (nNow J3)))), (fiL K3 (jL (mxw I F T 0 C)) (jL (mnw I F T 0 C))), wQQ q)) 2 rfl ?_
          exact tv_rl rfl ⟨rfl, foS_h hk gB hC hr ht hu hs hc hj hn hsl (hfo3 _ _ _)⟩
        · skip
          refine tv_up (d := 7) (by decide) ?_
          show am_T _ _ 0 [some (.ref 0), some (.int (nI F)), some (.int (nI T)), some (.int z)] _ _ _
          refine tv_b (pc' := 2) (ls' := [some (.ref 0), some (.int (nI F)), some (.int (nI T)), some (.int z)]) (st' := [.int (nI T), .int (nI F)]) (h' := (n, sl, wKK kk, I, L, wQQ q)) 2 rfl ?_
          refine tv_csE [.int (nI F), .int (nI T)] [] rfl rfl (by omega) rfl (Nat.le_of_ble_eq_true rfl) (Nat.le_of_ble_eq_true rfl) (ev_areDays) ?_
          refine tv_b (pc' := (if (sp_areDays (nI F) (nI T)) = 0 then 8 else 12)) (ls' := [some (.ref 0), some (.int (nI F)), some (.int (nI T)), some (.int z)]) (st' := []) (h' := (n, sl, wKK kk, I, L, wQQ q)) 1 rfl ?_
          refine tv_f (h) ?_
          refine tv_b (pc' := 17) (ls' := [some (.ref 0), some (.int (nI F)), some (.int (nI T)), some (.int z)]) (st' := [.int (nI T), .ref 13]) (h' := (n, sl, wKK kk, I, L, wQQ q)) 3 rfl ?_
          refine tv_cvE [.int (nI T)] [] rfl rfl (by omega) rfl (Nat.le_of_ble_eq_true rfl) (Nat.le_of_ble_eq_true rfl) (Or.inr (Or.inr rfl)) (er 1) ?_
          refine tv_b (pc' := 26) (ls' := [some (.ref 0), some (.int (nI F)), some (.int (nI T)), some (.int z)]) (st' := [.int (nI T), .int (nI F), .ref 64]) (h' := (n, sl, wKK kk, J0, K0, wQQ q)) 4 rfl ?_
          refine tv_cv [.int (nI F), .int (nI T)] [] rfl rfl (by omega) rfl (Nat.le_of_ble_eq_true rfl) (Nat.le_of_ble_eq_true rfl) (Or.inr (Or.inr rfl)) (hga) ?_
          rintro rv9 h9 ⟨rfl, r68, r69, r70, rfl, hgE⟩
          have ebd : ∀ d', am_Ev d' 45 0 (am_ent 2 [.ref 64, .int z]) [] (n, sl, wKK kk, (gaI J0 (nI (cnw I F T 0 C)) r68), (gaL K0 (jL (mxw I F T 0 C)) (jL (sxw J0 F T C)) (jL (mnw I F T 0 C)) (jL (snw J0 F T C)) r69 r70), wQQ q) (some (.long (jL (mnw I F T 0 C))), (n, sl, wKK kk, (gaI J0 (nI (cnw I F T 0 C)) r68), (gaL K0 (jL (mxw I F T 0 C)) (jL (sxw J0 F T C)) (jL (mnw I F T 0 C)) (jL (snw J0 F T C)) r69 r70), wQQ q)) := fun d' => by
            have e := ev_g_bound (d := d') (n := n) (sl := sl) (k := kk) (q := q) (I := (gaI J0 (nI (cnw I F T 0 C)) r68)) (L := (gaL K0 (jL (mxw I F T 0 C)) (jL (sxw J0 F T C)) (jL (mnw I F T 0 C)) (jL (snw J0 F T C)) r69 r70)) (z := z)
            have hv : sp_g_bound z (gaI J0 (nI (cnw I F T 0 C)) r68) (gaL K0 (jL (mxw I F T 0 C)) (jL (sxw J0 F T C)) (jL (mnw I F T 0 C)) (jL (snw J0 F T C)) r69 r70) = (jL (mnw I F T 0 C)) := by
              show (if (nI (cnw I F T 0 C)) = 0 then (-2000000001 : Int64) else (if lg_cmp (jL (mxw I F T 0 C)) (jL (mnw I F T 0 C)) ≤ 0 then (if z = 0 then jL (mxw I F T 0 C) else jL (mnw I F T 0 C)) else (-2000000002))) = (jL (mnw I F T 0 C))
              rw [if_neg (show ¬ nI (cnw I F T 0 C) = 0 from fun y => h0 ((nI_eqI (b := 0) (by omega) (by omega)).mp y)), if_pos ((le_i w1 w2).mpr (by omega)), if_neg hz0]
            rw [hv] at e
            exact e
          refine tv_b (pc' := 34) (ls' := [some (.ref 0), some (.int (nI F)), some (.int (nI T)), some (.int z)]) (st' := [.int z, .ref 64]) (h' := (n, sl, wKK kk, (gaI J0 (nI (cnw I F T 0 C)) r68), (gaL K0 (jL (mxw I F T 0 C)) (jL (sxw J0 F T C)) (jL (mnw I F T 0 C)) (jL (snw J0 F T C)) r69 r70), wQQ q)) 3 rfl ?_
          refine tv_cvE [.int z] [] rfl rfl (by omega) rfl (Nat.le_of_ble_eq_true rfl) (Nat.le_of_ble_eq_true rfl) (Or.inr (Or.inr rfl)) (ebd _) ?_
          refine tv_rl rfl ⟨.long (jL (mnw I F T 0 C)), Or.inr ⟨_, rfl⟩, rfl, ?_⟩
          obtain ⟨J3, K3, ep, g3, hP, ht3, hu3, hE3, hfo3⟩ := foS_m (sl := sl) (F := F) (T := T) (hfo (nI (cnw I F T 0 C)) r68 (jL (mxw I F T 0 C)) (jL (sxw J0 F T C)) (jL (mnw I F T 0 C)) (jL (snw J0 F T C)) r69 r70) ht hu hF hT4
          have hnJ : nNow J3 = nNow I := (kn_c hE3).2.1
          have hc3 : ∀ b, mxw J3 F T b (nNow J3) = mxw I F T b C ∧ mnw J3 F T b (nNow J3) = mnw I F T b C ∧ cnw J3 F T b (nNow J3) = cnw I F T b C := fun b => by
            obtain ⟨a1, a2, a3⟩ := w_c (F := F) (T := T) (b := b) hE3 (nNow J3)
            obtain ⟨b1, b2, b3⟩ := w_now (X := I) (F := F) (T := T) (b := b) hnn
            rw [a1, a2, a3, b1, b2, b3, hnJ]
            exact ⟨rfl, rfl, rfl⟩
          refine tv_up (d := 8) (by decide) ?_
          show am_T _ _ 0 [some (.ref 80), some (.int (nI F)), some (.int (nI T)), some (.int z)] _ _ _
          refine tv_b (pc' := 2) (ls' := [some (.ref 80), some (.int (nI F)), some (.int (nI T)), some (.int z)]) (st' := [.int (nI T), .int (nI F)]) (h' := (n, sl, wKK kk, (gaI J0 (nI (cnw I F T 0 C)) r68), (gaL K0 (jL (mxw I F T 0 C)) (jL (sxw J0 F T C)) (jL (mnw I F T 0 C)) (jL (snw J0 F T C)) r69 r70), wQQ q)) 2 rfl ?_
          refine tv_csE [.int (nI F), .int (nI T)] [] rfl rfl (by omega) rfl (Nat.le_of_ble_eq_true rfl) (Nat.le_of_ble_eq_true rfl) (ev_m_areDays) ?_
          refine tv_b (pc' := (if (sp_m_areDays (nI F) (nI T)) = 0 then 8 else 12)) (ls' := [some (.ref 80), some (.int (nI F)), some (.int (nI T)), some (.int z)]) (st' := []) (h' := (n, sl, wKK kk, (gaI J0 (nI (cnw I F T 0 C)) r68), (gaL K0 (jL (mxw I F T 0 C)) (jL (sxw J0 F T C)) (jL (mnw I F T 0 C)) (jL (snw J0 F T C)) r69 r70), wQQ q)) 1 rfl ?_
          refine tv_f (h') ?_
          refine tv_b (pc' := 13) (ls' := [some (.ref 80), some (.int (nI F)), some (.int (nI T)), some (.int z)]) (st' := [.ref 80]) (h' := (n, sl, wKK kk, (gaI J0 (nI (cnw I F T 0 C)) r68), (gaL K0 (jL (mxw I F T 0 C)) (jL (sxw J0 F T C)) (jL (mnw I F T 0 C)) (jL (snw J0 F T C)) r69 r70), wQQ q)) 1 rfl ?_
          refine tv_cvE [] [] rfl rfl (by omega) rfl (Nat.le_of_ble_eq_true rfl) (Nat.le_of_ble_eq_true rfl) (Or.inr (Or.inr rfl)) (ep 3) ?_
          refine tv_hI fi_sI ?_
          refine tv_hL fi_sL ?_
          refine tv_b (pc' := 20) (ls' := [some (.ref 80), some (.int (nI F)), some (.int (nI T)), some (.int z)]) (st' := [.int 0, .int (nI T), .int (nI F), .ref 80]) (h' := (n, sl, wKK kk, (fiI J3 (J3 80 65)), (fiL K3 (K3 80 63) (K3 80 64)), wQQ q)) 4 rfl ?_
          refine tv_cv [.int (nI F), .int (nI T), .int 0] [] rfl rfl (by omega) rfl (Nat.le_of_ble_eq_true rfl) (Nat.le_of_ble_eq_true rfl) (Or.inr (Or.inr rfl)) (tv_up (d := 6) (by decide) (tv_fits (b := 0) g3 ht3 hu3 hF hT4 hP (by omega))) ?_
          rintro rv9 h9 ⟨rfl, lo, up, rfl, hlu⟩
          obtain ⟨e1, e2, e3⟩ := hc3 0
          have hcb : cnw J3 F T 0 (nNow J3) ≤ 200 := by rw [e3]; omega
          obtain ⟨rfl, rfl⟩ := hlu (by rw [e3]; exact h0)
          rw [e1, e2]
          refine tv_b (pc' := (if (nI (cnw J3 F T 0 (nNow J3))) = 0 then 30 else 34)) (ls' := [some (.ref 80), some (.int (nI F)), some (.int (nI T)), some (.int z)]) (st' := []) (h' := (n, sl, wKK kk, (fiI J3 (nI (cnw J3 F T 0 (nNow J3)))), (fiL K3 (jL (mxw I F T 0 C)) (jL (mnw I F T 0 C))), wQQ q)) 3 rfl ?_
          refine tv_f (fun hq => absurd ((nI_eq (a := (cnw J3 F T 0 (nNow J3))) (b := 0) (by omega) (by omega)).mp hq) (by rw [e3]; exact h0)) ?_
          refine tv_b (pc' := (if (lg_cmp (jL (mxw I F T 0 C)) (jL (mnw I F T 0 C))) ≤ 0 then 52 else 46)) (ls' := [some (.ref 80), some (.int (nI F)), some (.int (nI T)), some (.int z)]) (st' := []) (h' := (n, sl, wKK kk, (fiI J3 (nI (cnw J3 F T 0 (nNow J3)))), (fiL K3 (jL (mxw I F T 0 C)) (jL (mnw I F T 0 C))), wQQ q)) 6 rfl ?_
          refine tv_t ((le_i w1 w2).mpr (by omega)) ?_
          refine tv_b (pc' := (if z = 0 then 63 else 56)) (ls' := [some (.ref 80), some (.int (nI F)), some (.int (nI T)), some (.int z)]) (st' := []) (h' := (n, sl, wKK kk, (fiI J3 (nI (cnw J3 F T 0 (nNow J3)))), (fiL K3 (jL (mxw I F T 0 C)) (jL (mnw I F T 0 C))), wQQ q)) 2 rfl ?_
          refine tv_f (hz0) ?_
          refine tv_b (pc' := 67) (ls' := [some (.ref 80), some (.int (nI F)), some (.int (nI T)), some (.int z)]) (st' := [.long (jL (mnw I F T 0 C))]) (h' := (n, sl, wKK kk, (fiI J3 (nI (cnw J3 F T 0 (nNow J3)))), (fiL K3 (jL (mxw I F T 0 C)) (jL (mnw I F T 0 C))), wQQ q)) 3 rfl ?_
          exact tv_rl rfl ⟨rfl, foS_h hk gB hC hr ht hu hs hc hj hn hsl (hfo3 _ _ _)⟩
      · skip
        refine tv_up (d := 7) (by decide) ?_
        show am_T _ _ 0 [some (.ref 0), some (.int (nI F)), some (.int (nI T)), some (.int z)] _ _ _
        refine tv_b (pc' := 2) (ls' := [some (.ref 0), some (.int (nI F)), some (.int (nI T)), some (.int z)]) (st' := [.int (nI T), .int (nI F)]) (h' := (n, sl, wKK kk, I, L, wQQ q)) 2 rfl ?_
        refine tv_csE [.int (nI F), .int (nI T)] [] rfl rfl (by omega) rfl (Nat.le_of_ble_eq_true rfl) (Nat.le_of_ble_eq_true rfl) (ev_areDays) ?_
        refine tv_b (pc' := (if (sp_areDays (nI F) (nI T)) = 0 then 8 else 12)) (ls' := [some (.ref 0), some (.int (nI F)), some (.int (nI T)), some (.int z)]) (st' := []) (h' := (n, sl, wKK kk, I, L, wQQ q)) 1 rfl ?_
        refine tv_f (h) ?_
        refine tv_b (pc' := 17) (ls' := [some (.ref 0), some (.int (nI F)), some (.int (nI T)), some (.int z)]) (st' := [.int (nI T), .ref 13]) (h' := (n, sl, wKK kk, I, L, wQQ q)) 3 rfl ?_
        refine tv_cvE [.int (nI T)] [] rfl rfl (by omega) rfl (Nat.le_of_ble_eq_true rfl) (Nat.le_of_ble_eq_true rfl) (Or.inr (Or.inr rfl)) (er 1) ?_
        refine tv_b (pc' := 26) (ls' := [some (.ref 0), some (.int (nI F)), some (.int (nI T)), some (.int z)]) (st' := [.int (nI T), .int (nI F), .ref 64]) (h' := (n, sl, wKK kk, J0, K0, wQQ q)) 4 rfl ?_
        refine tv_cv [.int (nI F), .int (nI T)] [] rfl rfl (by omega) rfl (Nat.le_of_ble_eq_true rfl) (Nat.le_of_ble_eq_true rfl) (Or.inr (Or.inr rfl)) (hga) ?_
        rintro rv9 h9 ⟨rfl, r68, r69, r70, rfl, hgE⟩
        have ebd : ∀ d', am_Ev d' 45 0 (am_ent 2 [.ref 64, .int z]) [] (n, sl, wKK kk, (gaI J0 (nI (cnw I F T 0 C)) r68), (gaL K0 (jL (mxw I F T 0 C)) (jL (sxw J0 F T C)) (jL (mnw I F T 0 C)) (jL (snw J0 F T C)) r69 r70), wQQ q) (some (.long (-2000000002)), (n, sl, wKK kk, (gaI J0 (nI (cnw I F T 0 C)) r68), (gaL K0 (jL (mxw I F T 0 C)) (jL (sxw J0 F T C)) (jL (mnw I F T 0 C)) (jL (snw J0 F T C)) r69 r70), wQQ q)) := fun d' => by
          have e := ev_g_bound (d := d') (n := n) (sl := sl) (k := kk) (q := q) (I := (gaI J0 (nI (cnw I F T 0 C)) r68)) (L := (gaL K0 (jL (mxw I F T 0 C)) (jL (sxw J0 F T C)) (jL (mnw I F T 0 C)) (jL (snw J0 F T C)) r69 r70)) (z := z)
          have hv : sp_g_bound z (gaI J0 (nI (cnw I F T 0 C)) r68) (gaL K0 (jL (mxw I F T 0 C)) (jL (sxw J0 F T C)) (jL (mnw I F T 0 C)) (jL (snw J0 F T C)) r69 r70) = (-2000000002) := by
            show (if (nI (cnw I F T 0 C)) = 0 then (-2000000001 : Int64) else (if lg_cmp (jL (mxw I F T 0 C)) (jL (mnw I F T 0 C)) ≤ 0 then (if z = 0 then jL (mxw I F T 0 C) else jL (mnw I F T 0 C)) else (-2000000002))) = (-2000000002)
            rw [if_neg (show ¬ nI (cnw I F T 0 C) = 0 from fun y => h0 ((nI_eqI (b := 0) (by omega) (by omega)).mp y)), if_neg (fun y => absurd ((le_i w1 w2).mp y) (by omega))]
          rw [hv] at e
          exact e
        refine tv_b (pc' := 34) (ls' := [some (.ref 0), some (.int (nI F)), some (.int (nI T)), some (.int z)]) (st' := [.int z, .ref 64]) (h' := (n, sl, wKK kk, (gaI J0 (nI (cnw I F T 0 C)) r68), (gaL K0 (jL (mxw I F T 0 C)) (jL (sxw J0 F T C)) (jL (mnw I F T 0 C)) (jL (snw J0 F T C)) r69 r70), wQQ q)) 3 rfl ?_
        refine tv_cvE [.int z] [] rfl rfl (by omega) rfl (Nat.le_of_ble_eq_true rfl) (Nat.le_of_ble_eq_true rfl) (Or.inr (Or.inr rfl)) (ebd _) ?_
        refine tv_rl rfl ⟨.long (-2000000002), Or.inr ⟨_, rfl⟩, rfl, ?_⟩
        obtain ⟨J3, K3, ep, g3, hP, ht3, hu3, hE3, hfo3⟩ := foS_m (sl := sl) (F := F) (T := T) (hfo (nI (cnw I F T 0 C)) r68 (jL (mxw I F T 0 C)) (jL (sxw J0 F T C)) (jL (mnw I F T 0 C)) (jL (snw J0 F T C)) r69 r70) ht hu hF hT4
        have hnJ : nNow J3 = nNow I := (kn_c hE3).2.1
        have hc3 : ∀ b, mxw J3 F T b (nNow J3) = mxw I F T b C ∧ mnw J3 F T b (nNow J3) = mnw I F T b C ∧ cnw J3 F T b (nNow J3) = cnw I F T b C := fun b => by
          obtain ⟨a1, a2, a3⟩ := w_c (F := F) (T := T) (b := b) hE3 (nNow J3)
          obtain ⟨b1, b2, b3⟩ := w_now (X := I) (F := F) (T := T) (b := b) hnn
          rw [a1, a2, a3, b1, b2, b3, hnJ]
          exact ⟨rfl, rfl, rfl⟩
        refine tv_up (d := 8) (by decide) ?_
        show am_T _ _ 0 [some (.ref 80), some (.int (nI F)), some (.int (nI T)), some (.int z)] _ _ _
        refine tv_b (pc' := 2) (ls' := [some (.ref 80), some (.int (nI F)), some (.int (nI T)), some (.int z)]) (st' := [.int (nI T), .int (nI F)]) (h' := (n, sl, wKK kk, (gaI J0 (nI (cnw I F T 0 C)) r68), (gaL K0 (jL (mxw I F T 0 C)) (jL (sxw J0 F T C)) (jL (mnw I F T 0 C)) (jL (snw J0 F T C)) r69 r70), wQQ q)) 2 rfl ?_
        refine tv_csE [.int (nI F), .int (nI T)] [] rfl rfl (by omega) rfl (Nat.le_of_ble_eq_true rfl) (Nat.le_of_ble_eq_true rfl) (ev_m_areDays) ?_
        refine tv_b (pc' := (if (sp_m_areDays (nI F) (nI T)) = 0 then 8 else 12)) (ls' := [some (.ref 80), some (.int (nI F)), some (.int (nI T)), some (.int z)]) (st' := []) (h' := (n, sl, wKK kk, (gaI J0 (nI (cnw I F T 0 C)) r68), (gaL K0 (jL (mxw I F T 0 C)) (jL (sxw J0 F T C)) (jL (mnw I F T 0 C)) (jL (snw J0 F T C)) r69 r70), wQQ q)) 1 rfl ?_
        refine tv_f (h') ?_
        refine tv_b (pc' := 13) (ls' := [some (.ref 80), some (.int (nI F)), some (.int (nI T)), some (.int z)]) (st' := [.ref 80]) (h' := (n, sl, wKK kk, (gaI J0 (nI (cnw I F T 0 C)) r68), (gaL K0 (jL (mxw I F T 0 C)) (jL (sxw J0 F T C)) (jL (mnw I F T 0 C)) (jL (snw J0 F T C)) r69 r70), wQQ q)) 1 rfl ?_
        refine tv_cvE [] [] rfl rfl (by omega) rfl (Nat.le_of_ble_eq_true rfl) (Nat.le_of_ble_eq_true rfl) (Or.inr (Or.inr rfl)) (ep 3) ?_
        refine tv_hI fi_sI ?_
        refine tv_hL fi_sL ?_
        refine tv_b (pc' := 20) (ls' := [some (.ref 80), some (.int (nI F)), some (.int (nI T)), some (.int z)]) (st' := [.int 0, .int (nI T), .int (nI F), .ref 80]) (h' := (n, sl, wKK kk, (fiI J3 (J3 80 65)), (fiL K3 (K3 80 63) (K3 80 64)), wQQ q)) 4 rfl ?_
        refine tv_cv [.int (nI F), .int (nI T), .int 0] [] rfl rfl (by omega) rfl (Nat.le_of_ble_eq_true rfl) (Nat.le_of_ble_eq_true rfl) (Or.inr (Or.inr rfl)) (tv_up (d := 6) (by decide) (tv_fits (b := 0) g3 ht3 hu3 hF hT4 hP (by omega))) ?_
        rintro rv9 h9 ⟨rfl, lo, up, rfl, hlu⟩
        obtain ⟨e1, e2, e3⟩ := hc3 0
        have hcb : cnw J3 F T 0 (nNow J3) ≤ 200 := by rw [e3]; omega
        obtain ⟨rfl, rfl⟩ := hlu (by rw [e3]; exact h0)
        rw [e1, e2]
        refine tv_b (pc' := (if (nI (cnw J3 F T 0 (nNow J3))) = 0 then 30 else 34)) (ls' := [some (.ref 80), some (.int (nI F)), some (.int (nI T)), some (.int z)]) (st' := []) (h' := (n, sl, wKK kk, (fiI J3 (nI (cnw J3 F T 0 (nNow J3)))), (fiL K3 (jL (mxw I F T 0 C)) (jL (mnw I F T 0 C))), wQQ q)) 3 rfl ?_
        refine tv_f (fun hq => absurd ((nI_eq (a := (cnw J3 F T 0 (nNow J3))) (b := 0) (by omega) (by omega)).mp hq) (by rw [e3]; exact h0)) ?_
        refine tv_b (pc' := (if (lg_cmp (jL (mxw I F T 0 C)) (jL (mnw I F T 0 C))) ≤ 0 then 52 else 46)) (ls' := [some (.ref 80), some (.int (nI F)), some (.int (nI T)), some (.int z)]) (st' := []) (h' := (n, sl, wKK kk, (fiI J3 (nI (cnw J3 F T 0 (nNow J3)))), (fiL K3 (jL (mxw I F T 0 C)) (jL (mnw I F T 0 C))), wQQ q)) 6 rfl ?_
        refine tv_f (fun q => absurd ((le_i w1 w2).mp q) (by omega)) ?_
        refine tv_b (pc' := 67) (ls' := [some (.ref 80), some (.int (nI F)), some (.int (nI T)), some (.int z)]) (st' := [.long (-2000000002)]) (h' := (n, sl, wKK kk, (fiI J3 (nI (cnw J3 F T 0 (nNow J3)))), (fiL K3 (jL (mxw I F T 0 C)) (jL (mnw I F T 0 C))), wQQ q)) 2 rfl ?_
        exact tv_rl rfl ⟨rfl, foS_h hk gB hC hr ht hu hs hc hj hn hsl (hfo3 _ _ _)⟩
set_option maxHeartbeats 4000000 in
theorem tv_m_odL {n sl C : Nat} {kk : Nat → Nat × Nat} {q : Nat → Nat → Option Nat} {I : Nat → Nat → Int32} {L : Nat → Nat → Int64} {ah : Nat → Nat} {M : Nat → List (Nat × Nat × List Nat)} {F T : Nat} (g : gInv n kk q I L C ah M) (ht : tInv I) (hu : uInv I) (hF : F ≤ T) (hT4 : T < 400) (hP : mPl I L) (hgt : mnw I F T 0 (nNow I) < mxw I F T 0 (nNow I)) : ∀ m k : Nat, k + m = nNow I → ∀ (ct : Int32) (lo up : Int64), am_T 7 230 44 [some (.ref 80), some (.int (nI F)), some (.int (nI T)), some (.int (nI (k + 1)))] [] (n, sl, wKK kk, (fiI I ct), (fiL L lo up), wQQ q) (fun rv h' => rv = some (.int (odF I F T (nNow I) m k)) ∧ ∃ ct' lo' up', h' = (n, sl, wKK kk, (fiI I ct'), (fiL L lo' up'), wQQ q)) := by
  have gB := g.2.1
  have b4 : nC I = C := g.2.2.1.2.2.1.2.1
  have hC2 : C ≤ 200 := by rw [← b4]; exact gB.1.2
  have hnn : nNow I ≤ C := by rw [← b4]; exact (nNow_v gB).2
  have hbd := rd_b g hu hF hT4
  have en : ∀ (d' : Nat) (ct : Int32) (L' : Nat → Nat → Int64), am_Ev d' 198 0 (am_ent 1 [.ref 80]) [] (n, sl, wKK kk, fiI I ct, L', wQQ q) (some (.int (nI (nNow I))), (n, sl, wKK kk, fiI I ct, L', wQQ q)) := fun d' ct L' => by
    have e := ev_m_now (d := d') (n := n) (sl := sl) (k := kk) (q := q) (I := fiI I ct) (L := L')
    rw [(now_N (wfB_c fi_rE gB)).1, (kn_c fi_rE).2.1] at e
    exact e
  intro m
  induction m with
  | zero =>
    intro k hk ct lo up
    have hk2 : k = nNow I := by omega
    subst hk2
    show am_T _ _ 44 [some (.ref 80), some (.int (nI F)), some (.int (nI T)), some (.int (nI (nNow I + 1)))] _ _ _
    refine tv_b (pc' := 46) (ls' := [some (.ref 80), some (.int (nI F)), some (.int (nI T)), some (.int (nI (nNow I + 1)))]) (st' := [.ref 80, .int (nI (nNow I + 1))]) (h' := (n, sl, wKK kk, (fiI I ct), (fiL L lo up), wQQ q)) 2 rfl ?_
    refine tv_cvE [] [.int (nI (nNow I + 1))] rfl rfl (by omega) rfl (Nat.le_of_ble_eq_true rfl) (Nat.le_of_ble_eq_true rfl) (Or.inr (Or.inr rfl)) (en _ _ _) ?_
    refine tv_b (pc' := (if (nI (nNow I)) < (nI (nNow I + 1)) then 120 else 52)) (ls' := [some (.ref 80), some (.int (nI F)), some (.int (nI T)), some (.int (nI (nNow I + 1)))]) (st' := []) (h' := (n, sl, wKK kk, (fiI I ct), (fiL L lo up), wQQ q)) 1 rfl ?_
    refine tv_t ((nI_ltI (a := (nNow I)) (b := (nNow I + 1)) (by omega) (by omega)).mpr (by omega)) ?_
    refine tv_b (pc' := 121) (ls' := [some (.ref 80), some (.int (nI F)), some (.int (nI T)), some (.int (nI (nNow I + 1)))]) (st' := [.int (-1)]) (h' := (n, sl, wKK kk, (fiI I ct), (fiL L lo up), wQQ q)) 1 rfl ?_
    exact tv_ri rfl ⟨rfl, ct, lo, up, rfl⟩
  | succ m ih =>
    intro k hk ct lo up
    have hkC : k < C := by omega
    obtain ⟨_, w1, w2, w3⟩ := gB.2.2 (k + 1) (by omega) (by rw [b4]; omega)
    have hcl : (nI (k + 1)).toNatClampNeg = k + 1 := nI_clamp (by omega)
    have ekm : ∀ (d' : Nat) (ct : Int32) (L' : Nat → Nat → Int64), am_Ev (d' + 1) 199 0 (am_ent 2 [.ref 80, .int (nI (k + 1))]) [] (n, sl, wKK kk, fiI I ct, L', wQQ q) (some (.int (if kn I (k + 1) = true then 1 else 0)), (n, sl, wKK kk, fiI I ct, L', wQQ q)) := fun d' ct L' => by
      have e := ev_m_isKnown (d := d') (n := n) (sl := sl) (k := kk) (q := q) (I := fiI I ct) (L := L') (x := nI (k + 1)) (fun _ _ => by rw [hcl]; exact fun z => z.elim (nI_pos (by omega)) (by omega))
      rw [known_k (wfB_c fi_rE gB) (by omega) (by rw [(kn_c fi_rE).1, b4]; omega), (kn_c fi_rE).2.2] at e
      exact e
    have hst : odF I F T (nNow I) (m + 1) k = if rdB I F T (k + 1) = true ∧ mxw I F T (k + 1) (nNow I) ≤ mnw I F T (k + 1) (nNow I) then nI (k + 1) else odF I F T (nNow I) m (k + 1) := rfl
    rw [hst]
    by_cases hkr : kn I (k + 1) = true
    · rw [if_pos hkr] at ekm
      show am_T _ _ 44 [some (.ref 80), some (.int (nI F)), some (.int (nI T)), some (.int (nI (k + 1)))] _ _ _
      refine tv_b (pc' := 46) (ls' := [some (.ref 80), some (.int (nI F)), some (.int (nI T)), some (.int (nI (k + 1)))]) (st' := [.ref 80, .int (nI (k + 1))]) (h' := (n, sl, wKK kk, (fiI I ct), (fiL L lo up), wQQ q)) 2 rfl ?_
      refine tv_cvE [] [.int (nI (k + 1))] rfl rfl (by omega) rfl (Nat.le_of_ble_eq_true rfl) (Nat.le_of_ble_eq_true rfl) (Or.inr (Or.inr rfl)) (en _ _ _) ?_
      refine tv_b (pc' := (if (nI (nNow I)) < (nI (k + 1)) then 120 else 52)) (ls' := [some (.ref 80), some (.int (nI F)), some (.int (nI T)), some (.int (nI (k + 1)))]) (st' := []) (h' := (n, sl, wKK kk, (fiI I ct), (fiL L lo up), wQQ q)) 1 rfl ?_
      refine tv_f (fun hq => absurd ((nI_ltI (a := (nNow I)) (b := (k + 1)) (by omega) (by omega)).mp hq) (by omega)) ?_
      refine tv_b (pc' := 54) (ls' := [some (.ref 80), some (.int (nI F)), some (.int (nI T)), some (.int (nI (k + 1)))]) (st' := [.int (nI (k + 1)), .ref 80]) (h' := (n, sl, wKK kk, (fiI I ct), (fiL L lo up), wQQ q)) 2 rfl ?_
      refine tv_cvE [.int (nI (k + 1))] [] rfl rfl (by omega) rfl (Nat.le_of_ble_eq_true rfl) (Nat.le_of_ble_eq_true rfl) (Or.inr (Or.inr rfl)) (ekm _ _ _) ?_
      refine tv_b (pc' := 65) (ls' := [some (.ref 80), some (.int (nI F)), some (.int (nI T)), some (.int (nI (k + 1)))]) (st' := [.int (nI (k + 1)), .ref 107]) (h' := (n, sl, wKK kk, (fiI I ct), (fiL L lo up), wQQ q)) 4 rfl ?_
      refine tv_ialN (k := (k + 1)) rfl (rfl) (⟨by omega, by omega⟩) ?_
      refine tv_b (pc' := (if (I 107 (k + 1)) = 3 then 70 else 114)) (ls' := [some (.ref 80), some (.int (nI F)), some (.int (nI T)), some (.int (nI (k + 1)))]) (st' := []) (h' := (n, sl, wKK kk, (fiI I ct), (fiL L lo up), wQQ q)) 2 rfl ?_
      refine tv_if (fun c67 => ?_) (fun c67 => ?_)
      · refine tv_b (pc' := 75) (ls' := [some (.ref 80), some (.int (nI F)), some (.int (nI T)), some (.int (nI (k + 1)))]) (st' := [.int (nI (k + 1)), .ref 108]) (h' := (n, sl, wKK kk, (fiI I ct), (fiL L lo up), wQQ q)) 3 rfl ?_
        refine tv_ialN (k := (k + 1)) rfl (rfl) (⟨by omega, by omega⟩) ?_
        refine tv_top (w1) ?_
        refine tv_b (pc' := (if (nI (dyN I (k + 1))) < (nI F) then 114 else 80)) (ls' := [some (.ref 80), some (.int (nI F)), some (.int (nI T)), some (.int (nI (k + 1)))]) (st' := []) (h' := (n, sl, wKK kk, (fiI I ct), (fiL L lo up), wQQ q)) 2 rfl ?_
        refine tv_ifq (nI_ltI (a := (dyN I (k + 1))) (b := F) (by omega) (by omega)) (fun c77 => ?_) (fun c77 => ?_)
        · refine tv_iincN (k := (k + 1)) (ls' := [some (.ref 80), some (.int (nI F)), some (.int (nI T)), some (.int (nI ((k + 1) + 1)))]) rfl rfl rfl ?_
          refine tv_b (pc' := 44) (ls' := [some (.ref 80), some (.int (nI F)), some (.int (nI T)), some (.int (nI ((k + 1) + 1)))]) (st' := []) (h' := (n, sl, wKK kk, (fiI I ct), (fiL L lo up), wQQ q)) 1 rfl ?_
          rw [if_neg (fun z => absurd (of_decide_eq_true z.1 : kn I (k + 1) = true ∧ I 107 (k + 1) = 3 ∧ F ≤ dyN I (k + 1) ∧ dyN I (k + 1) ≤ T).2.2.1 (by omega))]
          exact ih (k + 1) (by omega) _ _ _
        · refine tv_b (pc' := 85) (ls' := [some (.ref 80), some (.int (nI F)), some (.int (nI T)), some (.int (nI (k + 1)))]) (st' := [.int (nI (k + 1)), .ref 108]) (h' := (n, sl, wKK kk, (fiI I ct), (fiL L lo up), wQQ q)) 3 rfl ?_
          refine tv_ialN (k := (k + 1)) rfl (rfl) (⟨by omega, by omega⟩) ?_
          refine tv_top (w1) ?_
          refine tv_b (pc' := (if (nI (dyN I (k + 1))) ≤ (nI T) then 93 else 90)) (ls' := [some (.ref 80), some (.int (nI F)), some (.int (nI T)), some (.int (nI (k + 1)))]) (st' := []) (h' := (n, sl, wKK kk, (fiI I ct), (fiL L lo up), wQQ q)) 2 rfl ?_
          refine tv_ifq (nI_leI (a := (dyN I (k + 1))) (b := T) (by omega) (by omega)) (fun c87 => ?_) (fun c87 => ?_)
          · have hrd : rdB I F T (k + 1) = true := decide_eq_true ⟨hkr, c67, by omega, by omega⟩
            have hcn0 : cnw I F T (k + 1) (nNow I) ≠ 0 := fun y => by
              obtain ⟨a1, a2⟩ := w_0 (nNow I) y
              obtain ⟨a3, a4⟩ := w_m (X := I) (F := F) (T := T) (nNow I) (k + 1) (by omega) (by omega) hrd
              obtain ⟨⟨lb1, lb2⟩, ⟨lb3, lb4⟩⟩ := hbd (k + 1) hrd
              have hns : loZ I F (k + 1) ≤ hiZ I F (k + 1) := by
                obtain ⟨_, _, v3, _⟩ := right_v (L := L) g ht hu hkC c67
                have := (hu _ v3).2.2.2
                unfold loZ hiZ
                omega
              omega
            obtain ⟨x1, x2, _, _⟩ := w_b (X := I) (F := F) (T := T) (b := k + 1) hbd (nNow I)
            refine tv_up (d := 7) (Nat.le_refl _) ?_
            refine tv_b (pc' := 97) (ls' := [some (.ref 80), some (.int (nI F)), some (.int (nI T)), some (.int (nI (k + 1)))]) (st' := [.int (nI (k + 1)), .int (nI T), .int (nI F), .ref 80]) (h' := (n, sl, wKK kk, (fiI I ct), (fiL L lo up), wQQ q)) 4 rfl ?_
            refine tv_cv [.int (nI F), .int (nI T), .int (nI (k + 1))] [] rfl rfl (by omega) rfl (Nat.le_of_ble_eq_true rfl) (Nat.le_of_ble_eq_true rfl) (Or.inr (Or.inr rfl)) (tv_fits (b := k + 1) g ht hu hF hT4 hP (by omega)) ?_
            rintro rv9 h9 ⟨rfl, lo2, up2, rfl, hlu⟩
            obtain ⟨rfl, rfl⟩ := hlu hcn0
            by_cases hz : mxw I F T (k + 1) (nNow I) ≤ mnw I F T (k + 1) (nNow I)
            · rw [if_pos ⟨hrd, hz⟩]
              refine tv_b (pc' := (if 0 < (lg_cmp (jL (mxw I F T (k + 1) (nNow I))) (jL (mnw I F T (k + 1) (nNow I)))) then 114 else 112)) (ls' := [some (.ref 80), some (.int (nI F)), some (.int (nI T)), some (.int (nI (k + 1)))]) (st' := []) (h' := (n, sl, wKK kk, (fiI I (nI (cnw I F T (k + 1) (nNow I)))), (fiL L (jL (mxw I F T (k + 1) (nNow I))) (jL (mnw I F T (k + 1) (nNow I)))), wQQ q)) 6 rfl ?_
              refine tv_f (fun y => absurd ((gt_i x1 x2).mp y) (by omega)) ?_
              refine tv_b (pc' := 113) (ls' := [some (.ref 80), some (.int (nI F)), some (.int (nI T)), some (.int (nI (k + 1)))]) (st' := [.int (nI (k + 1))]) (h' := (n, sl, wKK kk, (fiI I (nI (cnw I F T (k + 1) (nNow I)))), (fiL L (jL (mxw I F T (k + 1) (nNow I))) (jL (mnw I F T (k + 1) (nNow I)))), wQQ q)) 1 rfl ?_
              exact tv_ri rfl ⟨rfl, _, _, _, rfl⟩
            · rw [if_neg (fun y => hz y.2)]
              refine tv_b (pc' := (if 0 < (lg_cmp (jL (mxw I F T (k + 1) (nNow I))) (jL (mnw I F T (k + 1) (nNow I)))) then 114 else 112)) (ls' := [some (.ref 80), some (.int (nI F)), some (.int (nI T)), some (.int (nI (k + 1)))]) (st' := []) (h' := (n, sl, wKK kk, (fiI I (nI (cnw I F T (k + 1) (nNow I)))), (fiL L (jL (mxw I F T (k + 1) (nNow I))) (jL (mnw I F T (k + 1) (nNow I)))), wQQ q)) 6 rfl ?_
              refine tv_t ((gt_i x1 x2).mpr (by omega)) ?_
              refine tv_iincN (k := (k + 1)) (ls' := [some (.ref 80), some (.int (nI F)), some (.int (nI T)), some (.int (nI ((k + 1) + 1)))]) rfl rfl rfl ?_
              refine tv_b (pc' := 44) (ls' := [some (.ref 80), some (.int (nI F)), some (.int (nI T)), some (.int (nI ((k + 1) + 1)))]) (st' := []) (h' := (n, sl, wKK kk, (fiI I (nI (cnw I F T (k + 1) (nNow I)))), (fiL L (jL (mxw I F T (k + 1) (nNow I))) (jL (mnw I F T (k + 1) (nNow I)))), wQQ q)) 1 rfl ?_
              exact ih (k + 1) (by omega) _ _ _
          · refine tv_b (pc' := 114) (ls' := [some (.ref 80), some (.int (nI F)), some (.int (nI T)), some (.int (nI (k + 1)))]) (st' := []) (h' := (n, sl, wKK kk, (fiI I ct), (fiL L lo up), wQQ q)) 1 rfl ?_
            refine tv_iincN (k := (k + 1)) (ls' := [some (.ref 80), some (.int (nI F)), some (.int (nI T)), some (.int (nI ((k + 1) + 1)))]) rfl rfl rfl ?_
            refine tv_b (pc' := 44) (ls' := [some (.ref 80), some (.int (nI F)), some (.int (nI T)), some (.int (nI ((k + 1) + 1)))]) (st' := []) (h' := (n, sl, wKK kk, (fiI I ct), (fiL L lo up), wQQ q)) 1 rfl ?_
            rw [if_neg (fun z => absurd (of_decide_eq_true z.1 : kn I (k + 1) = true ∧ I 107 (k + 1) = 3 ∧ F ≤ dyN I (k + 1) ∧ dyN I (k + 1) ≤ T).2.2.2 (by omega))]
            exact ih (k + 1) (by omega) _ _ _
      · refine tv_iincN (k := (k + 1)) (ls' := [some (.ref 80), some (.int (nI F)), some (.int (nI T)), some (.int (nI ((k + 1) + 1)))]) rfl rfl rfl ?_
        refine tv_b (pc' := 44) (ls' := [some (.ref 80), some (.int (nI F)), some (.int (nI T)), some (.int (nI ((k + 1) + 1)))]) (st' := []) (h' := (n, sl, wKK kk, (fiI I ct), (fiL L lo up), wQQ q)) 1 rfl ?_
        rw [if_neg (fun z => c67 (of_decide_eq_true z.1 : kn I (k + 1) = true ∧ I 107 (k + 1) = 3 ∧ F ≤ dyN I (k + 1) ∧ dyN I (k + 1) ≤ T).2.1)]
        exact ih (k + 1) (by omega) _ _ _
    · rw [if_neg hkr] at ekm
      show am_T _ _ 44 [some (.ref 80), some (.int (nI F)), some (.int (nI T)), some (.int (nI (k + 1)))] _ _ _
      refine tv_b (pc' := 46) (ls' := [some (.ref 80), some (.int (nI F)), some (.int (nI T)), some (.int (nI (k + 1)))]) (st' := [.ref 80, .int (nI (k + 1))]) (h' := (n, sl, wKK kk, (fiI I ct), (fiL L lo up), wQQ q)) 2 rfl ?_
      refine tv_cvE [] [.int (nI (k + 1))] rfl rfl (by omega) rfl (Nat.le_of_ble_eq_true rfl) (Nat.le_of_ble_eq_true rfl) (Or.inr (Or.inr rfl)) (en _ _ _) ?_
      refine tv_b (pc' := (if (nI (nNow I)) < (nI (k + 1)) then 120 else 52)) (ls' := [some (.ref 80), some (.int (nI F)), some (.int (nI T)), some (.int (nI (k + 1)))]) (st' := []) (h' := (n, sl, wKK kk, (fiI I ct), (fiL L lo up), wQQ q)) 1 rfl ?_
      refine tv_f (fun hq => absurd ((nI_ltI (a := (nNow I)) (b := (k + 1)) (by omega) (by omega)).mp hq) (by omega)) ?_
      refine tv_b (pc' := 54) (ls' := [some (.ref 80), some (.int (nI F)), some (.int (nI T)), some (.int (nI (k + 1)))]) (st' := [.int (nI (k + 1)), .ref 80]) (h' := (n, sl, wKK kk, (fiI I ct), (fiL L lo up), wQQ q)) 2 rfl ?_
      refine tv_cvE [.int (nI (k + 1))] [] rfl rfl (by omega) rfl (Nat.le_of_ble_eq_true rfl) (Nat.le_of_ble_eq_true rfl) (Or.inr (Or.inr rfl)) (ekm _ _ _) ?_
      refine tv_b (pc' := 114) (ls' := [some (.ref 80), some (.int (nI F)), some (.int (nI T)), some (.int (nI (k + 1)))]) (st' := []) (h' := (n, sl, wKK kk, (fiI I ct), (fiL L lo up), wQQ q)) 1 rfl ?_
      refine tv_iincN (k := (k + 1)) (ls' := [some (.ref 80), some (.int (nI F)), some (.int (nI T)), some (.int (nI ((k + 1) + 1)))]) rfl rfl rfl ?_
      refine tv_b (pc' := 44) (ls' := [some (.ref 80), some (.int (nI F)), some (.int (nI T)), some (.int (nI ((k + 1) + 1)))]) (st' := []) (h' := (n, sl, wKK kk, (fiI I ct), (fiL L lo up), wQQ q)) 1 rfl ?_
      rw [if_neg (fun z => hkr (of_decide_eq_true z.1 : kn I (k + 1) = true ∧ I 107 (k + 1) = 3 ∧ F ≤ dyN I (k + 1) ∧ dyN I (k + 1) ≤ T).1)]
      exact ih (k + 1) (by omega) _ _ _
theorem jx_odd {x y : Int32} : jx 135 (am_ent 3 [.ref 0, .int x, .int y]) 230 (am_ent 4 [.ref 80, .int x, .int y]) := by
  rintro k h hk ⟨n, sl, kk, I, L, q, rfl, C, ah, M, tx, T0, g, hr, ht, hu, hs, hc, hj, hn, hsl⟩
  have same := h_same (q := q) hk g hr ht hu hs hc hj hn hsl
  have gB := g.2.1
  have hC : nC I = C := g.2.2.1.2.2.1.2.1
  have hC2 : C ≤ 200 := by rw [← hC]; exact gB.1.2
  have hnn : nNow I ≤ C := by rw [← hC]; exact (nNow_v gB).2
  by_cases h : sp_areDays x y = 0
  · exact jx_e (d1 := 2) (d2 := 3) (by decide) (by decide) (ev_x_oddO (d := 0) h) (ev_m_oddO (d := 0) (ar_daysm.mpr (ar_daysx.mp h))) same
  · have h' : ¬ sp_m_areDays x y = 0 := fun z => h (ar_daysx.mpr (ar_daysm.mp z))
    have rr := (nn_iff ar_daysx).mp h
    have ex := x_nI rr.1
    have ey := x_nI (x := y) (by omega)
    have hF : x.toInt.toNat ≤ y.toInt.toNat := by omega
    have hT4 : y.toInt.toNat < 400 := by omega
    generalize x.toInt.toNat = F at ex hF
    generalize y.toInt.toNat = T at ey hF hT4
    subst ex
    subst ey
    clear rr
    obtain ⟨J0, K0, er, hE0, hga, hbd, hfo⟩ := foS_c (sl := sl) g ht hu hF hT4
    have c0 := w_c (F := F) (T := T) (b := 0) hE0 C
    have hlen0 := (rdl_len (X := J0) (F := F) (T := T) C).1
    have wb0 := w_b (b := 0) hbd C
    have hcl0 := (rdl_len (X := J0) (F := F) (T := T) C).2
    rw [c0.1, c0.2.1] at wb0
    rw [hlen0, c0.2.2] at hcl0
    obtain ⟨w1, w2, _, _⟩ := wb0
    rw [hlen0, c0.1, c0.2.1, c0.2.2] at hga
    refine tv_up (d := 7) (by decide) ?_
    show am_T _ _ 0 [some (.ref 0), some (.int (nI F)), some (.int (nI T))] _ _ _
    refine tv_b (pc' := 2) (ls' := [some (.ref 0), some (.int (nI F)), some (.int (nI T))]) (st' := [.int (nI T), .int (nI F)]) (h' := (n, sl, wKK kk, I, L, wQQ q)) 2 rfl ?_
    refine tv_csE [.int (nI F), .int (nI T)] [] rfl rfl (by omega) rfl (Nat.le_of_ble_eq_true rfl) (Nat.le_of_ble_eq_true rfl) (ev_areDays) ?_
    refine tv_b (pc' := (if (sp_areDays (nI F) (nI T)) = 0 then 8 else 10)) (ls' := [some (.ref 0), some (.int (nI F)), some (.int (nI T))]) (st' := []) (h' := (n, sl, wKK kk, I, L, wQQ q)) 1 rfl ?_
    refine tv_f (h) ?_
    refine tv_b (pc' := 15) (ls' := [some (.ref 0), some (.int (nI F)), some (.int (nI T))]) (st' := [.int (nI T), .ref 13]) (h' := (n, sl, wKK kk, I, L, wQQ q)) 3 rfl ?_
    refine tv_cvE [.int (nI T)] [] rfl rfl (by omega) rfl (Nat.le_of_ble_eq_true rfl) (Nat.le_of_ble_eq_true rfl) (Or.inr (Or.inr rfl)) (er 1) ?_
    refine tv_b (pc' := 24) (ls' := [some (.ref 0), some (.int (nI F)), some (.int (nI T))]) (st' := [.int (nI T), .int (nI F), .ref 64]) (h' := (n, sl, wKK kk, J0, K0, wQQ q)) 4 rfl ?_
    refine tv_cv [.int (nI F), .int (nI T)] [] rfl rfl (by omega) rfl (Nat.le_of_ble_eq_true rfl) (Nat.le_of_ble_eq_true rfl) (Or.inr (Or.inr rfl)) (hga) ?_
    rintro rv9 h9 ⟨rfl, r68, r69, r70, rfl, hgE⟩
    have eodd := tv_oddOne (n := n) (sl := sl) (kk := kk) (q := q) (L := K0) hbd hC2 hgE
    rw [hlen0, c0.1, c0.2.1, c0.2.2, odF_c hE0] at eodd
    refine tv_b (pc' := 31) (ls' := [some (.ref 0), some (.int (nI F)), some (.int (nI T))]) (st' := [.ref 64]) (h' := (n, sl, wKK kk, (gaI J0 (nI (cnw I F T 0 C)) r68), (gaL K0 (jL (mxw I F T 0 C)) (jL (sxw J0 F T C)) (jL (mnw I F T 0 C)) (jL (snw J0 F T C)) r69 r70), wQQ q)) 2 rfl ?_
    refine tv_cv [] [] rfl rfl (by omega) rfl (Nat.le_of_ble_eq_true rfl) (Nat.le_of_ble_eq_true rfl) (Or.inr (Or.inr rfl)) (tv_up (d := 1) (by decide) eodd) ?_
    rintro rv9 h9 ⟨rfl, rfl⟩
    refine tv_ri rfl ⟨.int (if cnw I F T 0 C = 0 then -1 else if mxw I F T 0 C ≤ mnw I F T 0 C then -1 else odF I F T C C 0), Or.inl ⟨_, rfl⟩, rfl, ?_⟩
    obtain ⟨J3, K3, ep, g3, hP, ht3, hu3, hE3, hfo3⟩ := foS_m (sl := sl) (F := F) (T := T) (hfo (nI (cnw I F T 0 C)) r68 (jL (mxw I F T 0 C)) (jL (sxw J0 F T C)) (jL (mnw I F T 0 C)) (jL (snw J0 F T C)) r69 r70) ht hu hF hT4
    have hnJ : nNow J3 = nNow I := (kn_c hE3).2.1
    have hc3 : ∀ b, mxw J3 F T b (nNow J3) = mxw I F T b C ∧ mnw J3 F T b (nNow J3) = mnw I F T b C ∧ cnw J3 F T b (nNow J3) = cnw I F T b C := fun b => by
      obtain ⟨a1, a2, a3⟩ := w_c (F := F) (T := T) (b := b) hE3 (nNow J3)
      obtain ⟨b1, b2, b3⟩ := w_now (X := I) (F := F) (T := T) (b := b) hnn
      rw [a1, a2, a3, b1, b2, b3, hnJ]
      exact ⟨rfl, rfl, rfl⟩
    refine tv_up (d := 8) (by decide) ?_
    show am_T _ _ 0 [some (.ref 80), some (.int (nI F)), some (.int (nI T)), none] _ _ _
    refine tv_b (pc' := 2) (ls' := [some (.ref 80), some (.int (nI F)), some (.int (nI T)), none]) (st' := [.int (nI T), .int (nI F)]) (h' := (n, sl, wKK kk, (gaI J0 (nI (cnw I F T 0 C)) r68), (gaL K0 (jL (mxw I F T 0 C)) (jL (sxw J0 F T C)) (jL (mnw I F T 0 C)) (jL (snw J0 F T C)) r69 r70), wQQ q)) 2 rfl ?_
    refine tv_csE [.int (nI F), .int (nI T)] [] rfl rfl (by omega) rfl (Nat.le_of_ble_eq_true rfl) (Nat.le_of_ble_eq_true rfl) (ev_m_areDays) ?_
    refine tv_b (pc' := (if (sp_m_areDays (nI F) (nI T)) = 0 then 8 else 10)) (ls' := [some (.ref 80), some (.int (nI F)), some (.int (nI T)), none]) (st' := []) (h' := (n, sl, wKK kk, (gaI J0 (nI (cnw I F T 0 C)) r68), (gaL K0 (jL (mxw I F T 0 C)) (jL (sxw J0 F T C)) (jL (mnw I F T 0 C)) (jL (snw J0 F T C)) r69 r70), wQQ q)) 1 rfl ?_
    refine tv_f (h') ?_
    refine tv_b (pc' := 11) (ls' := [some (.ref 80), some (.int (nI F)), some (.int (nI T)), none]) (st' := [.ref 80]) (h' := (n, sl, wKK kk, (gaI J0 (nI (cnw I F T 0 C)) r68), (gaL K0 (jL (mxw I F T 0 C)) (jL (sxw J0 F T C)) (jL (mnw I F T 0 C)) (jL (snw J0 F T C)) r69 r70), wQQ q)) 1 rfl ?_
    refine tv_cvE [] [] rfl rfl (by omega) rfl (Nat.le_of_ble_eq_true rfl) (Nat.le_of_ble_eq_true rfl) (Or.inr (Or.inr rfl)) (ep 3) ?_
    refine tv_hI fi_sI ?_
    refine tv_hL fi_sL ?_
    refine tv_b (pc' := 18) (ls' := [some (.ref 80), some (.int (nI F)), some (.int (nI T)), none]) (st' := [.int 0, .int (nI T), .int (nI F), .ref 80]) (h' := (n, sl, wKK kk, (fiI J3 (J3 80 65)), (fiL K3 (K3 80 63) (K3 80 64)), wQQ q)) 4 rfl ?_
    refine tv_cv [.int (nI F), .int (nI T), .int 0] [] rfl rfl (by omega) rfl (Nat.le_of_ble_eq_true rfl) (Nat.le_of_ble_eq_true rfl) (Or.inr (Or.inr rfl)) (tv_up (d := 6) (by decide) (tv_fits (b := 0) g3 ht3 hu3 hF hT4 hP (by omega))) ?_
    rintro rv9 h9 ⟨rfl, lo, up, rfl, hlu⟩
    obtain ⟨e1, e2, e3⟩ := hc3 0
    have hcb : cnw J3 F T 0 (nNow J3) ≤ 200 := by rw [e3]; omega
    by_cases h0 : cnw I F T 0 C = 0
    · rw [if_pos h0]
      refine tv_b (pc' := (if (nI (cnw J3 F T 0 (nNow J3))) = 0 then 40 else 28)) (ls' := [some (.ref 80), some (.int (nI F)), some (.int (nI T)), none]) (st' := []) (h' := (n, sl, wKK kk, (fiI J3 (nI (cnw J3 F T 0 (nNow J3)))), (fiL K3 lo up), wQQ q)) 3 rfl ?_
      refine tv_t ((nI_eq (a := (cnw J3 F T 0 (nNow J3))) (b := 0) (by omega) (by omega)).mpr (by rw [e3]; exact h0)) ?_
      refine tv_b (pc' := 41) (ls' := [some (.ref 80), some (.int (nI F)), some (.int (nI T)), none]) (st' := [.int (-1)]) (h' := (n, sl, wKK kk, (fiI J3 (nI (cnw J3 F T 0 (nNow J3)))), (fiL K3 lo up), wQQ q)) 1 rfl ?_
      exact tv_ri rfl ⟨rfl, foS_h hk gB hC hr ht hu hs hc hj hn hsl (hfo3 _ _ _)⟩
    · rw [if_neg h0]
      obtain ⟨rfl, rfl⟩ := hlu (by rw [e3]; exact h0)
      rw [e1, e2]
      by_cases hz : mxw I F T 0 C ≤ mnw I F T 0 C
      · rw [if_pos hz]
        refine tv_b (pc' := (if (nI (cnw J3 F T 0 (nNow J3))) = 0 then 40 else 28)) (ls' := [some (.ref 80), some (.int (nI F)), some (.int (nI T)), none]) (st' := []) (h' := (n, sl, wKK kk, (fiI J3 (nI (cnw J3 F T 0 (nNow J3)))), (fiL K3 (jL (mxw I F T 0 C)) (jL (mnw I F T 0 C))), wQQ q)) 3 rfl ?_
        refine tv_f (fun hq => absurd ((nI_eq (a := (cnw J3 F T 0 (nNow J3))) (b := 0) (by omega) (by omega)).mp hq) (by rw [e3]; exact h0)) ?_
        refine tv_b (pc' := (if 0 < (lg_cmp (jL (mxw I F T 0 C)) (jL (mnw I F T 0 C))) then 42 else 40)) (ls' := [some (.ref 80), some (.int (nI F)), some (.int (nI T)), none]) (st' := []) (h' := (n, sl, wKK kk, (fiI J3 (nI (cnw J3 F T 0 (nNow J3)))), (fiL K3 (jL (mxw I F T 0 C)) (jL (mnw I F T 0 C))), wQQ q)) 6 rfl ?_
        refine tv_f (fun q => absurd ((gt_i w1 w2).mp q) (by omega)) ?_
        refine tv_b (pc' := 41) (ls' := [some (.ref 80), some (.int (nI F)), some (.int (nI T)), none]) (st' := [.int (-1)]) (h' := (n, sl, wKK kk, (fiI J3 (nI (cnw J3 F T 0 (nNow J3)))), (fiL K3 (jL (mxw I F T 0 C)) (jL (mnw I F T 0 C))), wQQ q)) 1 rfl ?_
        exact tv_ri rfl ⟨rfl, foS_h hk gB hC hr ht hu hs hc hj hn hsl (hfo3 _ _ _)⟩
      · rw [if_neg hz]
        refine tv_b (pc' := (if (nI (cnw J3 F T 0 (nNow J3))) = 0 then 40 else 28)) (ls' := [some (.ref 80), some (.int (nI F)), some (.int (nI T)), none]) (st' := []) (h' := (n, sl, wKK kk, (fiI J3 (nI (cnw J3 F T 0 (nNow J3)))), (fiL K3 (jL (mxw I F T 0 C)) (jL (mnw I F T 0 C))), wQQ q)) 3 rfl ?_
        refine tv_f (fun hq => absurd ((nI_eq (a := (cnw J3 F T 0 (nNow J3))) (b := 0) (by omega) (by omega)).mp hq) (by rw [e3]; exact h0)) ?_
        refine tv_b (pc' := (if 0 < (lg_cmp (jL (mxw I F T 0 C)) (jL (mnw I F T 0 C))) then 42 else 40)) (ls' := [some (.ref 80), some (.int (nI F)), some (.int (nI T)), none]) (st' := []) (h' := (n, sl, wKK kk, (fiI J3 (nI (cnw J3 F T 0 (nNow J3)))), (fiL K3 (jL (mxw I F T 0 C)) (jL (mnw I F T 0 C))), wQQ q)) 6 rfl ?_
        refine tv_t ((gt_i w1 w2).mpr (by omega)) ?_
        refine tv_b (pc' := 44) (ls' := [some (.ref 80), some (.int (nI F)), some (.int (nI T)), some (.int 1)]) (st' := []) (h' := (n, sl, wKK kk, (fiI J3 (nI (cnw J3 F T 0 (nNow J3)))), (fiL K3 (jL (mxw I F T 0 C)) (jL (mnw I F T 0 C))), wQQ q)) 2 rfl ?_
        have hodd := tv_m_odL (sl := sl) g3 ht3 hu3 hF hT4 hP (by rw [e1, e2]; omega) (nNow J3) 0 (Nat.zero_add _) (nI (cnw J3 F T 0 (nNow J3))) (jL (mxw I F T 0 C)) (jL (mnw I F T 0 C))
        have hval : odF J3 F T (nNow J3) (nNow J3) 0 = odF I F T C C 0 := by
          rw [odF_c hE3, hnJ, odF_C hnn]
          have := odF_now (X := I) (F := F) (T := T) (C := nNow I) (e := C - nNow I) (nNow I) 0 (Nat.zero_add _)
          rw [show nNow I + (C - nNow I) = C by omega] at this
          exact this.symm
        rw [hval] at hodd
        refine tv_up (d := 7) (by decide) (tv_w hodd (fun rv h2 ho => ?_))
        obtain ⟨rfl, ct9, lo9, up9, rfl⟩ := ho
        exact ⟨rfl, foS_h hk gB hC hr ht hu hs hc hj hn hsl (hfo3 _ _ _)⟩
