/-! THE REFERENCE'S READER: a statement -/
def stI (I : Nat → Nat → Int32) (r82 r83 r84 r85 r86 : Nat → Int32) (j i : Nat) : Int32 := cond (Nat.beq j 82) (r82 i) (cond (Nat.beq j 83) (r83 i) (cond (Nat.beq j 84) (r84 i) (cond (Nat.beq j 85) (r85 i) (cond (Nat.beq j 86) (r86 i) (I j i)))))
theorem mrI_w_r82 {I : Nat → Nat → Int32} {tk : Nat → Int32} {fk fp be co dp op om od : Int32} {r87 r88 r89 r90 r91 r92 r93 : Nat → Int32} {r82 r83 r84 r85 r86 : Nat → Int32} {y : Int32} {k : Nat} : va_up (mrI (stI I r82 r83 r84 r85 r86) tk fk fp be co dp op om od r87 r88 r89 r90 r91 r92 r93) 82 (upd ((mrI (stI I r82 r83 r84 r85 r86) tk fk fp be co dp op om od r87 r88 r89 r90 r91 r92 r93) 82) k y) = mrI (stI I (upd r82 k y) r83 r84 r85 r86) tk fk fp be co dp op om od r87 r88 r89 r90 r91 r92 r93 := by
  funext j i
  unfold va_up
  by_cases hj : j = 82
  · subst hj; rfl
  · rw [if_neg hj]; unfold mrI stI; simp only [rdI_nb hj, cond_false]; rfl
theorem mrI_w_r83 {I : Nat → Nat → Int32} {tk : Nat → Int32} {fk fp be co dp op om od : Int32} {r87 r88 r89 r90 r91 r92 r93 : Nat → Int32} {r82 r83 r84 r85 r86 : Nat → Int32} {y : Int32} {k : Nat} : va_up (mrI (stI I r82 r83 r84 r85 r86) tk fk fp be co dp op om od r87 r88 r89 r90 r91 r92 r93) 83 (upd ((mrI (stI I r82 r83 r84 r85 r86) tk fk fp be co dp op om od r87 r88 r89 r90 r91 r92 r93) 83) k y) = mrI (stI I r82 (upd r83 k y) r84 r85 r86) tk fk fp be co dp op om od r87 r88 r89 r90 r91 r92 r93 := by
  funext j i
  unfold va_up
  by_cases hj : j = 83
  · subst hj; rfl
  · rw [if_neg hj]; unfold mrI stI; simp only [rdI_nb hj, cond_false]; rfl
theorem mrI_w_r84 {I : Nat → Nat → Int32} {tk : Nat → Int32} {fk fp be co dp op om od : Int32} {r87 r88 r89 r90 r91 r92 r93 : Nat → Int32} {r82 r83 r84 r85 r86 : Nat → Int32} {y : Int32} {k : Nat} : va_up (mrI (stI I r82 r83 r84 r85 r86) tk fk fp be co dp op om od r87 r88 r89 r90 r91 r92 r93) 84 (upd ((mrI (stI I r82 r83 r84 r85 r86) tk fk fp be co dp op om od r87 r88 r89 r90 r91 r92 r93) 84) k y) = mrI (stI I r82 r83 (upd r84 k y) r85 r86) tk fk fp be co dp op om od r87 r88 r89 r90 r91 r92 r93 := by
  funext j i
  unfold va_up
  by_cases hj : j = 84
  · subst hj; rfl
  · rw [if_neg hj]; unfold mrI stI; simp only [rdI_nb hj, cond_false]; rfl
theorem mrI_w_r85 {I : Nat → Nat → Int32} {tk : Nat → Int32} {fk fp be co dp op om od : Int32} {r87 r88 r89 r90 r91 r92 r93 : Nat → Int32} {r82 r83 r84 r85 r86 : Nat → Int32} {y : Int32} {k : Nat} : va_up (mrI (stI I r82 r83 r84 r85 r86) tk fk fp be co dp op om od r87 r88 r89 r90 r91 r92 r93) 85 (upd ((mrI (stI I r82 r83 r84 r85 r86) tk fk fp be co dp op om od r87 r88 r89 r90 r91 r92 r93) 85) k y) = mrI (stI I r82 r83 r84 (upd r85 k y) r86) tk fk fp be co dp op om od r87 r88 r89 r90 r91 r92 r93 := by
  funext j i
  unfold va_up
  by_cases hj : j = 85
  · subst hj; rfl
  · rw [if_neg hj]; unfold mrI stI; simp only [rdI_nb hj, cond_false]; rfl
theorem mrI_w_r86 {I : Nat → Nat → Int32} {tk : Nat → Int32} {fk fp be co dp op om od : Int32} {r87 r88 r89 r90 r91 r92 r93 : Nat → Int32} {r82 r83 r84 r85 r86 : Nat → Int32} {y : Int32} {k : Nat} : va_up (mrI (stI I r82 r83 r84 r85 r86) tk fk fp be co dp op om od r87 r88 r89 r90 r91 r92 r93) 86 (upd ((mrI (stI I r82 r83 r84 r85 r86) tk fk fp be co dp op om od r87 r88 r89 r90 r91 r92 r93) 86) k y) = mrI (stI I r82 r83 r84 r85 (upd r86 k y)) tk fk fp be co dp op om od r87 r88 r89 r90 r91 r92 r93 := by
  funext j i
  unfold va_up
  by_cases hj : j = 86
  · subst hj; rfl
  · rw [if_neg hj]; unfold mrI stI; simp only [rdI_nb hj, cond_false]; rfl
/-- what reads leaves, whole -/
def rdwR (tx : Nat → Nat) (T : Nat) (I : Nat → Nat → Int32) (N ce0 : Nat) (c87 : Nat → Int32) (t : Bool) (p : Nat) (I' : Nat → Nat → Int32) (w : Int64) : Prop := match (cond t (pa_test tx T 8 p) (pa_sum tx T 8 p) : pa_E) with
  | .inl (k, pl) => (k ≠ 0 ∧ k ≤ 5 ∧ pl ≤ 800) ∧ mrF I N c87 k pl I'
  | .inr (p', cs) => ∃ rs tk dp op om od r88 r89 r90 r91 r92 r93, I' = mrI I tk 0 (-1) 0 (nI (ce0 + rs.length)) dp op om od (pa_wr c87 (800 * N + ce0) (rs.map menc)) r88 r89 r90 r91 r92 r93 ∧ tkP tx T p' (tk 3) (tk 4) (tk 5) (tk 6) w ∧ pa_Eq t cs rs ∧ p < p' ∧ ce0 + rs.length ≤ p' ∧ p' ≤ T
set_option maxHeartbeats 4000000 in
theorem tv_mr_reads {d n sl : Nat} {kk : Nat → Nat × Nat} {I : Nat → Nat → Int32} {L : Nat → Nat → Int64} {q : Nat → Nat → Option Nat} {tx : Nat → Nat} {T : Nat} {tk : Nat → Int32} {dp op om od : Int32} {r88 r89 r90 r91 r92 r93 : Nat → Int32} {w : Int64} {N ce0 p : Nat} {c87 : Nat → Int32} (hR : mrH tx T I) (hN : I 80 14 = nI N ∧ N ≤ 200) (ht : tkP tx T p (tk 3) (tk 4) (tk 5) (tk 6) w) (hlf : pa_lf tx T p = none) (hp : p ≤ T) (hce : ce0 ≤ p) (t : Bool) : am_T (d + 6) 176 0 (am_ent 3 [.ref 80, .int (cond t 1 0)]) [] (n, sl, wKK kk, (mrI I tk 0 (-1) 0 (nI ce0) dp op om od c87 r88 r89 r90 r91 r92 r93), (mwL L w), wQQ q) (fun rv h' => rv = none ∧ ∃ I' w', h' = (n, sl, wKK kk, I', mwL L w', wQQ q) ∧ rdwR tx T I N ce0 c87 t p I' w') := by
  have hT8 := hR.2.1
  cases t with
  | false =>
    show am_T _ _ 0 [some (.ref 80), some (.int 0), none] _ _ _
    refine tv_b (pc' := 13) (ls' := [some (.ref 80), some (.int 0), none]) (st' := []) (h' := (n, sl, wKK kk, va_up (mrI I tk 0 (-1) 0 (nI ce0) dp op om od c87 r88 r89 r90 r91 r92 r93) 80 (upd ((mrI I tk 0 (-1) 0 (nI ce0) dp op om od c87 r88 r89 r90 r91 r92 r93) 80) 27 0), (mwL L w), wQQ q)) 6 rfl ?_
    refine tv_hI mrI_w_dp ?_
    refine tv_b (pc' := 18) (ls' := [some (.ref 80), some (.int 0), none]) (st' := []) (h' := (n, sl, wKK kk, va_up (mrI I tk 0 (-1) 0 (nI ce0) 0 op om od c87 r88 r89 r90 r91 r92 r93) 80 (upd ((mrI I tk 0 (-1) 0 (nI ce0) 0 op om od c87 r88 r89 r90 r91 r92 r93) 80) 28 0), (mwL L w), wQQ q)) 3 rfl ?_
    refine tv_hI mrI_w_op ?_
    refine tv_b (pc' := 23) (ls' := [some (.ref 80), some (.int 0), none]) (st' := []) (h' := (n, sl, wKK kk, va_up (mrI I tk 0 (-1) 0 (nI ce0) 0 0 om od c87 r88 r89 r90 r91 r92 r93) 80 (upd ((mrI I tk 0 (-1) 0 (nI ce0) 0 0 om od c87 r88 r89 r90 r91 r92 r93) 80) 30 0), (mwL L w), wQQ q)) 3 rfl ?_
    refine tv_hI mrI_w_om ?_
    refine tv_b (pc' := 28) (ls' := [some (.ref 80), some (.int 0), none]) (st' := []) (h' := (n, sl, wKK kk, va_up (mrI I tk 0 (-1) 0 (nI ce0) 0 0 0 od c87 r88 r89 r90 r91 r92 r93) 80 (upd ((mrI I tk 0 (-1) 0 (nI ce0) 0 0 0 od c87 r88 r89 r90 r91 r92 r93) 80) 31 0), (mwL L w), wQQ q)) 3 rfl ?_
    refine tv_hI mrI_w_od ?_
    refine tv_b (pc' := 38) (ls' := [some (.ref 80), some (.int 0), none]) (st' := [.int 0, .ref 80]) (h' := (n, sl, wKK kk, (mrI I tk 0 (-1) 0 (nI ce0) 0 0 0 0 c87 r88 r89 r90 r91 r92 r93), (mwL L w), wQQ q)) 4 rfl ?_
    refine tv_cvE [.int 0] [] rfl rfl (by omega) rfl (Nat.le_of_ble_eq_true rfl) (Nat.le_of_ble_eq_true rfl) (Or.inr (Or.inr rfl)) (ev_mr_pushes (D := 0) (by omega)) ?_
    refine tv_b (pc' := 43) (ls' := [some (.ref 80), some (.int 0), some (.int 1)]) (st' := []) (h' := (n, sl, wKK kk, (mrI I tk 0 (-1) 0 (nI ce0) (nI (0 + 1)) 0 0 0 c87 (upd r88 0 0) (upd r89 0 0) (upd r90 0 1) r91 (upd r92 0 0) r93), (mwL L w), wQQ q)) 2 rfl ?_
    have hfr : frR (upd r88 0 0) (upd r89 0 0) (upd r90 0 1) r91 (upd r92 0 0) r93 [(0, 0, true, 0, [])] := frR_new (fs := []) (k := 0) trivial (by decide) (by decide)
    have hJ : mrJ T ce0 (p, false, [(0, 0, true, 0, [])], []) := by unfold mrJ; simp only [fsum, List.length_cons, List.length_nil, Bool.false_eq_true, if_false]; omega
    have hb : botR [(0, 0, true, 0, [])] := ⟨fun h => absurd h (by decide), trivial⟩
    have hw := pa_whole_eq (b := tx) (n := T) hT8 false p
    unfold rdwR
    rcases hr0 : (cond false (pa_test tx T 8 p) (pa_sum tx T 8 p) : pa_E) with ⟨k0, l0⟩ | ⟨p0, cs0⟩
    · obtain ⟨K, hK⟩ := hw.1 _ hr0
      refine tv_w (tv_mr_loop (c87 := c87) hR hN (fun s => by intro h; cases h) (0 + K) p false 0 0 0 true [] [] [] tk (upd r88 0 0) (upd r89 0 0) (upd r90 0 1) r91 (upd r92 0 0) r93 w (hK 0) ht hlf hfr hJ hb) ?_
      rintro rv h' ⟨rfl, I9, w9, rfl, hP⟩
      exact ⟨rfl, I9, w9, rfl, hP⟩
    · obtain ⟨rs, f, hE, ⟨K, hK⟩, hlt⟩ := hw.2 _ _ hr0
      refine tv_w (tv_mr_loop (c87 := c87) hR hN (fun s => by intro h; cases h) (0 + K) p false 0 0 0 true [] [] [] tk (upd r88 0 0) (upd r89 0 0) (upd r90 0 1) r91 (upd r92 0 0) r93 w (hK 0) ht hlf hfr hJ hb) ?_
      rintro rv h' ⟨rfl, I9, w9, rfl, ⟨tk9, s88, s89, s90, s91, s92, s93, rfl, ht9, _⟩, hc9⟩
      exact ⟨rfl, _, w9, rfl, rs, _, _, _, _, _, _, _, _, _, _, _, rfl, ht9, hE, hlt, hc9.1, hc9.2⟩
  | true =>
    show am_T _ _ 0 [some (.ref 80), some (.int 1), none] _ _ _
    refine tv_b (pc' := 13) (ls' := [some (.ref 80), some (.int 1), none]) (st' := []) (h' := (n, sl, wKK kk, va_up (mrI I tk 0 (-1) 0 (nI ce0) dp op om od c87 r88 r89 r90 r91 r92 r93) 80 (upd ((mrI I tk 0 (-1) 0 (nI ce0) dp op om od c87 r88 r89 r90 r91 r92 r93) 80) 27 0), (mwL L w), wQQ q)) 6 rfl ?_
    refine tv_hI mrI_w_dp ?_
    refine tv_b (pc' := 18) (ls' := [some (.ref 80), some (.int 1), none]) (st' := []) (h' := (n, sl, wKK kk, va_up (mrI I tk 0 (-1) 0 (nI ce0) 0 op om od c87 r88 r89 r90 r91 r92 r93) 80 (upd ((mrI I tk 0 (-1) 0 (nI ce0) 0 op om od c87 r88 r89 r90 r91 r92 r93) 80) 28 0), (mwL L w), wQQ q)) 3 rfl ?_
    refine tv_hI mrI_w_op ?_
    refine tv_b (pc' := 23) (ls' := [some (.ref 80), some (.int 1), none]) (st' := []) (h' := (n, sl, wKK kk, va_up (mrI I tk 0 (-1) 0 (nI ce0) 0 0 om od c87 r88 r89 r90 r91 r92 r93) 80 (upd ((mrI I tk 0 (-1) 0 (nI ce0) 0 0 om od c87 r88 r89 r90 r91 r92 r93) 80) 30 0), (mwL L w), wQQ q)) 3 rfl ?_
    refine tv_hI mrI_w_om ?_
    refine tv_b (pc' := 28) (ls' := [some (.ref 80), some (.int 1), none]) (st' := []) (h' := (n, sl, wKK kk, va_up (mrI I tk 0 (-1) 0 (nI ce0) 0 0 0 od c87 r88 r89 r90 r91 r92 r93) 80 (upd ((mrI I tk 0 (-1) 0 (nI ce0) 0 0 0 od c87 r88 r89 r90 r91 r92 r93) 80) 31 0), (mwL L w), wQQ q)) 3 rfl ?_
    refine tv_hI mrI_w_od ?_
    refine tv_b (pc' := 38) (ls' := [some (.ref 80), some (.int 1), none]) (st' := [.int 1, .ref 80]) (h' := (n, sl, wKK kk, (mrI I tk 0 (-1) 0 (nI ce0) 0 0 0 0 c87 r88 r89 r90 r91 r92 r93), (mwL L w), wQQ q)) 5 rfl ?_
    refine tv_cvE [.int 1] [] rfl rfl (by omega) rfl (Nat.le_of_ble_eq_true rfl) (Nat.le_of_ble_eq_true rfl) (Or.inr (Or.inr rfl)) (ev_mr_pushes (D := 0) (by omega)) ?_
    refine tv_b (pc' := 43) (ls' := [some (.ref 80), some (.int 1), some (.int 1)]) (st' := []) (h' := (n, sl, wKK kk, (mrI I tk 0 (-1) 0 (nI ce0) (nI (0 + 1)) 0 0 0 c87 (upd r88 0 1) (upd r89 0 0) (upd r90 0 1) r91 (upd r92 0 0) r93), (mwL L w), wQQ q)) 2 rfl ?_
    have hfr : frR (upd r88 0 1) (upd r89 0 0) (upd r90 0 1) r91 (upd r92 0 0) r93 [(1, 0, true, 0, [])] := frR_new (fs := []) (k := 1) trivial (by decide) (by decide)
    have hJ : mrJ T ce0 (p, false, [(1, 0, true, 0, [])], []) := by unfold mrJ; simp only [fsum, List.length_cons, List.length_nil, Bool.false_eq_true, if_false]; omega
    have hb : botR [(1, 0, true, 0, [])] := ⟨fun h => absurd h (by decide), trivial⟩
    have hw := pa_whole_eq (b := tx) (n := T) hT8 true p
    unfold rdwR
    rcases hr0 : (cond true (pa_test tx T 8 p) (pa_sum tx T 8 p) : pa_E) with ⟨k0, l0⟩ | ⟨p0, cs0⟩
    · obtain ⟨K, hK⟩ := hw.1 _ hr0
      refine tv_w (tv_mr_loop (c87 := c87) hR hN (fun s => by intro h; cases h) (0 + K) p false 1 0 0 true [] [] [] tk (upd r88 0 1) (upd r89 0 0) (upd r90 0 1) r91 (upd r92 0 0) r93 w (hK 0) ht hlf hfr hJ hb) ?_
      rintro rv h' ⟨rfl, I9, w9, rfl, hP⟩
      exact ⟨rfl, I9, w9, rfl, hP⟩
    · obtain ⟨rs, f, hE, ⟨K, hK⟩, hlt⟩ := hw.2 _ _ hr0
      refine tv_w (tv_mr_loop (c87 := c87) hR hN (fun s => by intro h; cases h) (0 + K) p false 1 0 0 true [] [] [] tk (upd r88 0 1) (upd r89 0 0) (upd r90 0 1) r91 (upd r92 0 0) r93 w (hK 0) ht hlf hfr hJ hb) ?_
      rintro rv h' ⟨rfl, I9, w9, rfl, ⟨tk9, s88, s89, s90, s91, s92, s93, rfl, ht9, _⟩, hc9⟩
      exact ⟨rfl, _, w9, rfl, rs, _, _, _, _, _, _, _, _, _, _, _, rfl, ht9, hE, hlt, hc9.1, hc9.2⟩
theorem tv_mr_must {d n sl : Nat} {kk : Nat → Nat × Nat} {I : Nat → Nat → Int32} {L : Nat → Nat → Int64} {q : Nat → Nat → Option Nat} {tx : Nat → Nat} {T : Nat} {tk : Nat → Int32} {co dp op om od : Int32} {r87 r88 r89 r90 r91 r92 r93 : Nat → Int32} {w : Int64} {p : Nat} (hR : mrH tx T I) (hp : p ≤ T) (ht : tkP tx T p (tk 3) (tk 4) (tk 5) (tk 6) w) : am_T (d + 3) 165 0 (am_ent 2 [.ref 80, .int 59]) [] (n, sl, wKK kk, (mrI I tk 0 (-1) 1 co dp op om od r87 r88 r89 r90 r91 r92 r93), (mwL L w), wQQ q) (fun rv h' => rv = none ∧ ((¬ pa_tk tx T p = 37 ∧ h' = (n, sl, wKK kk, (mrI I tk 1 (nI (pa_sk tx T p)) 1 co dp op om od r87 r88 r89 r90 r91 r92 r93), (mwL L w), wQQ q)) ∨ (pa_tk tx T p = 37 ∧ ∃ tk' fk' fp' w', h' = (n, sl, wKK kk, (mrI I tk' fk' fp' 1 co dp op om od r87 r88 r89 r90 r91 r92 r93), (mwL L w'), wQQ q) ∧ nxP tx T (pa_ed tx T p) 1 (-1) (tk' 3) (tk' 4) (tk' 5) (tk' 6) fk' fp' (tk' 12) w'))) := by
  show am_T _ _ 0 [some (.ref 80), some (.int 59)] _ _ _
  refine tv_b (pc' := 2) (ls' := [some (.ref 80), some (.int 59)]) (st' := [.int 59, .ref 80]) (h' := (n, sl, wKK kk, (mrI I tk 0 (-1) 1 co dp op om od r87 r88 r89 r90 r91 r92 r93), (mwL L w), wQQ q)) 2 rfl ?_
  refine tv_cvE [.int 59] [] rfl rfl (by omega) rfl (Nat.le_of_ble_eq_true rfl) (Nat.le_of_ble_eq_true rfl) (Or.inr (Or.inr rfl)) (ev_mr_isS (c := 59) (t := 37) ht (by decide)) ?_
  refine tv_b (pc' := (if (if pa_tk tx T p = 37 then 1 else 0) = 0 then 8 else 17)) (ls' := [some (.ref 80), some (.int 59)]) (st' := []) (h' := (n, sl, wKK kk, (mrI I tk 0 (-1) 1 co dp op om od r87 r88 r89 r90 r91 r92 r93), (mwL L w), wQQ q)) 1 rfl ?_
  refine tv_b0 (fun c5 => ?_) (fun c5 => ?_)
  · refine tv_b (pc' := 14) (ls' := [some (.ref 80), some (.int 59)]) (st' := [.int (tk 4), .int 1, .ref 80]) (h' := (n, sl, wKK kk, (mrI I tk 0 (-1) 1 co dp op om od r87 r88 r89 r90 r91 r92 r93), (mwL L w), wQQ q)) 4 rfl ?_
    refine tv_top (ht.1) ?_
    refine tv_cvE [.int 1, .int (nI (pa_sk tx T p))] [] rfl rfl (by omega) rfl (Nat.le_of_ble_eq_true rfl) (Nat.le_of_ble_eq_true rfl) (Or.inr (Or.inr rfl)) (ev_mr_blame0) ?_
    refine tv_b (pc' := 28) (ls' := [some (.ref 80), some (.int 59)]) (st' := []) (h' := (n, sl, wKK kk, (mrI I tk 1 (nI (pa_sk tx T p)) 1 co dp op om od r87 r88 r89 r90 r91 r92 r93), (mwL L w), wQQ q)) 3 rfl ?_
    exact tv_rv rfl ⟨rfl, Or.inl ⟨c5, rfl⟩⟩
  · refine tv_b (pc' := 25) (ls' := [some (.ref 80), some (.int 59)]) (st' := [.ref 80]) (h' := (n, sl, wKK kk, (mrI I tk 0 (-1) 1 co dp op om od r87 r88 r89 r90 r91 r92 r93), (mwL L w), wQQ q)) 4 rfl ?_
    refine tv_cv [] [] rfl rfl (by omega) rfl (Nat.le_of_ble_eq_true rfl) (Nat.le_of_ble_eq_true rfl) (Or.inr (Or.inr rfl)) (tv_mr_nextB hR (pa_ed_le (b := tx) hp).1 ht.2.1) ?_
    rintro rv9 h9 ⟨rfl, tk1, fk1, fp1, w1, rfl, hn⟩
    exact tv_rv rfl ⟨rfl, Or.inr ⟨c5, tk1, fk1, fp1, w1, rfl, hn⟩⟩
theorem ev_mr_work {d n sl : Nat} {kk : Nat → Nat × Nat} {I : Nat → Nat → Int32} {L : Nat → Nat → Int64} {q : Nat → Nat → Option Nat} {tx : Nat → Nat} {T : Nat} {tk : Nat → Int32} {fk fp be co dp op om od : Int32} {r87 r88 r89 r90 r91 r92 r93 : Nat → Int32} {w : Int64} {p : Nat} (ht : tkP tx T p (tk 3) (tk 4) (tk 5) (tk 6) w) : am_Ev (d + 1) 177 0 (am_ent 1 [.ref 80]) [] (n, sl, wKK kk, (mrI I tk fk fp be co dp op om od r87 r88 r89 r90 r91 r92 r93), (mwL L w), wQQ q) (some (.int (if pa_tk tx T p ≤ 2 then nI (pa_tk tx T p) else -1)), (n, sl, wKK kk, (mrI I tk fk fp be co dp op om od r87 r88 r89 r90 r91 r92 r93), (mwL L w), wQQ q)) := by
  have e := ev_m_work (d := d) (n := n) (sl := sl) (k := kk) (I := mrI I tk fk fp be co dp op om od r87 r88 r89 r90 r91 r92 r93) (L := mwL L w) (q := q)
  have e2 : sp_m_work (mrI I tk fk fp be co dp op om od r87 r88 r89 r90 r91 r92 r93) (mwL L w) = (if pa_tk tx T p ≤ 2 then nI (pa_tk tx T p) else -1) := by
    unfold sp_m_work
    rw [mr_isWv ht (t := 0) (by decide) mw_0, mr_isWv ht (t := 1) (by decide) mw_1, mr_isWv ht (t := 2) (by decide) mw_2]
    have h40 := pa_tk_lt (b := tx) (n := T) p
    generalize pa_tk tx T p = t at h40
    revert t
    decide +kernel
  rw [e2] at e
  exact e
theorem ev_mr_work1 {d n sl : Nat} {kk : Nat → Nat × Nat} {I : Nat → Nat → Int32} {L : Nat → Nat → Int64} {q : Nat → Nat → Option Nat} {tx : Nat → Nat} {T : Nat} {tk : Nat → Int32} {fk fp be co dp op om od : Int32} {r87 r88 r89 r90 r91 r92 r93 : Nat → Int32} {w : Int64} {p : Nat} (ht : tkP tx T p (tk 3) (tk 4) (tk 5) (tk 6) w) (h : pa_tk tx T p ≤ 2) : am_Ev (d + 1) 177 0 (am_ent 1 [.ref 80]) [] (n, sl, wKK kk, (mrI I tk fk fp be co dp op om od r87 r88 r89 r90 r91 r92 r93), (mwL L w), wQQ q) (some (.int (nI (pa_tk tx T p))), (n, sl, wKK kk, (mrI I tk fk fp be co dp op om od r87 r88 r89 r90 r91 r92 r93), (mwL L w), wQQ q)) := by
  have e := ev_mr_work (d := d) (n := n) (sl := sl) (kk := kk) (I := I) (L := L) (q := q) (fk := fk) (fp := fp) (be := be) (co := co) (dp := dp) (op := op) (om := om) (od := od) (r87 := r87) (r88 := r88) (r89 := r89) (r90 := r90) (r91 := r91) (r92 := r92) (r93 := r93) ht
  rw [if_pos h] at e
  exact e
theorem ev_mr_work0 {d n sl : Nat} {kk : Nat → Nat × Nat} {I : Nat → Nat → Int32} {L : Nat → Nat → Int64} {q : Nat → Nat → Option Nat} {tx : Nat → Nat} {T : Nat} {tk : Nat → Int32} {fk fp be co dp op om od : Int32} {r87 r88 r89 r90 r91 r92 r93 : Nat → Int32} {w : Int64} {p : Nat} (ht : tkP tx T p (tk 3) (tk 4) (tk 5) (tk 6) w) (h : ¬ pa_tk tx T p ≤ 2) : am_Ev (d + 1) 177 0 (am_ent 1 [.ref 80]) [] (n, sl, wKK kk, (mrI I tk fk fp be co dp op om od r87 r88 r89 r90 r91 r92 r93), (mwL L w), wQQ q) (some (.int ((-1))), (n, sl, wKK kk, (mrI I tk fk fp be co dp op om od r87 r88 r89 r90 r91 r92 r93), (mwL L w), wQQ q)) := by
  have e := ev_mr_work (d := d) (n := n) (sl := sl) (kk := kk) (I := I) (L := L) (q := q) (fk := fk) (fp := fp) (be := be) (co := co) (dp := dp) (op := op) (om := om) (od := od) (r87 := r87) (r88 := r88) (r89 := r89) (r90 := r90) (r91 := r91) (r92 := r92) (r93 := r93) ht
  rw [if_neg h] at e
  exact e
/-- the token in the mode between statements -/
def tkB (tx : Nat → Nat) (T A : Nat) (sg sa se va lo : Int32) (w : Int64) : Prop := match pa_lf tx T A with
  | none => lo = -1 ∧ tkP tx T A sg sa se va w
  | some f => lo = nI f ∧ f ≤ 800 ∧ sa = nI (pa_sk tx T A)
def wkI (k w : Nat) : Int32 := if k = 3 then -1 else nI w
/-- the store behind a fault within a mandate -/
def msF (I : Nat → Nat → Int32) (N : Nat) (r82 r83 r84 r85 r86 r87 : Nat → Int32) (k pl : Nat) (I' : Nat → Nat → Int32) : Prop := ∃ tk be co dp op om od s82 s83 s84 s85 s86 s87 s88 s89 s90 s91 s92 s93, I' = mrI (stI I s82 s83 s84 s85 s86) tk (nI k) (nI pl) be co dp op om od s87 s88 s89 s90 s91 s92 s93 ∧ (∀ j, j ≠ N → s82 j = r82 j) ∧ (∀ j, j < 20 * N → s83 j = r83 j ∧ s84 j = r84 j ∧ s85 j = r85 j ∧ s86 j = r86 j) ∧ (∀ j, j < 800 * N → s87 j = r87 j)
/-- what statement leaves -/
def mstR (tx : Nat → Nat) (T : Nat) (I : Nat → Nat → Int32) (N k ce0 : Nat) (r82 r83 r84 r85 r86 r87 : Nat → Int32) (r : Sum (Nat × Nat) (Nat × Nat × Nat × List Nat)) (I' : Nat → Nat → Int32) (w' : Int64) : Prop := match r with
  | .inl (kk, pl) => (kk ≠ 0 ∧ kk ≤ 5 ∧ pl ≤ 800) ∧ msF I N r82 r83 r84 r85 r86 r87 kk pl I'
  | .inr (p', kw, w, cs) => ∃ rs tk fk fp dp op om od s88 s89 s90 s91 s92 s93, I' = mrI (stI I (upd r82 N (nI (k + 1))) (upd r83 (20 * N + k) (nI (kw - 3))) (upd r84 (20 * N + k) (wkI kw w)) (upd r85 (20 * N + k) (nI ce0)) (upd r86 (20 * N + k) (nI (ce0 + rs.length)))) tk fk fp 1 (nI (ce0 + rs.length)) dp op om od (pa_wr r87 (800 * N + ce0) (rs.map menc)) s88 s89 s90 s91 s92 s93 ∧ pa_Eq (cond (Nat.beq kw 5) false true) cs rs ∧ p' ≤ T ∧ ce0 + rs.length < p' ∧ (3 ≤ kw ∧ kw ≤ 5) ∧ nxP tx T p' 1 (-1) (tk 3) (tk 4) (tk 5) (tk 6) fk fp (tk 12) w' ∧ 0 < p' ∧ tx (p' - 1) = 59
theorem pa_semi {tx : Nat → Nat} {T p : Nat} (h : pa_tk tx T p = 37) : 0 < pa_ed tx T p ∧ tx (pa_ed tx T p - 1) = 59 := by
  by_cases hs : pa_sk tx T p < T
  · cases hl : pa_lt (tx (pa_sk tx T p)) with
    | true =>
      rw [tk_w hs hl] at h
      have := pa_wtk_c (pa_bs tx (pa_sk tx T p) (pa_wl tx T (pa_sk tx T p)))
      omega
    | false =>
      cases hd : pa_dg (tx (pa_sk tx T p)) with
      | true => rw [tk_n hs hl hd] at h; omega
      | false =>
        have e := (pa_c_sign (b := tx) hs hl hd).2.2
        rw [tk_s hs hl hd] at h
        rw [e]
        refine ⟨Nat.succ_pos _, ?_⟩
        show tx (pa_sk tx T p) = 59
        generalize tx (pa_sk tx T p) = x at h
        unfold pa_sgn at h
        split at h <;> first | rfl | (exact absurd h (by decide))
  · rw [tk_e hs] at h; omega
theorem mr_upd2 {f : Nat → Int32} {i : Nat} {x y : Int32} : upd (upd f i x) i y = upd f i y := by
  funext k
  unfold upd
  by_cases e : k = i
  · rw [if_pos e, if_pos e]
  · simp only [if_neg e]
theorem ev_mr_readsF {d n sl : Nat} {kk : Nat → Nat × Nat} {I : Nat → Nat → Int32} {L : Nat → Nat → Int64} {q : Nat → Nat → Option Nat} {tk : Nat → Int32} {fk fp be co dp op om od : Int32} {r87 r88 r89 r90 r91 r92 r93 : Nat → Int32} {w : Int64} {x : Int32} (hf : ¬ fk ≤ 0) : am_Ev d 176 0 (am_ent 3 [.ref 80, .int x]) [] (n, sl, wKK kk, (mrI I tk fk fp be co dp op om od r87 r88 r89 r90 r91 r92 r93), (mwL L w), wQQ q) (none, (n, sl, wKK kk, (mrI I tk fk fp be co dp op om od r87 r88 r89 r90 r91 r92 r93), (mwL L w), wQQ q)) := by
  refine tv_ev ?_
  show am_T _ _ 0 [some (.ref 80), some (.int x), none] _ _ _
  refine tv_b (pc' := (if fk ≤ 0 then 8 else 7)) (ls' := [some (.ref 80), some (.int x), none]) (st' := []) (h' := (n, sl, wKK kk, (mrI I tk fk fp be co dp op om od r87 r88 r89 r90 r91 r92 r93), (mwL L w), wQQ q)) 3 rfl ?_
  refine tv_f (hf) ?_
  exact tv_rv rfl ⟨rfl, rfl⟩
theorem mr_nI_ne {f : Nat} (h : f < 1000) : ¬ nI f = -1 := by
  intro q
  have := congrArg Int32.toInt q
  rw [nI_toInt (by omega)] at this
  have e : (-1 : Int32).toInt = -1 := by decide
  rw [e] at this
  omega
set_option maxHeartbeats 16000000 in
theorem tv_mr_statement {d n sl : Nat} {kk : Nat → Nat × Nat} {I : Nat → Nat → Int32} {L : Nat → Nat → Int64} {q : Nat → Nat → Option Nat} {tx : Nat → Nat} {T : Nat} {tk : Nat → Int32} {dp op om od : Int32} {r87 r88 r89 r90 r91 r92 r93 : Nat → Int32} {w : Int64} {r82 r83 r84 r85 r86 : Nat → Int32} {N k ce0 A : Nat} (hR : mrH tx T I) (hN : I 80 14 = nI N ∧ N ≤ 200) (hk82 : r82 N = nI k) (hk : k ≤ 20) (hB : tkB tx T A (tk 3) (tk 4) (tk 5) (tk 6) (tk 12) w) (hA : A ≤ T) (hce : ce0 ≤ A) (hsk : pa_sk tx T A < T) : am_T (d + 7) 178 0 (am_ent 3 [.ref 80]) [] (n, sl, wKK kk, (mrI (stI I r82 r83 r84 r85 r86) tk 0 (-1) 1 (nI ce0) dp op om od r87 r88 r89 r90 r91 r92 r93), (mwL L w), wQQ q) (fun rv h' => rv = none ∧ ∃ I' w', h' = (n, sl, wKK kk, I', mwL L w', wQQ q) ∧ mstR tx T I N k ce0 r82 r83 r84 r85 r86 r87 (if k = 20 then .inl (5, pa_sk tx T A) else pa_stmt tx T A) I' w') := by
  have hT8 := hR.2.1
  have hd0 := pa_tk_lt (b := tx) (n := T) A
  by_cases hk20 : k = 20
  · subst hk20
    rw [if_pos rfl]
    have hsa : tk 4 = nI (pa_sk tx T A) := by
      unfold tkB at hB
      cases hlf : pa_lf tx T A with
      | none => rw [hlf] at hB; exact hB.2.1
      | some f => rw [hlf] at hB; exact hB.2.2
    show am_T _ _ 0 [some (.ref 80), none, none] _ _ _
    refine tv_b (pc' := 8) (ls' := [some (.ref 80), none, none]) (st' := [.int (I 80 14), .ref 82]) (h' := (n, sl, wKK kk, (mrI (stI I r82 r83 r84 r85 r86) tk 0 (-1) 1 (nI ce0) dp op om od r87 r88 r89 r90 r91 r92 r93), (mwL L w), wQQ q)) 4 rfl ?_
    refine tv_top (hN.1) ?_
    refine tv_ialN (k := N) rfl (rfl) (⟨by omega, by omega⟩) ?_
    refine tv_top (hk82) ?_
    refine tv_b (pc' := (if (nI 20) = 20 then 14 else 23)) (ls' := [some (.ref 80), none, none]) (st' := []) (h' := (n, sl, wKK kk, (mrI (stI I r82 r83 r84 r85 r86) tk 0 (-1) 1 (nI ce0) dp op om od r87 r88 r89 r90 r91 r92 r93), (mwL L w), wQQ q)) 2 rfl ?_
    refine tv_t ((nI_eq (a := 20) (b := 20) (by omega) (by omega)).mpr (rfl)) ?_
    refine tv_b (pc' := 20) (ls' := [some (.ref 80), none, none]) (st' := [.int (tk 4), .int 5, .ref 80]) (h' := (n, sl, wKK kk, (mrI (stI I r82 r83 r84 r85 r86) tk 0 (-1) 1 (nI ce0) dp op om od r87 r88 r89 r90 r91 r92 r93), (mwL L w), wQQ q)) 4 rfl ?_
    refine tv_top (hsa) ?_
    refine tv_cvE [.int 5, .int (nI (pa_sk tx T A))] [] rfl rfl (by omega) rfl (Nat.le_of_ble_eq_true rfl) (Nat.le_of_ble_eq_true rfl) (Or.inr (Or.inr rfl)) (ev_mr_blame0) ?_
    refine tv_b (pc' := (if (tk 12) = (-1) then 40 else 31)) (ls' := [some (.ref 80), none, none]) (st' := []) (h' := (n, sl, wKK kk, (mrI (stI I r82 r83 r84 r85 r86) tk 5 (nI (pa_sk tx T A)) 1 (nI ce0) dp op om od r87 r88 r89 r90 r91 r92 r93), (mwL L w), wQQ q)) 4 rfl ?_
    refine tv_if (fun c28 => ?_) (fun c28 => ?_)
    · refine tv_b (pc' := 47) (ls' := [some (.ref 80), none, none]) (st' := []) (h' := (n, sl, wKK kk, (mrI (stI I r82 r83 r84 r85 r86) tk 5 (nI (pa_sk tx T A)) 1 (nI ce0) dp op om od r87 r88 r89 r90 r91 r92 r93), (mwL L w), wQQ q)) 3 rfl ?_
      exact tv_rv rfl ⟨rfl, _, _, rfl, ⟨by decide, by decide, by first | omega | exact pa_sk8 (by omega) hT8⟩, ⟨_, _, _, _, _, _, _, _, _, _, _, _, _, _, _, _, _, _, _, rfl, (fun j hj => by first | rfl | exact upd_n hj), (fun j hj => by refine ⟨?_, ?_, ?_, ?_⟩ <;> first | rfl | exact upd_n (by omega) | (rw [upd_n (by omega), upd_n (by omega)])), (fun j hj => by first | rfl | exact hfm j hj | exact pa_wr_b (by omega))⟩⟩
    · refine tv_b (pc' := 37) (ls' := [some (.ref 80), none, none]) (st' := [.int (tk 12), .int 1, .ref 80]) (h' := (n, sl, wKK kk, (mrI (stI I r82 r83 r84 r85 r86) tk 5 (nI (pa_sk tx T A)) 1 (nI ce0) dp op om od r87 r88 r89 r90 r91 r92 r93), (mwL L w), wQQ q)) 4 rfl ?_
      refine tv_cvE [.int 1, .int (tk 12)] [] rfl rfl (by omega) rfl (Nat.le_of_ble_eq_true rfl) (Nat.le_of_ble_eq_true rfl) (Or.inr (Or.inr rfl)) (ev_mr_blameF (by decide)) ?_
      refine tv_b (pc' := 47) (ls' := [some (.ref 80), none, none]) (st' := []) (h' := (n, sl, wKK kk, (mrI (stI I r82 r83 r84 r85 r86) tk 5 (nI (pa_sk tx T A)) 1 (nI ce0) dp op om od r87 r88 r89 r90 r91 r92 r93), (mwL L w), wQQ q)) 3 rfl ?_
      exact tv_rv rfl ⟨rfl, _, _, rfl, ⟨by decide, by decide, by first | omega | exact pa_sk8 (by omega) hT8⟩, ⟨_, _, _, _, _, _, _, _, _, _, _, _, _, _, _, _, _, _, _, rfl, (fun j hj => by first | rfl | exact upd_n hj), (fun j hj => by refine ⟨?_, ?_, ?_, ?_⟩ <;> first | rfl | exact upd_n (by omega) | (rw [upd_n (by omega), upd_n (by omega)])), (fun j hj => by first | rfl | exact hfm j hj | exact pa_wr_b (by omega))⟩⟩
  unfold tkB at hB
  cases hlf : pa_lf tx T A with
  | some f =>
    rw [hlf] at hB
    have hf8 := hB.2.1
    show am_T _ _ 0 [some (.ref 80), none, none] _ _ _
    refine tv_b (pc' := 8) (ls' := [some (.ref 80), none, none]) (st' := [.int (I 80 14), .ref 82]) (h' := (n, sl, wKK kk, (mrI (stI I r82 r83 r84 r85 r86) tk 0 (-1) 1 (nI ce0) dp op om od r87 r88 r89 r90 r91 r92 r93), (mwL L w), wQQ q)) 4 rfl ?_
    refine tv_top (hN.1) ?_
    refine tv_ialN (k := N) rfl (rfl) (⟨by omega, by omega⟩) ?_
    refine tv_top (hk82) ?_
    refine tv_b (pc' := (if (nI k) = 20 then 14 else 23)) (ls' := [some (.ref 80), none, none]) (st' := []) (h' := (n, sl, wKK kk, (mrI (stI I r82 r83 r84 r85 r86) tk 0 (-1) 1 (nI ce0) dp op om od r87 r88 r89 r90 r91 r92 r93), (mwL L w), wQQ q)) 2 rfl ?_
    refine tv_f (fun hq => absurd ((nI_eq (a := k) (b := 20) (by omega) (by omega)).mp hq) (by omega)) ?_
    refine tv_b (pc' := 27) (ls' := [some (.ref 80), none, none]) (st' := [.int (tk 12)]) (h' := (n, sl, wKK kk, (mrI (stI I r82 r83 r84 r85 r86) tk 0 (-1) 1 (nI ce0) dp op om od r87 r88 r89 r90 r91 r92 r93), (mwL L w), wQQ q)) 2 rfl ?_
    refine tv_top (hB.1) ?_
    refine tv_b (pc' := (if (nI f) = (-1) then 40 else 31)) (ls' := [some (.ref 80), none, none]) (st' := []) (h' := (n, sl, wKK kk, (mrI (stI I r82 r83 r84 r85 r86) tk 0 (-1) 1 (nI ce0) dp op om od r87 r88 r89 r90 r91 r92 r93), (mwL L w), wQQ q)) 2 rfl ?_
    refine tv_f (mr_nI_ne (by omega)) ?_
    refine tv_b (pc' := 37) (ls' := [some (.ref 80), none, none]) (st' := [.int (tk 12), .int 1, .ref 80]) (h' := (n, sl, wKK kk, (mrI (stI I r82 r83 r84 r85 r86) tk 0 (-1) 1 (nI ce0) dp op om od r87 r88 r89 r90 r91 r92 r93), (mwL L w), wQQ q)) 4 rfl ?_
    refine tv_top (hB.1) ?_
    refine tv_cvE [.int 1, .int (nI f)] [] rfl rfl (by omega) rfl (Nat.le_of_ble_eq_true rfl) (Nat.le_of_ble_eq_true rfl) (Or.inr (Or.inr rfl)) (ev_mr_blame0) ?_
    refine tv_b (pc' := 47) (ls' := [some (.ref 80), none, none]) (st' := []) (h' := (n, sl, wKK kk, (mrI (stI I r82 r83 r84 r85 r86) tk 1 (nI f) 1 (nI ce0) dp op om od r87 r88 r89 r90 r91 r92 r93), (mwL L w), wQQ q)) 3 rfl ?_
    rw [if_neg hk20, pa_stmt_f hlf]
    exact tv_rv rfl ⟨rfl, _, _, rfl, ⟨by decide, by decide, hf8⟩, ⟨_, _, _, _, _, _, _, _, _, _, _, _, _, _, _, _, _, _, _, rfl, (fun j hj => by first | rfl | exact upd_n hj), (fun j hj => by refine ⟨?_, ?_, ?_, ?_⟩ <;> first | rfl | exact upd_n (by omega) | (rw [upd_n (by omega), upd_n (by omega)])), (fun j hj => by first | rfl | exact hfm j hj | exact pa_wr_b (by omega))⟩⟩
  | none =>
    rw [hlf] at hB
    have ht := hB.2
    by_cases h3 : pa_tk tx T A = 3 ∨ pa_tk tx T A = 4 ∨ pa_tk tx T A = 5
    · have hkw := pa_kw h3
      rcases h3 with h3 | h3 | h3
      · show am_T _ _ 0 [some (.ref 80), none, none] _ _ _
        refine tv_b (pc' := 8) (ls' := [some (.ref 80), none, none]) (st' := [.int (I 80 14), .ref 82]) (h' := (n, sl, wKK kk, (mrI (stI I r82 r83 r84 r85 r86) tk 0 (-1) 1 (nI ce0) dp op om od r87 r88 r89 r90 r91 r92 r93), (mwL L w), wQQ q)) 4 rfl ?_
        refine tv_top (hN.1) ?_
        refine tv_ialN (k := N) rfl (rfl) (⟨by omega, by omega⟩) ?_
        refine tv_top (hk82) ?_
        refine tv_b (pc' := (if (nI k) = 20 then 14 else 23)) (ls' := [some (.ref 80), none, none]) (st' := []) (h' := (n, sl, wKK kk, (mrI (stI I r82 r83 r84 r85 r86) tk 0 (-1) 1 (nI ce0) dp op om od r87 r88 r89 r90 r91 r92 r93), (mwL L w), wQQ q)) 2 rfl ?_
        refine tv_f (fun hq => absurd ((nI_eq (a := k) (b := 20) (by omega) (by omega)).mp hq) (by omega)) ?_
        refine tv_b (pc' := 27) (ls' := [some (.ref 80), none, none]) (st' := [.int (tk 12)]) (h' := (n, sl, wKK kk, (mrI (stI I r82 r83 r84 r85 r86) tk 0 (-1) 1 (nI ce0) dp op om od r87 r88 r89 r90 r91 r92 r93), (mwL L w), wQQ q)) 2 rfl ?_
        refine tv_top (hB.1) ?_
        refine tv_b (pc' := 53) (ls' := [some (.ref 80), none, none]) (st' := []) (h' := (n, sl, wKK kk, va_up (mrI (stI I r82 r83 r84 r85 r86) tk 0 (-1) 1 (nI ce0) dp op om od r87 r88 r89 r90 r91 r92 r93) 80 (upd ((mrI (stI I r82 r83 r84 r85 r86) tk 0 (-1) 1 (nI ce0) dp op om od r87 r88 r89 r90 r91 r92 r93) 80) 13 0), (mwL L w), wQQ q)) 8 rfl ?_
        refine tv_hI mrI_w_be ?_
        refine tv_b (pc' := 57) (ls' := [some (.ref 80), none, none]) (st' := [.long 1937010544, .ref 80]) (h' := (n, sl, wKK kk, (mrI (stI I r82 r83 r84 r85 r86) tk 0 (-1) 0 (nI ce0) dp op om od r87 r88 r89 r90 r91 r92 r93), (mwL L w), wQQ q)) 2 rfl ?_
        refine tv_cvE [.long 1937010544] [] rfl rfl (by omega) rfl (Nat.le_of_ble_eq_true rfl) (Nat.le_of_ble_eq_true rfl) (Or.inr (Or.inr rfl)) (ev_mr_isW ht (by decide) mw_3) ?_
        refine tv_b (pc' := (if (if pa_tk tx T A = 3 then 1 else 0) = 0 then 67 else 63)) (ls' := [some (.ref 80), none, none]) (st' := []) (h' := (n, sl, wKK kk, (mrI (stI I r82 r83 r84 r85 r86) tk 0 (-1) 0 (nI ce0) dp op om od r87 r88 r89 r90 r91 r92 r93), (mwL L w), wQQ q)) 1 rfl ?_
        refine tv_b0t (by omega) ?_
        refine tv_b (pc' := 125) (ls' := [some (.ref 80), some (.int 0), none]) (st' := [.int (I 80 14), .int 20]) (h' := (n, sl, wKK kk, (mrI (stI I r82 r83 r84 r85 r86) tk 0 (-1) 0 (nI ce0) dp op om od r87 r88 r89 r90 r91 r92 r93), (mwL L w), wQQ q)) 12 rfl ?_
        refine tv_top (hN.1) ?_
        refine tv_b (pc' := 126) (ls' := [some (.ref 80), some (.int 0), none]) (st' := [.int (20 * (nI N))]) (h' := (n, sl, wKK kk, (mrI (stI I r82 r83 r84 r85 r86) tk 0 (-1) 0 (nI ce0) dp op om od r87 r88 r89 r90 r91 r92 r93), (mwL L w), wQQ q)) 1 rfl ?_
        refine tv_top (show 20 * (nI N) = nI (20 * N) from nI_mul 20 N) ?_
        refine tv_b (pc' := 134) (ls' := [some (.ref 80), some (.int 0), none]) (st' := [.int (I 80 14), .ref 82, .int (nI (20 * N))]) (h' := (n, sl, wKK kk, (mrI (stI I r82 r83 r84 r85 r86) tk 0 (-1) 0 (nI ce0) dp op om od r87 r88 r89 r90 r91 r92 r93), (mwL L w), wQQ q)) 4 rfl ?_
        refine tv_top (hN.1) ?_
        refine tv_ialN (k := N) rfl (rfl) (⟨by omega, by omega⟩) ?_
        refine tv_top (hk82) ?_
        refine tv_b (pc' := 136) (ls' := [some (.ref 80), some (.int 0), none]) (st' := [.int ((nI (20 * N)) + (nI k))]) (h' := (n, sl, wKK kk, (mrI (stI I r82 r83 r84 r85 r86) tk 0 (-1) 0 (nI ce0) dp op om od r87 r88 r89 r90 r91 r92 r93), (mwL L w), wQQ q)) 1 rfl ?_
        refine tv_top (show (nI (20 * N)) + (nI k) = nI ((20 * N) + k) from nI_add (20 * N) k) ?_
        refine tv_b (pc' := 138) (ls' := [some (.ref 80), some (.int 0), some (.int (nI (20 * N + k)))]) (st' := [.ref 80]) (h' := (n, sl, wKK kk, (mrI (stI I r82 r83 r84 r85 r86) tk 0 (-1) 0 (nI ce0) dp op om od r87 r88 r89 r90 r91 r92 r93), (mwL L w), wQQ q)) 2 rfl ?_
        refine tv_cv [] [] rfl rfl (by omega) rfl (Nat.le_of_ble_eq_true rfl) (Nat.le_of_ble_eq_true rfl) (Or.inr (Or.inr rfl)) (tv_mr_nx hR (by omega) ht) ?_
        rintro rv9 h9 ⟨rfl, ⟨f1, tf1, w1, hr1, hf1, rfl⟩ | ⟨p1, t1, w1, hr1, hq1, hp1, ht1, rfl⟩⟩
        · refine tv_b (pc' := 147) (ls' := [some (.ref 80), some (.int 0), some (.int (nI (20 * N + k)))]) (st' := [.int 0, .int (nI (20 * N + k)), .ref 83]) (h' := (n, sl, wKK kk, (mrI (stI I r82 r83 r84 r85 r86) tf1 1 (nI f1) 0 (nI ce0) dp op om od r87 r88 r89 r90 r91 r92 r93), (mwL L w1), wQQ q)) 4 rfl ?_
          refine tv_iasN (k := (20 * N + k)) rfl (rfl) (⟨by omega, by omega⟩) ?_
          refine tv_hI mrI_w_r83 ?_
          refine tv_b (pc' := 154) (ls' := [some (.ref 80), some (.int 0), some (.int (nI (20 * N + k)))]) (st' := [.int (-1), .int (nI (20 * N + k)), .ref 84]) (h' := (n, sl, wKK kk, (mrI (stI I r82 (upd r83 (20 * N + k) 0) r84 r85 r86) tf1 1 (nI f1) 0 (nI ce0) dp op om od r87 r88 r89 r90 r91 r92 r93), (mwL L w1), wQQ q)) 4 rfl ?_
          refine tv_iasN (k := (20 * N + k)) rfl (rfl) (⟨by omega, by omega⟩) ?_
          refine tv_hI mrI_w_r84 ?_
          refine tv_b (pc' := 257) (ls' := [some (.ref 80), some (.int 0), some (.int (nI (20 * N + k)))]) (st' := [.int (nI ce0), .int (nI (20 * N + k)), .ref 85]) (h' := (n, sl, wKK kk, (mrI (stI I r82 (upd r83 (20 * N + k) 0) (upd r84 (20 * N + k) (-1)) r85 r86) tf1 1 (nI f1) 0 (nI ce0) dp op om od r87 r88 r89 r90 r91 r92 r93), (mwL L w1), wQQ q)) 13 rfl ?_
          refine tv_iasN (k := (20 * N + k)) rfl (rfl) (⟨by omega, by omega⟩) ?_
          refine tv_hI mrI_w_r85 ?_
          refine tv_b (pc' := 269) (ls' := [some (.ref 80), some (.int 0), some (.int (nI (20 * N + k)))]) (st' := [.int 1, .ref 80]) (h' := (n, sl, wKK kk, (mrI (stI I r82 (upd r83 (20 * N + k) 0) (upd r84 (20 * N + k) (-1)) (upd r85 (20 * N + k) (nI ce0)) r86) tf1 1 (nI f1) 0 (nI ce0) dp op om od r87 r88 r89 r90 r91 r92 r93), (mwL L w1), wQQ q)) 6 rfl ?_
          refine tv_cvE [.int 1] [] rfl rfl (by omega) rfl (Nat.le_of_ble_eq_true rfl) (Nat.le_of_ble_eq_true rfl) (Or.inr (Or.inr rfl)) (ev_mr_readsF (by decide)) ?_
          refine tv_b (pc' := 281) (ls' := [some (.ref 80), some (.int 0), some (.int (nI (20 * N + k)))]) (st' := [.int (nI ce0), .int (nI (20 * N + k)), .ref 86]) (h' := (n, sl, wKK kk, (mrI (stI I r82 (upd r83 (20 * N + k) 0) (upd r84 (20 * N + k) (-1)) (upd r85 (20 * N + k) (nI ce0)) r86) tf1 1 (nI f1) 0 (nI ce0) dp op om od r87 r88 r89 r90 r91 r92 r93), (mwL L w1), wQQ q)) 5 rfl ?_
          refine tv_iasN (k := (20 * N + k)) rfl (rfl) (⟨by omega, by omega⟩) ?_
          refine tv_hI mrI_w_r86 ?_
          refine tv_b (pc' := 287) (ls' := [some (.ref 80), some (.int 0), some (.int (nI (20 * N + k)))]) (st' := []) (h' := (n, sl, wKK kk, va_up (mrI (stI I r82 (upd r83 (20 * N + k) 0) (upd r84 (20 * N + k) (-1)) (upd r85 (20 * N + k) (nI ce0)) (upd r86 (20 * N + k) (nI ce0))) tf1 1 (nI f1) 0 (nI ce0) dp op om od r87 r88 r89 r90 r91 r92 r93) 80 (upd ((mrI (stI I r82 (upd r83 (20 * N + k) 0) (upd r84 (20 * N + k) (-1)) (upd r85 (20 * N + k) (nI ce0)) (upd r86 (20 * N + k) (nI ce0))) tf1 1 (nI f1) 0 (nI ce0) dp op om od r87 r88 r89 r90 r91 r92 r93) 80) 13 1), (mwL L w1), wQQ q)) 3 rfl ?_
          refine tv_hI mrI_w_be ?_
          refine tv_b (pc' := 308) (ls' := [some (.ref 80), some (.int 0), some (.int (nI (20 * N + k)))]) (st' := [.int (I 80 14), .ref 82]) (h' := (n, sl, wKK kk, (mrI (stI I r82 (upd r83 (20 * N + k) 0) (upd r84 (20 * N + k) (-1)) (upd r85 (20 * N + k) (nI ce0)) (upd r86 (20 * N + k) (nI ce0))) tf1 1 (nI f1) 1 (nI ce0) dp op om od r87 r88 r89 r90 r91 r92 r93), (mwL L w1), wQQ q)) 7 rfl ?_
          refine tv_top (hN.1) ?_
          refine tv_b (pc' := 309) (ls' := [some (.ref 80), some (.int 0), some (.int (nI (20 * N + k)))]) (st' := [.int (nI N), .ref 82, .int (nI N), .ref 82]) (h' := (n, sl, wKK kk, (mrI (stI I r82 (upd r83 (20 * N + k) 0) (upd r84 (20 * N + k) (-1)) (upd r85 (20 * N + k) (nI ce0)) (upd r86 (20 * N + k) (nI ce0))) tf1 1 (nI f1) 1 (nI ce0) dp op om od r87 r88 r89 r90 r91 r92 r93), (mwL L w1), wQQ q)) 1 rfl ?_
          refine tv_ialN (k := N) rfl (rfl) (⟨by omega, by omega⟩) ?_
          refine tv_top (hk82) ?_
          refine tv_b (pc' := 311) (ls' := [some (.ref 80), some (.int 0), some (.int (nI (20 * N + k)))]) (st' := [.int 1, .int (nI k), .int (nI N), .ref 82]) (h' := (n, sl, wKK kk, (mrI (stI I r82 (upd r83 (20 * N + k) 0) (upd r84 (20 * N + k) (-1)) (upd r85 (20 * N + k) (nI ce0)) (upd r86 (20 * N + k) (nI ce0))) tf1 1 (nI f1) 1 (nI ce0) dp op om od r87 r88 r89 r90 r91 r92 r93), (mwL L w1), wQQ q)) 1 rfl ?_
          refine tv_b (pc' := 312) (ls' := [some (.ref 80), some (.int 0), some (.int (nI (20 * N + k)))]) (st' := [.int ((nI k) + 1), .int (nI N), .ref 82]) (h' := (n, sl, wKK kk, (mrI (stI I r82 (upd r83 (20 * N + k) 0) (upd r84 (20 * N + k) (-1)) (upd r85 (20 * N + k) (nI ce0)) (upd r86 (20 * N + k) (nI ce0))) tf1 1 (nI f1) 1 (nI ce0) dp op om od r87 r88 r89 r90 r91 r92 r93), (mwL L w1), wQQ q)) 1 rfl ?_
          refine tv_top (show (nI k) + 1 = nI (k + 1) from nI_add k 1) ?_
          refine tv_iasN (k := N) rfl (rfl) (⟨by omega, by omega⟩) ?_
          refine tv_hI mrI_w_r82 ?_
          rw [if_neg hk20]
          have e : pa_stmt tx T A = _ := (pa_stmt_3 hlf (by omega)).trans (pa_fin_l (pa_bnd_i hr1))
          rw [e]
          exact tv_rv rfl ⟨rfl, _, _, rfl, ⟨by decide, by decide, by first | omega | exact pa_sk8 (by omega) hT8⟩, ⟨_, _, _, _, _, _, _, _, _, _, _, _, _, _, _, _, _, _, _, rfl, (fun j hj => by first | rfl | exact upd_n hj), (fun j hj => by refine ⟨?_, ?_, ?_, ?_⟩ <;> first | rfl | exact upd_n (by omega) | (rw [upd_n (by omega), upd_n (by omega)])), (fun j hj => by first | rfl | exact hfm j hj | exact pa_wr_b (by omega))⟩⟩
        · have hd1 := pa_tk_lt (b := tx) (n := T) p1
          have hx1 := (pa_ed_le (b := tx) (n := T) (p := A) (by omega)).2
          refine tv_b (pc' := 147) (ls' := [some (.ref 80), some (.int 0), some (.int (nI (20 * N + k)))]) (st' := [.int 0, .int (nI (20 * N + k)), .ref 83]) (h' := (n, sl, wKK kk, (mrI (stI I r82 r83 r84 r85 r86) t1 0 (-1) 0 (nI ce0) dp op om od r87 r88 r89 r90 r91 r92 r93), (mwL L w1), wQQ q)) 4 rfl ?_
          refine tv_iasN (k := (20 * N + k)) rfl (rfl) (⟨by omega, by omega⟩) ?_
          refine tv_hI mrI_w_r83 ?_
          refine tv_b (pc' := 154) (ls' := [some (.ref 80), some (.int 0), some (.int (nI (20 * N + k)))]) (st' := [.int (-1), .int (nI (20 * N + k)), .ref 84]) (h' := (n, sl, wKK kk, (mrI (stI I r82 (upd r83 (20 * N + k) 0) r84 r85 r86) t1 0 (-1) 0 (nI ce0) dp op om od r87 r88 r89 r90 r91 r92 r93), (mwL L w1), wQQ q)) 4 rfl ?_
          refine tv_iasN (k := (20 * N + k)) rfl (rfl) (⟨by omega, by omega⟩) ?_
          refine tv_hI mrI_w_r84 ?_
          refine tv_b (pc' := 222) (ls' := [some (.ref 80), some (.int 0), some (.int (nI (20 * N + k)))]) (st' := [.long 2003330414, .ref 80]) (h' := (n, sl, wKK kk, (mrI (stI I r82 (upd r83 (20 * N + k) 0) (upd r84 (20 * N + k) (-1)) r85 r86) t1 0 (-1) 0 (nI ce0) dp op om od r87 r88 r89 r90 r91 r92 r93), (mwL L w1), wQQ q)) 10 rfl ?_
          refine tv_cvE [.long 2003330414] [] rfl rfl (by omega) rfl (Nat.le_of_ble_eq_true rfl) (Nat.le_of_ble_eq_true rfl) (Or.inr (Or.inr rfl)) (ev_mr_isW ht1 (by decide) mw_6) ?_
          refine tv_b (pc' := (if (if pa_tk tx T p1 = 6 then 1 else 0) = 0 then 228 else 237)) (ls' := [some (.ref 80), some (.int 0), some (.int (nI (20 * N + k)))]) (st' := []) (h' := (n, sl, wKK kk, (mrI (stI I r82 (upd r83 (20 * N + k) 0) (upd r84 (20 * N + k) (-1)) r85 r86) t1 0 (-1) 0 (nI ce0) dp op om od r87 r88 r89 r90 r91 r92 r93), (mwL L w1), wQQ q)) 1 rfl ?_
          refine tv_b0 (fun c225 => ?_) (fun c225 => ?_)
          · refine tv_b (pc' := 234) (ls' := [some (.ref 80), some (.int 0), some (.int (nI (20 * N + k)))]) (st' := [.int (t1 4), .int 1, .ref 80]) (h' := (n, sl, wKK kk, (mrI (stI I r82 (upd r83 (20 * N + k) 0) (upd r84 (20 * N + k) (-1)) r85 r86) t1 0 (-1) 0 (nI ce0) dp op om od r87 r88 r89 r90 r91 r92 r93), (mwL L w1), wQQ q)) 4 rfl ?_
            refine tv_top (ht1.1) ?_
            refine tv_cvE [.int 1, .int (nI (pa_sk tx T p1))] [] rfl rfl (by omega) rfl (Nat.le_of_ble_eq_true rfl) (Nat.le_of_ble_eq_true rfl) (Or.inr (Or.inr rfl)) (ev_mr_blame0) ?_
            refine tv_b (pc' := 257) (ls' := [some (.ref 80), some (.int 0), some (.int (nI (20 * N + k)))]) (st' := [.int (nI ce0), .int (nI (20 * N + k)), .ref 85]) (h' := (n, sl, wKK kk, (mrI (stI I r82 (upd r83 (20 * N + k) 0) (upd r84 (20 * N + k) (-1)) r85 r86) t1 1 (nI (pa_sk tx T p1)) 0 (nI ce0) dp op om od r87 r88 r89 r90 r91 r92 r93), (mwL L w1), wQQ q)) 8 rfl ?_
            refine tv_iasN (k := (20 * N + k)) rfl (rfl) (⟨by omega, by omega⟩) ?_
            refine tv_hI mrI_w_r85 ?_
            refine tv_b (pc' := 269) (ls' := [some (.ref 80), some (.int 0), some (.int (nI (20 * N + k)))]) (st' := [.int 1, .ref 80]) (h' := (n, sl, wKK kk, (mrI (stI I r82 (upd r83 (20 * N + k) 0) (upd r84 (20 * N + k) (-1)) (upd r85 (20 * N + k) (nI ce0)) r86) t1 1 (nI (pa_sk tx T p1)) 0 (nI ce0) dp op om od r87 r88 r89 r90 r91 r92 r93), (mwL L w1), wQQ q)) 6 rfl ?_
            refine tv_cvE [.int 1] [] rfl rfl (by omega) rfl (Nat.le_of_ble_eq_true rfl) (Nat.le_of_ble_eq_true rfl) (Or.inr (Or.inr rfl)) (ev_mr_readsF (by decide)) ?_
            refine tv_b (pc' := 281) (ls' := [some (.ref 80), some (.int 0), some (.int (nI (20 * N + k)))]) (st' := [.int (nI ce0), .int (nI (20 * N + k)), .ref 86]) (h' := (n, sl, wKK kk, (mrI (stI I r82 (upd r83 (20 * N + k) 0) (upd r84 (20 * N + k) (-1)) (upd r85 (20 * N + k) (nI ce0)) r86) t1 1 (nI (pa_sk tx T p1)) 0 (nI ce0) dp op om od r87 r88 r89 r90 r91 r92 r93), (mwL L w1), wQQ q)) 5 rfl ?_
            refine tv_iasN (k := (20 * N + k)) rfl (rfl) (⟨by omega, by omega⟩) ?_
            refine tv_hI mrI_w_r86 ?_
            refine tv_b (pc' := 287) (ls' := [some (.ref 80), some (.int 0), some (.int (nI (20 * N + k)))]) (st' := []) (h' := (n, sl, wKK kk, va_up (mrI (stI I r82 (upd r83 (20 * N + k) 0) (upd r84 (20 * N + k) (-1)) (upd r85 (20 * N + k) (nI ce0)) (upd r86 (20 * N + k) (nI ce0))) t1 1 (nI (pa_sk tx T p1)) 0 (nI ce0) dp op om od r87 r88 r89 r90 r91 r92 r93) 80 (upd ((mrI (stI I r82 (upd r83 (20 * N + k) 0) (upd r84 (20 * N + k) (-1)) (upd r85 (20 * N + k) (nI ce0)) (upd r86 (20 * N + k) (nI ce0))) t1 1 (nI (pa_sk tx T p1)) 0 (nI ce0) dp op om od r87 r88 r89 r90 r91 r92 r93) 80) 13 1), (mwL L w1), wQQ q)) 3 rfl ?_
            refine tv_hI mrI_w_be ?_
            refine tv_b (pc' := 308) (ls' := [some (.ref 80), some (.int 0), some (.int (nI (20 * N + k)))]) (st' := [.int (I 80 14), .ref 82]) (h' := (n, sl, wKK kk, (mrI (stI I r82 (upd r83 (20 * N + k) 0) (upd r84 (20 * N + k) (-1)) (upd r85 (20 * N + k) (nI ce0)) (upd r86 (20 * N + k) (nI ce0))) t1 1 (nI (pa_sk tx T p1)) 1 (nI ce0) dp op om od r87 r88 r89 r90 r91 r92 r93), (mwL L w1), wQQ q)) 7 rfl ?_
            refine tv_top (hN.1) ?_
            refine tv_b (pc' := 309) (ls' := [some (.ref 80), some (.int 0), some (.int (nI (20 * N + k)))]) (st' := [.int (nI N), .ref 82, .int (nI N), .ref 82]) (h' := (n, sl, wKK kk, (mrI (stI I r82 (upd r83 (20 * N + k) 0) (upd r84 (20 * N + k) (-1)) (upd r85 (20 * N + k) (nI ce0)) (upd r86 (20 * N + k) (nI ce0))) t1 1 (nI (pa_sk tx T p1)) 1 (nI ce0) dp op om od r87 r88 r89 r90 r91 r92 r93), (mwL L w1), wQQ q)) 1 rfl ?_
            refine tv_ialN (k := N) rfl (rfl) (⟨by omega, by omega⟩) ?_
            refine tv_top (hk82) ?_
            refine tv_b (pc' := 311) (ls' := [some (.ref 80), some (.int 0), some (.int (nI (20 * N + k)))]) (st' := [.int 1, .int (nI k), .int (nI N), .ref 82]) (h' := (n, sl, wKK kk, (mrI (stI I r82 (upd r83 (20 * N + k) 0) (upd r84 (20 * N + k) (-1)) (upd r85 (20 * N + k) (nI ce0)) (upd r86 (20 * N + k) (nI ce0))) t1 1 (nI (pa_sk tx T p1)) 1 (nI ce0) dp op om od r87 r88 r89 r90 r91 r92 r93), (mwL L w1), wQQ q)) 1 rfl ?_
            refine tv_b (pc' := 312) (ls' := [some (.ref 80), some (.int 0), some (.int (nI (20 * N + k)))]) (st' := [.int ((nI k) + 1), .int (nI N), .ref 82]) (h' := (n, sl, wKK kk, (mrI (stI I r82 (upd r83 (20 * N + k) 0) (upd r84 (20 * N + k) (-1)) (upd r85 (20 * N + k) (nI ce0)) (upd r86 (20 * N + k) (nI ce0))) t1 1 (nI (pa_sk tx T p1)) 1 (nI ce0) dp op om od r87 r88 r89 r90 r91 r92 r93), (mwL L w1), wQQ q)) 1 rfl ?_
            refine tv_top (show (nI k) + 1 = nI (k + 1) from nI_add k 1) ?_
            refine tv_iasN (k := N) rfl (rfl) (⟨by omega, by omega⟩) ?_
            refine tv_hI mrI_w_r82 ?_
            rw [if_neg hk20]
            have e : pa_stmt tx T A = _ := (pa_stmt_3 hlf (by omega)).trans (pa_fin_l (pa_bnd_n (hr1) (pa_bnd_i (pa_ex_f c225))))
            rw [e]
            exact tv_rv rfl ⟨rfl, _, _, rfl, ⟨by decide, by decide, by first | omega | exact pa_sk8 (by omega) hT8⟩, ⟨_, _, _, _, _, _, _, _, _, _, _, _, _, _, _, _, _, _, _, rfl, (fun j hj => by first | rfl | exact upd_n hj), (fun j hj => by refine ⟨?_, ?_, ?_, ?_⟩ <;> first | rfl | exact upd_n (by omega) | (rw [upd_n (by omega), upd_n (by omega)])), (fun j hj => by first | rfl | exact hfm j hj | exact pa_wr_b (by omega))⟩⟩
          · refine tv_b (pc' := 245) (ls' := [some (.ref 80), some (.int 0), some (.int (nI (20 * N + k)))]) (st' := [.ref 80]) (h' := (n, sl, wKK kk, (mrI (stI I r82 (upd r83 (20 * N + k) 0) (upd r84 (20 * N + k) (-1)) r85 r86) t1 0 (-1) 0 (nI ce0) dp op om od r87 r88 r89 r90 r91 r92 r93), (mwL L w1), wQQ q)) 4 rfl ?_
            refine tv_cv [] [] rfl rfl (by omega) rfl (Nat.le_of_ble_eq_true rfl) (Nat.le_of_ble_eq_true rfl) (Or.inr (Or.inr rfl)) (tv_mr_nx hR (by omega) ht1) ?_
            rintro rv9 h9 ⟨rfl, ⟨f2, tf2, w2, hr2, hf2, rfl⟩ | ⟨p2, t2, w2, hr2, hq2, hp2, ht2, rfl⟩⟩
            · refine tv_b (pc' := 257) (ls' := [some (.ref 80), some (.int 0), some (.int (nI (20 * N + k)))]) (st' := [.int (nI ce0), .int (nI (20 * N + k)), .ref 85]) (h' := (n, sl, wKK kk, (mrI (stI I r82 (upd r83 (20 * N + k) 0) (upd r84 (20 * N + k) (-1)) r85 r86) tf2 1 (nI f2) 0 (nI ce0) dp op om od r87 r88 r89 r90 r91 r92 r93), (mwL L w2), wQQ q)) 5 rfl ?_
              refine tv_iasN (k := (20 * N + k)) rfl (rfl) (⟨by omega, by omega⟩) ?_
              refine tv_hI mrI_w_r85 ?_
              refine tv_b (pc' := 269) (ls' := [some (.ref 80), some (.int 0), some (.int (nI (20 * N + k)))]) (st' := [.int 1, .ref 80]) (h' := (n, sl, wKK kk, (mrI (stI I r82 (upd r83 (20 * N + k) 0) (upd r84 (20 * N + k) (-1)) (upd r85 (20 * N + k) (nI ce0)) r86) tf2 1 (nI f2) 0 (nI ce0) dp op om od r87 r88 r89 r90 r91 r92 r93), (mwL L w2), wQQ q)) 6 rfl ?_
              refine tv_cvE [.int 1] [] rfl rfl (by omega) rfl (Nat.le_of_ble_eq_true rfl) (Nat.le_of_ble_eq_true rfl) (Or.inr (Or.inr rfl)) (ev_mr_readsF (by decide)) ?_
              refine tv_b (pc' := 281) (ls' := [some (.ref 80), some (.int 0), some (.int (nI (20 * N + k)))]) (st' := [.int (nI ce0), .int (nI (20 * N + k)), .ref 86]) (h' := (n, sl, wKK kk, (mrI (stI I r82 (upd r83 (20 * N + k) 0) (upd r84 (20 * N + k) (-1)) (upd r85 (20 * N + k) (nI ce0)) r86) tf2 1 (nI f2) 0 (nI ce0) dp op om od r87 r88 r89 r90 r91 r92 r93), (mwL L w2), wQQ q)) 5 rfl ?_
              refine tv_iasN (k := (20 * N + k)) rfl (rfl) (⟨by omega, by omega⟩) ?_
              refine tv_hI mrI_w_r86 ?_
              refine tv_b (pc' := 287) (ls' := [some (.ref 80), some (.int 0), some (.int (nI (20 * N + k)))]) (st' := []) (h' := (n, sl, wKK kk, va_up (mrI (stI I r82 (upd r83 (20 * N + k) 0) (upd r84 (20 * N + k) (-1)) (upd r85 (20 * N + k) (nI ce0)) (upd r86 (20 * N + k) (nI ce0))) tf2 1 (nI f2) 0 (nI ce0) dp op om od r87 r88 r89 r90 r91 r92 r93) 80 (upd ((mrI (stI I r82 (upd r83 (20 * N + k) 0) (upd r84 (20 * N + k) (-1)) (upd r85 (20 * N + k) (nI ce0)) (upd r86 (20 * N + k) (nI ce0))) tf2 1 (nI f2) 0 (nI ce0) dp op om od r87 r88 r89 r90 r91 r92 r93) 80) 13 1), (mwL L w2), wQQ q)) 3 rfl ?_
              refine tv_hI mrI_w_be ?_
              refine tv_b (pc' := 308) (ls' := [some (.ref 80), some (.int 0), some (.int (nI (20 * N + k)))]) (st' := [.int (I 80 14), .ref 82]) (h' := (n, sl, wKK kk, (mrI (stI I r82 (upd r83 (20 * N + k) 0) (upd r84 (20 * N + k) (-1)) (upd r85 (20 * N + k) (nI ce0)) (upd r86 (20 * N + k) (nI ce0))) tf2 1 (nI f2) 1 (nI ce0) dp op om od r87 r88 r89 r90 r91 r92 r93), (mwL L w2), wQQ q)) 7 rfl ?_
              refine tv_top (hN.1) ?_
              refine tv_b (pc' := 309) (ls' := [some (.ref 80), some (.int 0), some (.int (nI (20 * N + k)))]) (st' := [.int (nI N), .ref 82, .int (nI N), .ref 82]) (h' := (n, sl, wKK kk, (mrI (stI I r82 (upd r83 (20 * N + k) 0) (upd r84 (20 * N + k) (-1)) (upd r85 (20 * N + k) (nI ce0)) (upd r86 (20 * N + k) (nI ce0))) tf2 1 (nI f2) 1 (nI ce0) dp op om od r87 r88 r89 r90 r91 r92 r93), (mwL L w2), wQQ q)) 1 rfl ?_
              refine tv_ialN (k := N) rfl (rfl) (⟨by omega, by omega⟩) ?_
              refine tv_top (hk82) ?_
              refine tv_b (pc' := 311) (ls' := [some (.ref 80), some (.int 0), some (.int (nI (20 * N + k)))]) (st' := [.int 1, .int (nI k), .int (nI N), .ref 82]) (h' := (n, sl, wKK kk, (mrI (stI I r82 (upd r83 (20 * N + k) 0) (upd r84 (20 * N + k) (-1)) (upd r85 (20 * N + k) (nI ce0)) (upd r86 (20 * N + k) (nI ce0))) tf2 1 (nI f2) 1 (nI ce0) dp op om od r87 r88 r89 r90 r91 r92 r93), (mwL L w2), wQQ q)) 1 rfl ?_
              refine tv_b (pc' := 312) (ls' := [some (.ref 80), some (.int 0), some (.int (nI (20 * N + k)))]) (st' := [.int ((nI k) + 1), .int (nI N), .ref 82]) (h' := (n, sl, wKK kk, (mrI (stI I r82 (upd r83 (20 * N + k) 0) (upd r84 (20 * N + k) (-1)) (upd r85 (20 * N + k) (nI ce0)) (upd r86 (20 * N + k) (nI ce0))) tf2 1 (nI f2) 1 (nI ce0) dp op om od r87 r88 r89 r90 r91 r92 r93), (mwL L w2), wQQ q)) 1 rfl ?_
              refine tv_top (show (nI k) + 1 = nI (k + 1) from nI_add k 1) ?_
              refine tv_iasN (k := N) rfl (rfl) (⟨by omega, by omega⟩) ?_
              refine tv_hI mrI_w_r82 ?_
              rw [if_neg hk20]
              have e : pa_stmt tx T A = _ := (pa_stmt_3 hlf (by omega)).trans (pa_fin_l (pa_bnd_n (hr1) (pa_bnd_i ((pa_ex_t c225).trans hr2))))
              rw [e]
              exact tv_rv rfl ⟨rfl, _, _, rfl, ⟨by decide, by decide, by first | omega | exact pa_sk8 (by omega) hT8⟩, ⟨_, _, _, _, _, _, _, _, _, _, _, _, _, _, _, _, _, _, _, rfl, (fun j hj => by first | rfl | exact upd_n hj), (fun j hj => by refine ⟨?_, ?_, ?_, ?_⟩ <;> first | rfl | exact upd_n (by omega) | (rw [upd_n (by omega), upd_n (by omega)])), (fun j hj => by first | rfl | exact hfm j hj | exact pa_wr_b (by omega))⟩⟩
            · have hd2 := pa_tk_lt (b := tx) (n := T) p2
              have hx2 := (pa_ed_le (b := tx) (n := T) (p := p1) (by omega)).2
              refine tv_b (pc' := 257) (ls' := [some (.ref 80), some (.int 0), some (.int (nI (20 * N + k)))]) (st' := [.int (nI ce0), .int (nI (20 * N + k)), .ref 85]) (h' := (n, sl, wKK kk, (mrI (stI I r82 (upd r83 (20 * N + k) 0) (upd r84 (20 * N + k) (-1)) r85 r86) t2 0 (-1) 0 (nI ce0) dp op om od r87 r88 r89 r90 r91 r92 r93), (mwL L w2), wQQ q)) 5 rfl ?_
              refine tv_iasN (k := (20 * N + k)) rfl (rfl) (⟨by omega, by omega⟩) ?_
              refine tv_hI mrI_w_r85 ?_
              refine tv_b (pc' := 269) (ls' := [some (.ref 80), some (.int 0), some (.int (nI (20 * N + k)))]) (st' := [.int 1, .ref 80]) (h' := (n, sl, wKK kk, (mrI (stI I r82 (upd r83 (20 * N + k) 0) (upd r84 (20 * N + k) (-1)) (upd r85 (20 * N + k) (nI ce0)) r86) t2 0 (-1) 0 (nI ce0) dp op om od r87 r88 r89 r90 r91 r92 r93), (mwL L w2), wQQ q)) 6 rfl ?_
              refine tv_cv [.int 1] [] rfl rfl (by omega) rfl (Nat.le_of_ble_eq_true rfl) (Nat.le_of_ble_eq_true rfl) (Or.inr (Or.inr rfl)) (tv_mr_reads (I := (stI I r82 (upd r83 (20 * N + k) 0) (upd r84 (20 * N + k) (-1)) (upd r85 (20 * N + k) (nI ce0)) r86)) hR hN ht2 (pa_nx_lf hr2) (by omega) (by omega) true) ?_
              rintro rv9 h9 ⟨rfl, I9, w0, rfl, hP⟩
              unfold rdwR at hP
              simp only [cond_true, cond_false] at hP
              rcases hb0 : pa_test tx T 8 p2 with ⟨k0, l0⟩ | ⟨p0, cs0⟩ <;> rw [hb0] at hP
              · obtain ⟨hk0, tk0, be0, co0, dp0, op0, om0, od0, s87, s88, s89, s90, s91, s92, s93, rfl, hfm⟩ := hP
                have hk0n : ¬ nI k0 = 0 := fun h => hk0.1 ((nI_eq (a := k0) (b := 0) (by omega) (by omega)).mp h)
                refine tv_b (pc' := 281) (ls' := [some (.ref 80), some (.int 0), some (.int (nI (20 * N + k)))]) (st' := [.int co0, .int (nI (20 * N + k)), .ref 86]) (h' := (n, sl, wKK kk, (mrI (stI I r82 (upd r83 (20 * N + k) 0) (upd r84 (20 * N + k) (-1)) (upd r85 (20 * N + k) (nI ce0)) r86) tk0 (nI k0) (nI l0) be0 co0 dp0 op0 om0 od0 s87 s88 s89 s90 s91 s92 s93), (mwL L w0), wQQ q)) 5 rfl ?_
                refine tv_iasN (k := (20 * N + k)) rfl (rfl) (⟨by omega, by omega⟩) ?_
                refine tv_hI mrI_w_r86 ?_
                refine tv_b (pc' := 287) (ls' := [some (.ref 80), some (.int 0), some (.int (nI (20 * N + k)))]) (st' := []) (h' := (n, sl, wKK kk, va_up (mrI (stI I r82 (upd r83 (20 * N + k) 0) (upd r84 (20 * N + k) (-1)) (upd r85 (20 * N + k) (nI ce0)) (upd r86 (20 * N + k) co0)) tk0 (nI k0) (nI l0) be0 co0 dp0 op0 om0 od0 s87 s88 s89 s90 s91 s92 s93) 80 (upd ((mrI (stI I r82 (upd r83 (20 * N + k) 0) (upd r84 (20 * N + k) (-1)) (upd r85 (20 * N + k) (nI ce0)) (upd r86 (20 * N + k) co0)) tk0 (nI k0) (nI l0) be0 co0 dp0 op0 om0 od0 s87 s88 s89 s90 s91 s92 s93) 80) 13 1), (mwL L w0), wQQ q)) 3 rfl ?_
                refine tv_hI mrI_w_be ?_
                refine tv_b (pc' := (if (nI k0) = 0 then 294 else 300)) (ls' := [some (.ref 80), some (.int 0), some (.int (nI (20 * N + k)))]) (st' := []) (h' := (n, sl, wKK kk, (mrI (stI I r82 (upd r83 (20 * N + k) 0) (upd r84 (20 * N + k) (-1)) (upd r85 (20 * N + k) (nI ce0)) (upd r86 (20 * N + k) co0)) tk0 (nI k0) (nI l0) 1 co0 dp0 op0 om0 od0 s87 s88 s89 s90 s91 s92 s93), (mwL L w0), wQQ q)) 3 rfl ?_
                refine tv_f (hk0n) ?_
                refine tv_b (pc' := 308) (ls' := [some (.ref 80), some (.int 0), some (.int (nI (20 * N + k)))]) (st' := [.int (I 80 14), .ref 82]) (h' := (n, sl, wKK kk, (mrI (stI I r82 (upd r83 (20 * N + k) 0) (upd r84 (20 * N + k) (-1)) (upd r85 (20 * N + k) (nI ce0)) (upd r86 (20 * N + k) co0)) tk0 (nI k0) (nI l0) 1 co0 dp0 op0 om0 od0 s87 s88 s89 s90 s91 s92 s93), (mwL L w0), wQQ q)) 4 rfl ?_
                refine tv_top (hN.1) ?_
                refine tv_b (pc' := 309) (ls' := [some (.ref 80), some (.int 0), some (.int (nI (20 * N + k)))]) (st' := [.int (nI N), .ref 82, .int (nI N), .ref 82]) (h' := (n, sl, wKK kk, (mrI (stI I r82 (upd r83 (20 * N + k) 0) (upd r84 (20 * N + k) (-1)) (upd r85 (20 * N + k) (nI ce0)) (upd r86 (20 * N + k) co0)) tk0 (nI k0) (nI l0) 1 co0 dp0 op0 om0 od0 s87 s88 s89 s90 s91 s92 s93), (mwL L w0), wQQ q)) 1 rfl ?_
                refine tv_ialN (k := N) rfl (rfl) (⟨by omega, by omega⟩) ?_
                refine tv_top (hk82) ?_
                refine tv_b (pc' := 311) (ls' := [some (.ref 80), some (.int 0), some (.int (nI (20 * N + k)))]) (st' := [.int 1, .int (nI k), .int (nI N), .ref 82]) (h' := (n, sl, wKK kk, (mrI (stI I r82 (upd r83 (20 * N + k) 0) (upd r84 (20 * N + k) (-1)) (upd r85 (20 * N + k) (nI ce0)) (upd r86 (20 * N + k) co0)) tk0 (nI k0) (nI l0) 1 co0 dp0 op0 om0 od0 s87 s88 s89 s90 s91 s92 s93), (mwL L w0), wQQ q)) 1 rfl ?_
                refine tv_b (pc' := 312) (ls' := [some (.ref 80), some (.int 0), some (.int (nI (20 * N + k)))]) (st' := [.int ((nI k) + 1), .int (nI N), .ref 82]) (h' := (n, sl, wKK kk, (mrI (stI I r82 (upd r83 (20 * N + k) 0) (upd r84 (20 * N + k) (-1)) (upd r85 (20 * N + k) (nI ce0)) (upd r86 (20 * N + k) co0)) tk0 (nI k0) (nI l0) 1 co0 dp0 op0 om0 od0 s87 s88 s89 s90 s91 s92 s93), (mwL L w0), wQQ q)) 1 rfl ?_
                refine tv_top (show (nI k) + 1 = nI (k + 1) from nI_add k 1) ?_
                refine tv_iasN (k := N) rfl (rfl) (⟨by omega, by omega⟩) ?_
                refine tv_hI mrI_w_r82 ?_
                rw [if_neg hk20]
                have e : pa_stmt tx T A = _ := (pa_stmt_3 hlf (by omega)).trans (pa_fin_l (pa_bnd_n (hr1) (pa_bnd_n (((pa_ex_t c225).trans hr2)) hb0)))
                rw [e]
                exact tv_rv rfl ⟨rfl, _, _, rfl, hk0, ⟨_, _, _, _, _, _, _, _, _, _, _, _, _, _, _, _, _, _, _, rfl, (fun j hj => by first | rfl | exact upd_n hj), (fun j hj => by refine ⟨?_, ?_, ?_, ?_⟩ <;> first | rfl | exact upd_n (by omega) | (rw [upd_n (by omega), upd_n (by omega)])), (fun j hj => by first | rfl | exact hfm j hj | exact pa_wr_b (by omega))⟩⟩
              · obtain ⟨rs, tk0, dp0, op0, om0, od0, s88, s89, s90, s91, s92, s93, rfl, ht0, hE, hlt0, hcl0, hpT0⟩ := hP
                refine tv_b (pc' := 281) (ls' := [some (.ref 80), some (.int 0), some (.int (nI (20 * N + k)))]) (st' := [.int (nI (ce0 + rs.length)), .int (nI (20 * N + k)), .ref 86]) (h' := (n, sl, wKK kk, (mrI (stI I r82 (upd r83 (20 * N + k) 0) (upd r84 (20 * N + k) (-1)) (upd r85 (20 * N + k) (nI ce0)) r86) tk0 0 (-1) 0 (nI (ce0 + rs.length)) dp0 op0 om0 od0 (pa_wr r87 (800 * N + ce0) (rs.map menc)) s88 s89 s90 s91 s92 s93), (mwL L w0), wQQ q)) 5 rfl ?_
                refine tv_iasN (k := (20 * N + k)) rfl (rfl) (⟨by omega, by omega⟩) ?_
                refine tv_hI mrI_w_r86 ?_
                refine tv_b (pc' := 287) (ls' := [some (.ref 80), some (.int 0), some (.int (nI (20 * N + k)))]) (st' := []) (h' := (n, sl, wKK kk, va_up (mrI (stI I r82 (upd r83 (20 * N + k) 0) (upd r84 (20 * N + k) (-1)) (upd r85 (20 * N + k) (nI ce0)) (upd r86 (20 * N + k) (nI (ce0 + rs.length)))) tk0 0 (-1) 0 (nI (ce0 + rs.length)) dp0 op0 om0 od0 (pa_wr r87 (800 * N + ce0) (rs.map menc)) s88 s89 s90 s91 s92 s93) 80 (upd ((mrI (stI I r82 (upd r83 (20 * N + k) 0) (upd r84 (20 * N + k) (-1)) (upd r85 (20 * N + k) (nI ce0)) (upd r86 (20 * N + k) (nI (ce0 + rs.length)))) tk0 0 (-1) 0 (nI (ce0 + rs.length)) dp0 op0 om0 od0 (pa_wr r87 (800 * N + ce0) (rs.map menc)) s88 s89 s90 s91 s92 s93) 80) 13 1), (mwL L w0), wQQ q)) 3 rfl ?_
                refine tv_hI mrI_w_be ?_
                refine tv_b (pc' := 297) (ls' := [some (.ref 80), some (.int 0), some (.int (nI (20 * N + k)))]) (st' := [.int 59, .ref 80]) (h' := (n, sl, wKK kk, (mrI (stI I r82 (upd r83 (20 * N + k) 0) (upd r84 (20 * N + k) (-1)) (upd r85 (20 * N + k) (nI ce0)) (upd r86 (20 * N + k) (nI (ce0 + rs.length)))) tk0 0 (-1) 1 (nI (ce0 + rs.length)) dp0 op0 om0 od0 (pa_wr r87 (800 * N + ce0) (rs.map menc)) s88 s89 s90 s91 s92 s93), (mwL L w0), wQQ q)) 5 rfl ?_
                refine tv_cv [.int 59] [] rfl rfl (by omega) rfl (Nat.le_of_ble_eq_true rfl) (Nat.le_of_ble_eq_true rfl) (Or.inr (Or.inr rfl)) (tv_mr_must (I := (stI I r82 (upd r83 (20 * N + k) 0) (upd r84 (20 * N + k) (-1)) (upd r85 (20 * N + k) (nI ce0)) (upd r86 (20 * N + k) (nI (ce0 + rs.length))))) hR hpT0 ht0) ?_
                rintro rv9 h9 ⟨rfl, ⟨h37, rfl⟩ | ⟨h37, tk9, fk9, fp9, w9, rfl, hn9⟩⟩
                · refine tv_b (pc' := 308) (ls' := [some (.ref 80), some (.int 0), some (.int (nI (20 * N + k)))]) (st' := [.int (I 80 14), .ref 82]) (h' := (n, sl, wKK kk, (mrI (stI I r82 (upd r83 (20 * N + k) 0) (upd r84 (20 * N + k) (-1)) (upd r85 (20 * N + k) (nI ce0)) (upd r86 (20 * N + k) (nI (ce0 + rs.length)))) tk0 1 (nI (pa_sk tx T p0)) 1 (nI (ce0 + rs.length)) dp0 op0 om0 od0 (pa_wr r87 (800 * N + ce0) (rs.map menc)) s88 s89 s90 s91 s92 s93), (mwL L w0), wQQ q)) 4 rfl ?_
                  refine tv_top (hN.1) ?_
                  refine tv_b (pc' := 309) (ls' := [some (.ref 80), some (.int 0), some (.int (nI (20 * N + k)))]) (st' := [.int (nI N), .ref 82, .int (nI N), .ref 82]) (h' := (n, sl, wKK kk, (mrI (stI I r82 (upd r83 (20 * N + k) 0) (upd r84 (20 * N + k) (-1)) (upd r85 (20 * N + k) (nI ce0)) (upd r86 (20 * N + k) (nI (ce0 + rs.length)))) tk0 1 (nI (pa_sk tx T p0)) 1 (nI (ce0 + rs.length)) dp0 op0 om0 od0 (pa_wr r87 (800 * N + ce0) (rs.map menc)) s88 s89 s90 s91 s92 s93), (mwL L w0), wQQ q)) 1 rfl ?_
                  refine tv_ialN (k := N) rfl (rfl) (⟨by omega, by omega⟩) ?_
                  refine tv_top (hk82) ?_
                  refine tv_b (pc' := 311) (ls' := [some (.ref 80), some (.int 0), some (.int (nI (20 * N + k)))]) (st' := [.int 1, .int (nI k), .int (nI N), .ref 82]) (h' := (n, sl, wKK kk, (mrI (stI I r82 (upd r83 (20 * N + k) 0) (upd r84 (20 * N + k) (-1)) (upd r85 (20 * N + k) (nI ce0)) (upd r86 (20 * N + k) (nI (ce0 + rs.length)))) tk0 1 (nI (pa_sk tx T p0)) 1 (nI (ce0 + rs.length)) dp0 op0 om0 od0 (pa_wr r87 (800 * N + ce0) (rs.map menc)) s88 s89 s90 s91 s92 s93), (mwL L w0), wQQ q)) 1 rfl ?_
                  refine tv_b (pc' := 312) (ls' := [some (.ref 80), some (.int 0), some (.int (nI (20 * N + k)))]) (st' := [.int ((nI k) + 1), .int (nI N), .ref 82]) (h' := (n, sl, wKK kk, (mrI (stI I r82 (upd r83 (20 * N + k) 0) (upd r84 (20 * N + k) (-1)) (upd r85 (20 * N + k) (nI ce0)) (upd r86 (20 * N + k) (nI (ce0 + rs.length)))) tk0 1 (nI (pa_sk tx T p0)) 1 (nI (ce0 + rs.length)) dp0 op0 om0 od0 (pa_wr r87 (800 * N + ce0) (rs.map menc)) s88 s89 s90 s91 s92 s93), (mwL L w0), wQQ q)) 1 rfl ?_
                  refine tv_top (show (nI k) + 1 = nI (k + 1) from nI_add k 1) ?_
                  refine tv_iasN (k := N) rfl (rfl) (⟨by omega, by omega⟩) ?_
                  refine tv_hI mrI_w_r82 ?_
                  rw [if_neg hk20]
                  have e : pa_stmt tx T A = _ := (pa_stmt_3 hlf (by omega)).trans (pa_fin_1 (pa_bnd_o (hr1) (pa_bnd_o (((pa_ex_t c225).trans hr2)) hb0)) h37)
                  rw [e]
                  exact tv_rv rfl ⟨rfl, _, _, rfl, ⟨by decide, by decide, by first | omega | exact pa_sk8 (by omega) hT8⟩, ⟨_, _, _, _, _, _, _, _, _, _, _, _, _, _, _, _, _, _, _, rfl, (fun j hj => by first | rfl | exact upd_n hj), (fun j hj => by refine ⟨?_, ?_, ?_, ?_⟩ <;> first | rfl | exact upd_n (by omega) | (rw [upd_n (by omega), upd_n (by omega)])), (fun j hj => by first | rfl | exact hfm j hj | exact pa_wr_b (by omega))⟩⟩
                · refine tv_b (pc' := 308) (ls' := [some (.ref 80), some (.int 0), some (.int (nI (20 * N + k)))]) (st' := [.int (I 80 14), .ref 82]) (h' := (n, sl, wKK kk, (mrI (stI I r82 (upd r83 (20 * N + k) 0) (upd r84 (20 * N + k) (-1)) (upd r85 (20 * N + k) (nI ce0)) (upd r86 (20 * N + k) (nI (ce0 + rs.length)))) tk9 fk9 fp9 1 (nI (ce0 + rs.length)) dp0 op0 om0 od0 (pa_wr r87 (800 * N + ce0) (rs.map menc)) s88 s89 s90 s91 s92 s93), (mwL L w9), wQQ q)) 4 rfl ?_
                  refine tv_top (hN.1) ?_
                  refine tv_b (pc' := 309) (ls' := [some (.ref 80), some (.int 0), some (.int (nI (20 * N + k)))]) (st' := [.int (nI N), .ref 82, .int (nI N), .ref 82]) (h' := (n, sl, wKK kk, (mrI (stI I r82 (upd r83 (20 * N + k) 0) (upd r84 (20 * N + k) (-1)) (upd r85 (20 * N + k) (nI ce0)) (upd r86 (20 * N + k) (nI (ce0 + rs.length)))) tk9 fk9 fp9 1 (nI (ce0 + rs.length)) dp0 op0 om0 od0 (pa_wr r87 (800 * N + ce0) (rs.map menc)) s88 s89 s90 s91 s92 s93), (mwL L w9), wQQ q)) 1 rfl ?_
                  refine tv_ialN (k := N) rfl (rfl) (⟨by omega, by omega⟩) ?_
                  refine tv_top (hk82) ?_
                  refine tv_b (pc' := 311) (ls' := [some (.ref 80), some (.int 0), some (.int (nI (20 * N + k)))]) (st' := [.int 1, .int (nI k), .int (nI N), .ref 82]) (h' := (n, sl, wKK kk, (mrI (stI I r82 (upd r83 (20 * N + k) 0) (upd r84 (20 * N + k) (-1)) (upd r85 (20 * N + k) (nI ce0)) (upd r86 (20 * N + k) (nI (ce0 + rs.length)))) tk9 fk9 fp9 1 (nI (ce0 + rs.length)) dp0 op0 om0 od0 (pa_wr r87 (800 * N + ce0) (rs.map menc)) s88 s89 s90 s91 s92 s93), (mwL L w9), wQQ q)) 1 rfl ?_
                  refine tv_b (pc' := 312) (ls' := [some (.ref 80), some (.int 0), some (.int (nI (20 * N + k)))]) (st' := [.int ((nI k) + 1), .int (nI N), .ref 82]) (h' := (n, sl, wKK kk, (mrI (stI I r82 (upd r83 (20 * N + k) 0) (upd r84 (20 * N + k) (-1)) (upd r85 (20 * N + k) (nI ce0)) (upd r86 (20 * N + k) (nI (ce0 + rs.length)))) tk9 fk9 fp9 1 (nI (ce0 + rs.length)) dp0 op0 om0 od0 (pa_wr r87 (800 * N + ce0) (rs.map menc)) s88 s89 s90 s91 s92 s93), (mwL L w9), wQQ q)) 1 rfl ?_
                  refine tv_top (show (nI k) + 1 = nI (k + 1) from nI_add k 1) ?_
                  refine tv_iasN (k := N) rfl (rfl) (⟨by omega, by omega⟩) ?_
                  refine tv_hI mrI_w_r82 ?_
                  rw [if_neg hk20]
                  have e : pa_stmt tx T A = _ := (pa_stmt_3 hlf (by omega)).trans (pa_fin_r (pa_bnd_o (hr1) (pa_bnd_o (((pa_ex_t c225).trans hr2)) hb0)) h37)
                  rw [e]
                  have hg9 := pa_ed_gt (b := tx) (n := T) (p := p0) (by omega)
                  exact tv_rv rfl ⟨rfl, _, _, rfl, rs, _, _, _, _, _, _, _, _, _, _, _, _, _, rfl, hE, hg9.2, by omega, by decide, hn9, pa_semi h37⟩
      · show am_T _ _ 0 [some (.ref 80), none, none] _ _ _
        refine tv_b (pc' := 8) (ls' := [some (.ref 80), none, none]) (st' := [.int (I 80 14), .ref 82]) (h' := (n, sl, wKK kk, (mrI (stI I r82 r83 r84 r85 r86) tk 0 (-1) 1 (nI ce0) dp op om od r87 r88 r89 r90 r91 r92 r93), (mwL L w), wQQ q)) 4 rfl ?_
        refine tv_top (hN.1) ?_
        refine tv_ialN (k := N) rfl (rfl) (⟨by omega, by omega⟩) ?_
        refine tv_top (hk82) ?_
        refine tv_b (pc' := (if (nI k) = 20 then 14 else 23)) (ls' := [some (.ref 80), none, none]) (st' := []) (h' := (n, sl, wKK kk, (mrI (stI I r82 r83 r84 r85 r86) tk 0 (-1) 1 (nI ce0) dp op om od r87 r88 r89 r90 r91 r92 r93), (mwL L w), wQQ q)) 2 rfl ?_
        refine tv_f (fun hq => absurd ((nI_eq (a := k) (b := 20) (by omega) (by omega)).mp hq) (by omega)) ?_
        refine tv_b (pc' := 27) (ls' := [some (.ref 80), none, none]) (st' := [.int (tk 12)]) (h' := (n, sl, wKK kk, (mrI (stI I r82 r83 r84 r85 r86) tk 0 (-1) 1 (nI ce0) dp op om od r87 r88 r89 r90 r91 r92 r93), (mwL L w), wQQ q)) 2 rfl ?_
        refine tv_top (hB.1) ?_
        refine tv_b (pc' := 53) (ls' := [some (.ref 80), none, none]) (st' := []) (h' := (n, sl, wKK kk, va_up (mrI (stI I r82 r83 r84 r85 r86) tk 0 (-1) 1 (nI ce0) dp op om od r87 r88 r89 r90 r91 r92 r93) 80 (upd ((mrI (stI I r82 r83 r84 r85 r86) tk 0 (-1) 1 (nI ce0) dp op om od r87 r88 r89 r90 r91 r92 r93) 80) 13 0), (mwL L w), wQQ q)) 8 rfl ?_
        refine tv_hI mrI_w_be ?_
        refine tv_b (pc' := 57) (ls' := [some (.ref 80), none, none]) (st' := [.long 1937010544, .ref 80]) (h' := (n, sl, wKK kk, (mrI (stI I r82 r83 r84 r85 r86) tk 0 (-1) 0 (nI ce0) dp op om od r87 r88 r89 r90 r91 r92 r93), (mwL L w), wQQ q)) 2 rfl ?_
        refine tv_cvE [.long 1937010544] [] rfl rfl (by omega) rfl (Nat.le_of_ble_eq_true rfl) (Nat.le_of_ble_eq_true rfl) (Or.inr (Or.inr rfl)) (ev_mr_isW ht (by decide) mw_3) ?_
        refine tv_b (pc' := (if (if pa_tk tx T A = 3 then 1 else 0) = 0 then 67 else 63)) (ls' := [some (.ref 80), none, none]) (st' := []) (h' := (n, sl, wKK kk, (mrI (stI I r82 r83 r84 r85 r86) tk 0 (-1) 0 (nI ce0) dp op om od r87 r88 r89 r90 r91 r92 r93), (mwL L w), wQQ q)) 1 rfl ?_
        refine tv_b0f (by omega) ?_
        refine tv_b (pc' := 71) (ls' := [some (.ref 80), none, none]) (st' := [.long 418430873463, .ref 80]) (h' := (n, sl, wKK kk, (mrI (stI I r82 r83 r84 r85 r86) tk 0 (-1) 0 (nI ce0) dp op om od r87 r88 r89 r90 r91 r92 r93), (mwL L w), wQQ q)) 2 rfl ?_
        refine tv_cvE [.long 418430873463] [] rfl rfl (by omega) rfl (Nat.le_of_ble_eq_true rfl) (Nat.le_of_ble_eq_true rfl) (Or.inr (Or.inr rfl)) (ev_mr_isW ht (by decide) mw_4) ?_
        refine tv_b (pc' := (if (if pa_tk tx T A = 4 then 1 else 0) = 0 then 81 else 77)) (ls' := [some (.ref 80), none, none]) (st' := []) (h' := (n, sl, wKK kk, (mrI (stI I r82 r83 r84 r85 r86) tk 0 (-1) 0 (nI ce0) dp op om od r87 r88 r89 r90 r91 r92 r93), (mwL L w), wQQ q)) 1 rfl ?_
        refine tv_b0t (by omega) ?_
        refine tv_b (pc' := 125) (ls' := [some (.ref 80), some (.int 1), none]) (st' := [.int (I 80 14), .int 20]) (h' := (n, sl, wKK kk, (mrI (stI I r82 r83 r84 r85 r86) tk 0 (-1) 0 (nI ce0) dp op om od r87 r88 r89 r90 r91 r92 r93), (mwL L w), wQQ q)) 12 rfl ?_
        refine tv_top (hN.1) ?_
        refine tv_b (pc' := 126) (ls' := [some (.ref 80), some (.int 1), none]) (st' := [.int (20 * (nI N))]) (h' := (n, sl, wKK kk, (mrI (stI I r82 r83 r84 r85 r86) tk 0 (-1) 0 (nI ce0) dp op om od r87 r88 r89 r90 r91 r92 r93), (mwL L w), wQQ q)) 1 rfl ?_
        refine tv_top (show 20 * (nI N) = nI (20 * N) from nI_mul 20 N) ?_
        refine tv_b (pc' := 134) (ls' := [some (.ref 80), some (.int 1), none]) (st' := [.int (I 80 14), .ref 82, .int (nI (20 * N))]) (h' := (n, sl, wKK kk, (mrI (stI I r82 r83 r84 r85 r86) tk 0 (-1) 0 (nI ce0) dp op om od r87 r88 r89 r90 r91 r92 r93), (mwL L w), wQQ q)) 4 rfl ?_
        refine tv_top (hN.1) ?_
        refine tv_ialN (k := N) rfl (rfl) (⟨by omega, by omega⟩) ?_
        refine tv_top (hk82) ?_
        refine tv_b (pc' := 136) (ls' := [some (.ref 80), some (.int 1), none]) (st' := [.int ((nI (20 * N)) + (nI k))]) (h' := (n, sl, wKK kk, (mrI (stI I r82 r83 r84 r85 r86) tk 0 (-1) 0 (nI ce0) dp op om od r87 r88 r89 r90 r91 r92 r93), (mwL L w), wQQ q)) 1 rfl ?_
        refine tv_top (show (nI (20 * N)) + (nI k) = nI ((20 * N) + k) from nI_add (20 * N) k) ?_
        refine tv_b (pc' := 138) (ls' := [some (.ref 80), some (.int 1), some (.int (nI (20 * N + k)))]) (st' := [.ref 80]) (h' := (n, sl, wKK kk, (mrI (stI I r82 r83 r84 r85 r86) tk 0 (-1) 0 (nI ce0) dp op om od r87 r88 r89 r90 r91 r92 r93), (mwL L w), wQQ q)) 2 rfl ?_
        refine tv_cv [] [] rfl rfl (by omega) rfl (Nat.le_of_ble_eq_true rfl) (Nat.le_of_ble_eq_true rfl) (Or.inr (Or.inr rfl)) (tv_mr_nx hR (by omega) ht) ?_
        rintro rv9 h9 ⟨rfl, ⟨f1, tf1, w1, hr1, hf1, rfl⟩ | ⟨p1, t1, w1, hr1, hq1, hp1, ht1, rfl⟩⟩
        · refine tv_b (pc' := 147) (ls' := [some (.ref 80), some (.int 1), some (.int (nI (20 * N + k)))]) (st' := [.int 1, .int (nI (20 * N + k)), .ref 83]) (h' := (n, sl, wKK kk, (mrI (stI I r82 r83 r84 r85 r86) tf1 1 (nI f1) 0 (nI ce0) dp op om od r87 r88 r89 r90 r91 r92 r93), (mwL L w1), wQQ q)) 4 rfl ?_
          refine tv_iasN (k := (20 * N + k)) rfl (rfl) (⟨by omega, by omega⟩) ?_
          refine tv_hI mrI_w_r83 ?_
          refine tv_b (pc' := 154) (ls' := [some (.ref 80), some (.int 1), some (.int (nI (20 * N + k)))]) (st' := [.int (-1), .int (nI (20 * N + k)), .ref 84]) (h' := (n, sl, wKK kk, (mrI (stI I r82 (upd r83 (20 * N + k) 1) r84 r85 r86) tf1 1 (nI f1) 0 (nI ce0) dp op om od r87 r88 r89 r90 r91 r92 r93), (mwL L w1), wQQ q)) 4 rfl ?_
          refine tv_iasN (k := (20 * N + k)) rfl (rfl) (⟨by omega, by omega⟩) ?_
          refine tv_hI mrI_w_r84 ?_
          refine tv_b (pc' := 257) (ls' := [some (.ref 80), some (.int 1), some (.int (nI (20 * N + k)))]) (st' := [.int (nI ce0), .int (nI (20 * N + k)), .ref 85]) (h' := (n, sl, wKK kk, (mrI (stI I r82 (upd r83 (20 * N + k) 1) (upd r84 (20 * N + k) (-1)) r85 r86) tf1 1 (nI f1) 0 (nI ce0) dp op om od r87 r88 r89 r90 r91 r92 r93), (mwL L w1), wQQ q)) 16 rfl ?_
          refine tv_iasN (k := (20 * N + k)) rfl (rfl) (⟨by omega, by omega⟩) ?_
          refine tv_hI mrI_w_r85 ?_
          refine tv_b (pc' := 269) (ls' := [some (.ref 80), some (.int 1), some (.int (nI (20 * N + k)))]) (st' := [.int 1, .ref 80]) (h' := (n, sl, wKK kk, (mrI (stI I r82 (upd r83 (20 * N + k) 1) (upd r84 (20 * N + k) (-1)) (upd r85 (20 * N + k) (nI ce0)) r86) tf1 1 (nI f1) 0 (nI ce0) dp op om od r87 r88 r89 r90 r91 r92 r93), (mwL L w1), wQQ q)) 6 rfl ?_
          refine tv_cvE [.int 1] [] rfl rfl (by omega) rfl (Nat.le_of_ble_eq_true rfl) (Nat.le_of_ble_eq_true rfl) (Or.inr (Or.inr rfl)) (ev_mr_readsF (by decide)) ?_
          refine tv_b (pc' := 281) (ls' := [some (.ref 80), some (.int 1), some (.int (nI (20 * N + k)))]) (st' := [.int (nI ce0), .int (nI (20 * N + k)), .ref 86]) (h' := (n, sl, wKK kk, (mrI (stI I r82 (upd r83 (20 * N + k) 1) (upd r84 (20 * N + k) (-1)) (upd r85 (20 * N + k) (nI ce0)) r86) tf1 1 (nI f1) 0 (nI ce0) dp op om od r87 r88 r89 r90 r91 r92 r93), (mwL L w1), wQQ q)) 5 rfl ?_
          refine tv_iasN (k := (20 * N + k)) rfl (rfl) (⟨by omega, by omega⟩) ?_
          refine tv_hI mrI_w_r86 ?_
          refine tv_b (pc' := 287) (ls' := [some (.ref 80), some (.int 1), some (.int (nI (20 * N + k)))]) (st' := []) (h' := (n, sl, wKK kk, va_up (mrI (stI I r82 (upd r83 (20 * N + k) 1) (upd r84 (20 * N + k) (-1)) (upd r85 (20 * N + k) (nI ce0)) (upd r86 (20 * N + k) (nI ce0))) tf1 1 (nI f1) 0 (nI ce0) dp op om od r87 r88 r89 r90 r91 r92 r93) 80 (upd ((mrI (stI I r82 (upd r83 (20 * N + k) 1) (upd r84 (20 * N + k) (-1)) (upd r85 (20 * N + k) (nI ce0)) (upd r86 (20 * N + k) (nI ce0))) tf1 1 (nI f1) 0 (nI ce0) dp op om od r87 r88 r89 r90 r91 r92 r93) 80) 13 1), (mwL L w1), wQQ q)) 3 rfl ?_
          refine tv_hI mrI_w_be ?_
          refine tv_b (pc' := 308) (ls' := [some (.ref 80), some (.int 1), some (.int (nI (20 * N + k)))]) (st' := [.int (I 80 14), .ref 82]) (h' := (n, sl, wKK kk, (mrI (stI I r82 (upd r83 (20 * N + k) 1) (upd r84 (20 * N + k) (-1)) (upd r85 (20 * N + k) (nI ce0)) (upd r86 (20 * N + k) (nI ce0))) tf1 1 (nI f1) 1 (nI ce0) dp op om od r87 r88 r89 r90 r91 r92 r93), (mwL L w1), wQQ q)) 7 rfl ?_
          refine tv_top (hN.1) ?_
          refine tv_b (pc' := 309) (ls' := [some (.ref 80), some (.int 1), some (.int (nI (20 * N + k)))]) (st' := [.int (nI N), .ref 82, .int (nI N), .ref 82]) (h' := (n, sl, wKK kk, (mrI (stI I r82 (upd r83 (20 * N + k) 1) (upd r84 (20 * N + k) (-1)) (upd r85 (20 * N + k) (nI ce0)) (upd r86 (20 * N + k) (nI ce0))) tf1 1 (nI f1) 1 (nI ce0) dp op om od r87 r88 r89 r90 r91 r92 r93), (mwL L w1), wQQ q)) 1 rfl ?_
          refine tv_ialN (k := N) rfl (rfl) (⟨by omega, by omega⟩) ?_
          refine tv_top (hk82) ?_
          refine tv_b (pc' := 311) (ls' := [some (.ref 80), some (.int 1), some (.int (nI (20 * N + k)))]) (st' := [.int 1, .int (nI k), .int (nI N), .ref 82]) (h' := (n, sl, wKK kk, (mrI (stI I r82 (upd r83 (20 * N + k) 1) (upd r84 (20 * N + k) (-1)) (upd r85 (20 * N + k) (nI ce0)) (upd r86 (20 * N + k) (nI ce0))) tf1 1 (nI f1) 1 (nI ce0) dp op om od r87 r88 r89 r90 r91 r92 r93), (mwL L w1), wQQ q)) 1 rfl ?_
          refine tv_b (pc' := 312) (ls' := [some (.ref 80), some (.int 1), some (.int (nI (20 * N + k)))]) (st' := [.int ((nI k) + 1), .int (nI N), .ref 82]) (h' := (n, sl, wKK kk, (mrI (stI I r82 (upd r83 (20 * N + k) 1) (upd r84 (20 * N + k) (-1)) (upd r85 (20 * N + k) (nI ce0)) (upd r86 (20 * N + k) (nI ce0))) tf1 1 (nI f1) 1 (nI ce0) dp op om od r87 r88 r89 r90 r91 r92 r93), (mwL L w1), wQQ q)) 1 rfl ?_
          refine tv_top (show (nI k) + 1 = nI (k + 1) from nI_add k 1) ?_
          refine tv_iasN (k := N) rfl (rfl) (⟨by omega, by omega⟩) ?_
          refine tv_hI mrI_w_r82 ?_
          rw [if_neg hk20]
          have e : pa_stmt tx T A = _ := (pa_stmt_4 hlf (by omega)).trans (pa_fin_l (pa_bnd_i hr1))
          rw [e]
          exact tv_rv rfl ⟨rfl, _, _, rfl, ⟨by decide, by decide, by first | omega | exact pa_sk8 (by omega) hT8⟩, ⟨_, _, _, _, _, _, _, _, _, _, _, _, _, _, _, _, _, _, _, rfl, (fun j hj => by first | rfl | exact upd_n hj), (fun j hj => by refine ⟨?_, ?_, ?_, ?_⟩ <;> first | rfl | exact upd_n (by omega) | (rw [upd_n (by omega), upd_n (by omega)])), (fun j hj => by first | rfl | exact hfm j hj | exact pa_wr_b (by omega))⟩⟩
        · have hd1 := pa_tk_lt (b := tx) (n := T) p1
          have hx1 := (pa_ed_le (b := tx) (n := T) (p := A) (by omega)).2
          refine tv_b (pc' := 147) (ls' := [some (.ref 80), some (.int 1), some (.int (nI (20 * N + k)))]) (st' := [.int 1, .int (nI (20 * N + k)), .ref 83]) (h' := (n, sl, wKK kk, (mrI (stI I r82 r83 r84 r85 r86) t1 0 (-1) 0 (nI ce0) dp op om od r87 r88 r89 r90 r91 r92 r93), (mwL L w1), wQQ q)) 4 rfl ?_
          refine tv_iasN (k := (20 * N + k)) rfl (rfl) (⟨by omega, by omega⟩) ?_
          refine tv_hI mrI_w_r83 ?_
          refine tv_b (pc' := 154) (ls' := [some (.ref 80), some (.int 1), some (.int (nI (20 * N + k)))]) (st' := [.int (-1), .int (nI (20 * N + k)), .ref 84]) (h' := (n, sl, wKK kk, (mrI (stI I r82 (upd r83 (20 * N + k) 1) r84 r85 r86) t1 0 (-1) 0 (nI ce0) dp op om od r87 r88 r89 r90 r91 r92 r93), (mwL L w1), wQQ q)) 4 rfl ?_
          refine tv_iasN (k := (20 * N + k)) rfl (rfl) (⟨by omega, by omega⟩) ?_
          refine tv_hI mrI_w_r84 ?_
          refine tv_b (pc' := 172) (ls' := [some (.ref 80), some (.int 1), some (.int (nI (20 * N + k)))]) (st' := [.ref 80, .int (nI (20 * N + k)), .ref 84]) (h' := (n, sl, wKK kk, (mrI (stI I r82 (upd r83 (20 * N + k) 1) (upd r84 (20 * N + k) (-1)) r85 r86) t1 0 (-1) 0 (nI ce0) dp op om od r87 r88 r89 r90 r91 r92 r93), (mwL L w1), wQQ q)) 9 rfl ?_
          by_cases hw2 : pa_tk tx T p1 ≤ 2
          · refine tv_cvE [] [.int (nI (20 * N + k)), .ref 84] rfl rfl (by omega) rfl (Nat.le_of_ble_eq_true rfl) (Nat.le_of_ble_eq_true rfl) (Or.inr (Or.inr rfl)) (ev_mr_work1 ht1 hw2) ?_
            refine tv_iasN (k := (20 * N + k)) rfl (rfl) (⟨by omega, by omega⟩) ?_
            refine tv_hI mrI_w_r84 ?_
            refine tv_b (pc' := 181) (ls' := [some (.ref 80), some (.int 1), some (.int (nI (20 * N + k)))]) (st' := [.int (nI (20 * N + k)), .ref 84]) (h' := (n, sl, wKK kk, (mrI (stI I r82 (upd r83 (20 * N + k) 1) (upd (upd r84 (20 * N + k) (-1)) (20 * N + k) (nI (pa_tk tx T p1))) r85 r86) t1 0 (-1) 0 (nI ce0) dp op om od r87 r88 r89 r90 r91 r92 r93), (mwL L w1), wQQ q)) 3 rfl ?_
            refine tv_ialN (k := (20 * N + k)) rfl (rfl) (⟨by omega, by omega⟩) ?_
            refine tv_top (upd_e) ?_
            refine tv_b (pc' := (if (nI (pa_tk tx T p1)) = (-1) then 186 else 195)) (ls' := [some (.ref 80), some (.int 1), some (.int (nI (20 * N + k)))]) (st' := []) (h' := (n, sl, wKK kk, (mrI (stI I r82 (upd r83 (20 * N + k) 1) (upd (upd r84 (20 * N + k) (-1)) (20 * N + k) (nI (pa_tk tx T p1))) r85 r86) t1 0 (-1) 0 (nI ce0) dp op om od r87 r88 r89 r90 r91 r92 r93), (mwL L w1), wQQ q)) 2 rfl ?_
            refine tv_f (mr_nI_ne (by omega)) ?_
            refine tv_b (pc' := 203) (ls' := [some (.ref 80), some (.int 1), some (.int (nI (20 * N + k)))]) (st' := [.ref 80]) (h' := (n, sl, wKK kk, (mrI (stI I r82 (upd r83 (20 * N + k) 1) (upd (upd r84 (20 * N + k) (-1)) (20 * N + k) (nI (pa_tk tx T p1))) r85 r86) t1 0 (-1) 0 (nI ce0) dp op om od r87 r88 r89 r90 r91 r92 r93), (mwL L w1), wQQ q)) 4 rfl ?_
            refine tv_cv [] [] rfl rfl (by omega) rfl (Nat.le_of_ble_eq_true rfl) (Nat.le_of_ble_eq_true rfl) (Or.inr (Or.inr rfl)) (tv_mr_nx hR (by omega) ht1) ?_
            rintro rv9 h9 ⟨rfl, ⟨f2, tf2, w2, hr2, hf2, rfl⟩ | ⟨p2, t2, w2, hr2, hq2, hp2, ht2, rfl⟩⟩
            · refine tv_b (pc' := 257) (ls' := [some (.ref 80), some (.int 1), some (.int (nI (20 * N + k)))]) (st' := [.int (nI ce0), .int (nI (20 * N + k)), .ref 85]) (h' := (n, sl, wKK kk, (mrI (stI I r82 (upd r83 (20 * N + k) 1) (upd (upd r84 (20 * N + k) (-1)) (20 * N + k) (nI (pa_tk tx T p1))) r85 r86) tf2 1 (nI f2) 0 (nI ce0) dp op om od r87 r88 r89 r90 r91 r92 r93), (mwL L w2), wQQ q)) 11 rfl ?_
              refine tv_iasN (k := (20 * N + k)) rfl (rfl) (⟨by omega, by omega⟩) ?_
              refine tv_hI mrI_w_r85 ?_
              refine tv_b (pc' := 269) (ls' := [some (.ref 80), some (.int 1), some (.int (nI (20 * N + k)))]) (st' := [.int 1, .ref 80]) (h' := (n, sl, wKK kk, (mrI (stI I r82 (upd r83 (20 * N + k) 1) (upd (upd r84 (20 * N + k) (-1)) (20 * N + k) (nI (pa_tk tx T p1))) (upd r85 (20 * N + k) (nI ce0)) r86) tf2 1 (nI f2) 0 (nI ce0) dp op om od r87 r88 r89 r90 r91 r92 r93), (mwL L w2), wQQ q)) 6 rfl ?_
              refine tv_cvE [.int 1] [] rfl rfl (by omega) rfl (Nat.le_of_ble_eq_true rfl) (Nat.le_of_ble_eq_true rfl) (Or.inr (Or.inr rfl)) (ev_mr_readsF (by decide)) ?_
              refine tv_b (pc' := 281) (ls' := [some (.ref 80), some (.int 1), some (.int (nI (20 * N + k)))]) (st' := [.int (nI ce0), .int (nI (20 * N + k)), .ref 86]) (h' := (n, sl, wKK kk, (mrI (stI I r82 (upd r83 (20 * N + k) 1) (upd (upd r84 (20 * N + k) (-1)) (20 * N + k) (nI (pa_tk tx T p1))) (upd r85 (20 * N + k) (nI ce0)) r86) tf2 1 (nI f2) 0 (nI ce0) dp op om od r87 r88 r89 r90 r91 r92 r93), (mwL L w2), wQQ q)) 5 rfl ?_
              refine tv_iasN (k := (20 * N + k)) rfl (rfl) (⟨by omega, by omega⟩) ?_
              refine tv_hI mrI_w_r86 ?_
              refine tv_b (pc' := 287) (ls' := [some (.ref 80), some (.int 1), some (.int (nI (20 * N + k)))]) (st' := []) (h' := (n, sl, wKK kk, va_up (mrI (stI I r82 (upd r83 (20 * N + k) 1) (upd (upd r84 (20 * N + k) (-1)) (20 * N + k) (nI (pa_tk tx T p1))) (upd r85 (20 * N + k) (nI ce0)) (upd r86 (20 * N + k) (nI ce0))) tf2 1 (nI f2) 0 (nI ce0) dp op om od r87 r88 r89 r90 r91 r92 r93) 80 (upd ((mrI (stI I r82 (upd r83 (20 * N + k) 1) (upd (upd r84 (20 * N + k) (-1)) (20 * N + k) (nI (pa_tk tx T p1))) (upd r85 (20 * N + k) (nI ce0)) (upd r86 (20 * N + k) (nI ce0))) tf2 1 (nI f2) 0 (nI ce0) dp op om od r87 r88 r89 r90 r91 r92 r93) 80) 13 1), (mwL L w2), wQQ q)) 3 rfl ?_
              refine tv_hI mrI_w_be ?_
              refine tv_b (pc' := 308) (ls' := [some (.ref 80), some (.int 1), some (.int (nI (20 * N + k)))]) (st' := [.int (I 80 14), .ref 82]) (h' := (n, sl, wKK kk, (mrI (stI I r82 (upd r83 (20 * N + k) 1) (upd (upd r84 (20 * N + k) (-1)) (20 * N + k) (nI (pa_tk tx T p1))) (upd r85 (20 * N + k) (nI ce0)) (upd r86 (20 * N + k) (nI ce0))) tf2 1 (nI f2) 1 (nI ce0) dp op om od r87 r88 r89 r90 r91 r92 r93), (mwL L w2), wQQ q)) 7 rfl ?_
              refine tv_top (hN.1) ?_
              refine tv_b (pc' := 309) (ls' := [some (.ref 80), some (.int 1), some (.int (nI (20 * N + k)))]) (st' := [.int (nI N), .ref 82, .int (nI N), .ref 82]) (h' := (n, sl, wKK kk, (mrI (stI I r82 (upd r83 (20 * N + k) 1) (upd (upd r84 (20 * N + k) (-1)) (20 * N + k) (nI (pa_tk tx T p1))) (upd r85 (20 * N + k) (nI ce0)) (upd r86 (20 * N + k) (nI ce0))) tf2 1 (nI f2) 1 (nI ce0) dp op om od r87 r88 r89 r90 r91 r92 r93), (mwL L w2), wQQ q)) 1 rfl ?_
              refine tv_ialN (k := N) rfl (rfl) (⟨by omega, by omega⟩) ?_
              refine tv_top (hk82) ?_
              refine tv_b (pc' := 311) (ls' := [some (.ref 80), some (.int 1), some (.int (nI (20 * N + k)))]) (st' := [.int 1, .int (nI k), .int (nI N), .ref 82]) (h' := (n, sl, wKK kk, (mrI (stI I r82 (upd r83 (20 * N + k) 1) (upd (upd r84 (20 * N + k) (-1)) (20 * N + k) (nI (pa_tk tx T p1))) (upd r85 (20 * N + k) (nI ce0)) (upd r86 (20 * N + k) (nI ce0))) tf2 1 (nI f2) 1 (nI ce0) dp op om od r87 r88 r89 r90 r91 r92 r93), (mwL L w2), wQQ q)) 1 rfl ?_
              refine tv_b (pc' := 312) (ls' := [some (.ref 80), some (.int 1), some (.int (nI (20 * N + k)))]) (st' := [.int ((nI k) + 1), .int (nI N), .ref 82]) (h' := (n, sl, wKK kk, (mrI (stI I r82 (upd r83 (20 * N + k) 1) (upd (upd r84 (20 * N + k) (-1)) (20 * N + k) (nI (pa_tk tx T p1))) (upd r85 (20 * N + k) (nI ce0)) (upd r86 (20 * N + k) (nI ce0))) tf2 1 (nI f2) 1 (nI ce0) dp op om od r87 r88 r89 r90 r91 r92 r93), (mwL L w2), wQQ q)) 1 rfl ?_
              refine tv_top (show (nI k) + 1 = nI (k + 1) from nI_add k 1) ?_
              refine tv_iasN (k := N) rfl (rfl) (⟨by omega, by omega⟩) ?_
              refine tv_hI mrI_w_r82 ?_
              rw [if_neg hk20]
              have e : pa_stmt tx T A = _ := (pa_stmt_4 hlf (by omega)).trans (pa_fin_l (pa_bnd_n (hr1) (pa_bnd_i ((pa_ex_2t (by omega)).trans hr2))))
              rw [e]
              exact tv_rv rfl ⟨rfl, _, _, rfl, ⟨by decide, by decide, by first | omega | exact pa_sk8 (by omega) hT8⟩, ⟨_, _, _, _, _, _, _, _, _, _, _, _, _, _, _, _, _, _, _, rfl, (fun j hj => by first | rfl | exact upd_n hj), (fun j hj => by refine ⟨?_, ?_, ?_, ?_⟩ <;> first | rfl | exact upd_n (by omega) | (rw [upd_n (by omega), upd_n (by omega)])), (fun j hj => by first | rfl | exact hfm j hj | exact pa_wr_b (by omega))⟩⟩
            · have hd2 := pa_tk_lt (b := tx) (n := T) p2
              have hx2 := (pa_ed_le (b := tx) (n := T) (p := p1) (by omega)).2
              refine tv_b (pc' := 222) (ls' := [some (.ref 80), some (.int 1), some (.int (nI (20 * N + k)))]) (st' := [.long 2003330414, .ref 80]) (h' := (n, sl, wKK kk, (mrI (stI I r82 (upd r83 (20 * N + k) 1) (upd (upd r84 (20 * N + k) (-1)) (20 * N + k) (nI (pa_tk tx T p1))) r85 r86) t2 0 (-1) 0 (nI ce0) dp op om od r87 r88 r89 r90 r91 r92 r93), (mwL L w2), wQQ q)) 8 rfl ?_
              refine tv_cvE [.long 2003330414] [] rfl rfl (by omega) rfl (Nat.le_of_ble_eq_true rfl) (Nat.le_of_ble_eq_true rfl) (Or.inr (Or.inr rfl)) (ev_mr_isW ht2 (by decide) mw_6) ?_
              refine tv_b (pc' := (if (if pa_tk tx T p2 = 6 then 1 else 0) = 0 then 228 else 237)) (ls' := [some (.ref 80), some (.int 1), some (.int (nI (20 * N + k)))]) (st' := []) (h' := (n, sl, wKK kk, (mrI (stI I r82 (upd r83 (20 * N + k) 1) (upd (upd r84 (20 * N + k) (-1)) (20 * N + k) (nI (pa_tk tx T p1))) r85 r86) t2 0 (-1) 0 (nI ce0) dp op om od r87 r88 r89 r90 r91 r92 r93), (mwL L w2), wQQ q)) 1 rfl ?_
              refine tv_b0 (fun c225 => ?_) (fun c225 => ?_)
              · refine tv_b (pc' := 234) (ls' := [some (.ref 80), some (.int 1), some (.int (nI (20 * N + k)))]) (st' := [.int (t2 4), .int 1, .ref 80]) (h' := (n, sl, wKK kk, (mrI (stI I r82 (upd r83 (20 * N + k) 1) (upd (upd r84 (20 * N + k) (-1)) (20 * N + k) (nI (pa_tk tx T p1))) r85 r86) t2 0 (-1) 0 (nI ce0) dp op om od r87 r88 r89 r90 r91 r92 r93), (mwL L w2), wQQ q)) 4 rfl ?_
                refine tv_top (ht2.1) ?_
                refine tv_cvE [.int 1, .int (nI (pa_sk tx T p2))] [] rfl rfl (by omega) rfl (Nat.le_of_ble_eq_true rfl) (Nat.le_of_ble_eq_true rfl) (Or.inr (Or.inr rfl)) (ev_mr_blame0) ?_
                refine tv_b (pc' := 257) (ls' := [some (.ref 80), some (.int 1), some (.int (nI (20 * N + k)))]) (st' := [.int (nI ce0), .int (nI (20 * N + k)), .ref 85]) (h' := (n, sl, wKK kk, (mrI (stI I r82 (upd r83 (20 * N + k) 1) (upd (upd r84 (20 * N + k) (-1)) (20 * N + k) (nI (pa_tk tx T p1))) r85 r86) t2 1 (nI (pa_sk tx T p2)) 0 (nI ce0) dp op om od r87 r88 r89 r90 r91 r92 r93), (mwL L w2), wQQ q)) 8 rfl ?_
                refine tv_iasN (k := (20 * N + k)) rfl (rfl) (⟨by omega, by omega⟩) ?_
                refine tv_hI mrI_w_r85 ?_
                refine tv_b (pc' := 269) (ls' := [some (.ref 80), some (.int 1), some (.int (nI (20 * N + k)))]) (st' := [.int 1, .ref 80]) (h' := (n, sl, wKK kk, (mrI (stI I r82 (upd r83 (20 * N + k) 1) (upd (upd r84 (20 * N + k) (-1)) (20 * N + k) (nI (pa_tk tx T p1))) (upd r85 (20 * N + k) (nI ce0)) r86) t2 1 (nI (pa_sk tx T p2)) 0 (nI ce0) dp op om od r87 r88 r89 r90 r91 r92 r93), (mwL L w2), wQQ q)) 6 rfl ?_
                refine tv_cvE [.int 1] [] rfl rfl (by omega) rfl (Nat.le_of_ble_eq_true rfl) (Nat.le_of_ble_eq_true rfl) (Or.inr (Or.inr rfl)) (ev_mr_readsF (by decide)) ?_
                refine tv_b (pc' := 281) (ls' := [some (.ref 80), some (.int 1), some (.int (nI (20 * N + k)))]) (st' := [.int (nI ce0), .int (nI (20 * N + k)), .ref 86]) (h' := (n, sl, wKK kk, (mrI (stI I r82 (upd r83 (20 * N + k) 1) (upd (upd r84 (20 * N + k) (-1)) (20 * N + k) (nI (pa_tk tx T p1))) (upd r85 (20 * N + k) (nI ce0)) r86) t2 1 (nI (pa_sk tx T p2)) 0 (nI ce0) dp op om od r87 r88 r89 r90 r91 r92 r93), (mwL L w2), wQQ q)) 5 rfl ?_
                refine tv_iasN (k := (20 * N + k)) rfl (rfl) (⟨by omega, by omega⟩) ?_
                refine tv_hI mrI_w_r86 ?_
                refine tv_b (pc' := 287) (ls' := [some (.ref 80), some (.int 1), some (.int (nI (20 * N + k)))]) (st' := []) (h' := (n, sl, wKK kk, va_up (mrI (stI I r82 (upd r83 (20 * N + k) 1) (upd (upd r84 (20 * N + k) (-1)) (20 * N + k) (nI (pa_tk tx T p1))) (upd r85 (20 * N + k) (nI ce0)) (upd r86 (20 * N + k) (nI ce0))) t2 1 (nI (pa_sk tx T p2)) 0 (nI ce0) dp op om od r87 r88 r89 r90 r91 r92 r93) 80 (upd ((mrI (stI I r82 (upd r83 (20 * N + k) 1) (upd (upd r84 (20 * N + k) (-1)) (20 * N + k) (nI (pa_tk tx T p1))) (upd r85 (20 * N + k) (nI ce0)) (upd r86 (20 * N + k) (nI ce0))) t2 1 (nI (pa_sk tx T p2)) 0 (nI ce0) dp op om od r87 r88 r89 r90 r91 r92 r93) 80) 13 1), (mwL L w2), wQQ q)) 3 rfl ?_
                refine tv_hI mrI_w_be ?_
                refine tv_b (pc' := 308) (ls' := [some (.ref 80), some (.int 1), some (.int (nI (20 * N + k)))]) (st' := [.int (I 80 14), .ref 82]) (h' := (n, sl, wKK kk, (mrI (stI I r82 (upd r83 (20 * N + k) 1) (upd (upd r84 (20 * N + k) (-1)) (20 * N + k) (nI (pa_tk tx T p1))) (upd r85 (20 * N + k) (nI ce0)) (upd r86 (20 * N + k) (nI ce0))) t2 1 (nI (pa_sk tx T p2)) 1 (nI ce0) dp op om od r87 r88 r89 r90 r91 r92 r93), (mwL L w2), wQQ q)) 7 rfl ?_
                refine tv_top (hN.1) ?_
                refine tv_b (pc' := 309) (ls' := [some (.ref 80), some (.int 1), some (.int (nI (20 * N + k)))]) (st' := [.int (nI N), .ref 82, .int (nI N), .ref 82]) (h' := (n, sl, wKK kk, (mrI (stI I r82 (upd r83 (20 * N + k) 1) (upd (upd r84 (20 * N + k) (-1)) (20 * N + k) (nI (pa_tk tx T p1))) (upd r85 (20 * N + k) (nI ce0)) (upd r86 (20 * N + k) (nI ce0))) t2 1 (nI (pa_sk tx T p2)) 1 (nI ce0) dp op om od r87 r88 r89 r90 r91 r92 r93), (mwL L w2), wQQ q)) 1 rfl ?_
                refine tv_ialN (k := N) rfl (rfl) (⟨by omega, by omega⟩) ?_
                refine tv_top (hk82) ?_
                refine tv_b (pc' := 311) (ls' := [some (.ref 80), some (.int 1), some (.int (nI (20 * N + k)))]) (st' := [.int 1, .int (nI k), .int (nI N), .ref 82]) (h' := (n, sl, wKK kk, (mrI (stI I r82 (upd r83 (20 * N + k) 1) (upd (upd r84 (20 * N + k) (-1)) (20 * N + k) (nI (pa_tk tx T p1))) (upd r85 (20 * N + k) (nI ce0)) (upd r86 (20 * N + k) (nI ce0))) t2 1 (nI (pa_sk tx T p2)) 1 (nI ce0) dp op om od r87 r88 r89 r90 r91 r92 r93), (mwL L w2), wQQ q)) 1 rfl ?_
                refine tv_b (pc' := 312) (ls' := [some (.ref 80), some (.int 1), some (.int (nI (20 * N + k)))]) (st' := [.int ((nI k) + 1), .int (nI N), .ref 82]) (h' := (n, sl, wKK kk, (mrI (stI I r82 (upd r83 (20 * N + k) 1) (upd (upd r84 (20 * N + k) (-1)) (20 * N + k) (nI (pa_tk tx T p1))) (upd r85 (20 * N + k) (nI ce0)) (upd r86 (20 * N + k) (nI ce0))) t2 1 (nI (pa_sk tx T p2)) 1 (nI ce0) dp op om od r87 r88 r89 r90 r91 r92 r93), (mwL L w2), wQQ q)) 1 rfl ?_
                refine tv_top (show (nI k) + 1 = nI (k + 1) from nI_add k 1) ?_
                refine tv_iasN (k := N) rfl (rfl) (⟨by omega, by omega⟩) ?_
                refine tv_hI mrI_w_r82 ?_
                rw [if_neg hk20]
                have e : pa_stmt tx T A = _ := (pa_stmt_4 hlf (by omega)).trans (pa_fin_l (pa_bnd_n (hr1) (pa_bnd_n (((pa_ex_2t (by omega)).trans hr2)) (pa_bnd_i (pa_ex_f c225)))))
                rw [e]
                exact tv_rv rfl ⟨rfl, _, _, rfl, ⟨by decide, by decide, by first | omega | exact pa_sk8 (by omega) hT8⟩, ⟨_, _, _, _, _, _, _, _, _, _, _, _, _, _, _, _, _, _, _, rfl, (fun j hj => by first | rfl | exact upd_n hj), (fun j hj => by refine ⟨?_, ?_, ?_, ?_⟩ <;> first | rfl | exact upd_n (by omega) | (rw [upd_n (by omega), upd_n (by omega)])), (fun j hj => by first | rfl | exact hfm j hj | exact pa_wr_b (by omega))⟩⟩
              · refine tv_b (pc' := 245) (ls' := [some (.ref 80), some (.int 1), some (.int (nI (20 * N + k)))]) (st' := [.ref 80]) (h' := (n, sl, wKK kk, (mrI (stI I r82 (upd r83 (20 * N + k) 1) (upd (upd r84 (20 * N + k) (-1)) (20 * N + k) (nI (pa_tk tx T p1))) r85 r86) t2 0 (-1) 0 (nI ce0) dp op om od r87 r88 r89 r90 r91 r92 r93), (mwL L w2), wQQ q)) 4 rfl ?_
                refine tv_cv [] [] rfl rfl (by omega) rfl (Nat.le_of_ble_eq_true rfl) (Nat.le_of_ble_eq_true rfl) (Or.inr (Or.inr rfl)) (tv_mr_nx hR (by omega) ht2) ?_
                rintro rv9 h9 ⟨rfl, ⟨f3, tf3, w3, hr3, hf3, rfl⟩ | ⟨p3, t3, w3, hr3, hq3, hp3, ht3, rfl⟩⟩
                · refine tv_b (pc' := 257) (ls' := [some (.ref 80), some (.int 1), some (.int (nI (20 * N + k)))]) (st' := [.int (nI ce0), .int (nI (20 * N + k)), .ref 85]) (h' := (n, sl, wKK kk, (mrI (stI I r82 (upd r83 (20 * N + k) 1) (upd (upd r84 (20 * N + k) (-1)) (20 * N + k) (nI (pa_tk tx T p1))) r85 r86) tf3 1 (nI f3) 0 (nI ce0) dp op om od r87 r88 r89 r90 r91 r92 r93), (mwL L w3), wQQ q)) 5 rfl ?_
                  refine tv_iasN (k := (20 * N + k)) rfl (rfl) (⟨by omega, by omega⟩) ?_
                  refine tv_hI mrI_w_r85 ?_
                  refine tv_b (pc' := 269) (ls' := [some (.ref 80), some (.int 1), some (.int (nI (20 * N + k)))]) (st' := [.int 1, .ref 80]) (h' := (n, sl, wKK kk, (mrI (stI I r82 (upd r83 (20 * N + k) 1) (upd (upd r84 (20 * N + k) (-1)) (20 * N + k) (nI (pa_tk tx T p1))) (upd r85 (20 * N + k) (nI ce0)) r86) tf3 1 (nI f3) 0 (nI ce0) dp op om od r87 r88 r89 r90 r91 r92 r93), (mwL L w3), wQQ q)) 6 rfl ?_
                  refine tv_cvE [.int 1] [] rfl rfl (by omega) rfl (Nat.le_of_ble_eq_true rfl) (Nat.le_of_ble_eq_true rfl) (Or.inr (Or.inr rfl)) (ev_mr_readsF (by decide)) ?_
                  refine tv_b (pc' := 281) (ls' := [some (.ref 80), some (.int 1), some (.int (nI (20 * N + k)))]) (st' := [.int (nI ce0), .int (nI (20 * N + k)), .ref 86]) (h' := (n, sl, wKK kk, (mrI (stI I r82 (upd r83 (20 * N + k) 1) (upd (upd r84 (20 * N + k) (-1)) (20 * N + k) (nI (pa_tk tx T p1))) (upd r85 (20 * N + k) (nI ce0)) r86) tf3 1 (nI f3) 0 (nI ce0) dp op om od r87 r88 r89 r90 r91 r92 r93), (mwL L w3), wQQ q)) 5 rfl ?_
                  refine tv_iasN (k := (20 * N + k)) rfl (rfl) (⟨by omega, by omega⟩) ?_
                  refine tv_hI mrI_w_r86 ?_
                  refine tv_b (pc' := 287) (ls' := [some (.ref 80), some (.int 1), some (.int (nI (20 * N + k)))]) (st' := []) (h' := (n, sl, wKK kk, va_up (mrI (stI I r82 (upd r83 (20 * N + k) 1) (upd (upd r84 (20 * N + k) (-1)) (20 * N + k) (nI (pa_tk tx T p1))) (upd r85 (20 * N + k) (nI ce0)) (upd r86 (20 * N + k) (nI ce0))) tf3 1 (nI f3) 0 (nI ce0) dp op om od r87 r88 r89 r90 r91 r92 r93) 80 (upd ((mrI (stI I r82 (upd r83 (20 * N + k) 1) (upd (upd r84 (20 * N + k) (-1)) (20 * N + k) (nI (pa_tk tx T p1))) (upd r85 (20 * N + k) (nI ce0)) (upd r86 (20 * N + k) (nI ce0))) tf3 1 (nI f3) 0 (nI ce0) dp op om od r87 r88 r89 r90 r91 r92 r93) 80) 13 1), (mwL L w3), wQQ q)) 3 rfl ?_
                  refine tv_hI mrI_w_be ?_
                  refine tv_b (pc' := 308) (ls' := [some (.ref 80), some (.int 1), some (.int (nI (20 * N + k)))]) (st' := [.int (I 80 14), .ref 82]) (h' := (n, sl, wKK kk, (mrI (stI I r82 (upd r83 (20 * N + k) 1) (upd (upd r84 (20 * N + k) (-1)) (20 * N + k) (nI (pa_tk tx T p1))) (upd r85 (20 * N + k) (nI ce0)) (upd r86 (20 * N + k) (nI ce0))) tf3 1 (nI f3) 1 (nI ce0) dp op om od r87 r88 r89 r90 r91 r92 r93), (mwL L w3), wQQ q)) 7 rfl ?_
                  refine tv_top (hN.1) ?_
                  refine tv_b (pc' := 309) (ls' := [some (.ref 80), some (.int 1), some (.int (nI (20 * N + k)))]) (st' := [.int (nI N), .ref 82, .int (nI N), .ref 82]) (h' := (n, sl, wKK kk, (mrI (stI I r82 (upd r83 (20 * N + k) 1) (upd (upd r84 (20 * N + k) (-1)) (20 * N + k) (nI (pa_tk tx T p1))) (upd r85 (20 * N + k) (nI ce0)) (upd r86 (20 * N + k) (nI ce0))) tf3 1 (nI f3) 1 (nI ce0) dp op om od r87 r88 r89 r90 r91 r92 r93), (mwL L w3), wQQ q)) 1 rfl ?_
                  refine tv_ialN (k := N) rfl (rfl) (⟨by omega, by omega⟩) ?_
                  refine tv_top (hk82) ?_
                  refine tv_b (pc' := 311) (ls' := [some (.ref 80), some (.int 1), some (.int (nI (20 * N + k)))]) (st' := [.int 1, .int (nI k), .int (nI N), .ref 82]) (h' := (n, sl, wKK kk, (mrI (stI I r82 (upd r83 (20 * N + k) 1) (upd (upd r84 (20 * N + k) (-1)) (20 * N + k) (nI (pa_tk tx T p1))) (upd r85 (20 * N + k) (nI ce0)) (upd r86 (20 * N + k) (nI ce0))) tf3 1 (nI f3) 1 (nI ce0) dp op om od r87 r88 r89 r90 r91 r92 r93), (mwL L w3), wQQ q)) 1 rfl ?_
                  refine tv_b (pc' := 312) (ls' := [some (.ref 80), some (.int 1), some (.int (nI (20 * N + k)))]) (st' := [.int ((nI k) + 1), .int (nI N), .ref 82]) (h' := (n, sl, wKK kk, (mrI (stI I r82 (upd r83 (20 * N + k) 1) (upd (upd r84 (20 * N + k) (-1)) (20 * N + k) (nI (pa_tk tx T p1))) (upd r85 (20 * N + k) (nI ce0)) (upd r86 (20 * N + k) (nI ce0))) tf3 1 (nI f3) 1 (nI ce0) dp op om od r87 r88 r89 r90 r91 r92 r93), (mwL L w3), wQQ q)) 1 rfl ?_
                  refine tv_top (show (nI k) + 1 = nI (k + 1) from nI_add k 1) ?_
                  refine tv_iasN (k := N) rfl (rfl) (⟨by omega, by omega⟩) ?_
                  refine tv_hI mrI_w_r82 ?_
                  rw [if_neg hk20]
                  have e : pa_stmt tx T A = _ := (pa_stmt_4 hlf (by omega)).trans (pa_fin_l (pa_bnd_n (hr1) (pa_bnd_n (((pa_ex_2t (by omega)).trans hr2)) (pa_bnd_i ((pa_ex_t c225).trans hr3)))))
                  rw [e]
                  exact tv_rv rfl ⟨rfl, _, _, rfl, ⟨by decide, by decide, by first | omega | exact pa_sk8 (by omega) hT8⟩, ⟨_, _, _, _, _, _, _, _, _, _, _, _, _, _, _, _, _, _, _, rfl, (fun j hj => by first | rfl | exact upd_n hj), (fun j hj => by refine ⟨?_, ?_, ?_, ?_⟩ <;> first | rfl | exact upd_n (by omega) | (rw [upd_n (by omega), upd_n (by omega)])), (fun j hj => by first | rfl | exact hfm j hj | exact pa_wr_b (by omega))⟩⟩
                · have hd3 := pa_tk_lt (b := tx) (n := T) p3
                  have hx3 := (pa_ed_le (b := tx) (n := T) (p := p2) (by omega)).2
                  refine tv_b (pc' := 257) (ls' := [some (.ref 80), some (.int 1), some (.int (nI (20 * N + k)))]) (st' := [.int (nI ce0), .int (nI (20 * N + k)), .ref 85]) (h' := (n, sl, wKK kk, (mrI (stI I r82 (upd r83 (20 * N + k) 1) (upd (upd r84 (20 * N + k) (-1)) (20 * N + k) (nI (pa_tk tx T p1))) r85 r86) t3 0 (-1) 0 (nI ce0) dp op om od r87 r88 r89 r90 r91 r92 r93), (mwL L w3), wQQ q)) 5 rfl ?_
                  refine tv_iasN (k := (20 * N + k)) rfl (rfl) (⟨by omega, by omega⟩) ?_
                  refine tv_hI mrI_w_r85 ?_
                  refine tv_b (pc' := 269) (ls' := [some (.ref 80), some (.int 1), some (.int (nI (20 * N + k)))]) (st' := [.int 1, .ref 80]) (h' := (n, sl, wKK kk, (mrI (stI I r82 (upd r83 (20 * N + k) 1) (upd (upd r84 (20 * N + k) (-1)) (20 * N + k) (nI (pa_tk tx T p1))) (upd r85 (20 * N + k) (nI ce0)) r86) t3 0 (-1) 0 (nI ce0) dp op om od r87 r88 r89 r90 r91 r92 r93), (mwL L w3), wQQ q)) 6 rfl ?_
                  refine tv_cv [.int 1] [] rfl rfl (by omega) rfl (Nat.le_of_ble_eq_true rfl) (Nat.le_of_ble_eq_true rfl) (Or.inr (Or.inr rfl)) (tv_mr_reads (I := (stI I r82 (upd r83 (20 * N + k) 1) (upd (upd r84 (20 * N + k) (-1)) (20 * N + k) (nI (pa_tk tx T p1))) (upd r85 (20 * N + k) (nI ce0)) r86)) hR hN ht3 (pa_nx_lf hr3) (by omega) (by omega) true) ?_
                  rintro rv9 h9 ⟨rfl, I9, w0, rfl, hP⟩
                  unfold rdwR at hP
                  simp only [cond_true, cond_false] at hP
                  rcases hb0 : pa_test tx T 8 p3 with ⟨k0, l0⟩ | ⟨p0, cs0⟩ <;> rw [hb0] at hP
                  · obtain ⟨hk0, tk0, be0, co0, dp0, op0, om0, od0, s87, s88, s89, s90, s91, s92, s93, rfl, hfm⟩ := hP
                    have hk0n : ¬ nI k0 = 0 := fun h => hk0.1 ((nI_eq (a := k0) (b := 0) (by omega) (by omega)).mp h)
                    refine tv_b (pc' := 281) (ls' := [some (.ref 80), some (.int 1), some (.int (nI (20 * N + k)))]) (st' := [.int co0, .int (nI (20 * N + k)), .ref 86]) (h' := (n, sl, wKK kk, (mrI (stI I r82 (upd r83 (20 * N + k) 1) (upd (upd r84 (20 * N + k) (-1)) (20 * N + k) (nI (pa_tk tx T p1))) (upd r85 (20 * N + k) (nI ce0)) r86) tk0 (nI k0) (nI l0) be0 co0 dp0 op0 om0 od0 s87 s88 s89 s90 s91 s92 s93), (mwL L w0), wQQ q)) 5 rfl ?_
                    refine tv_iasN (k := (20 * N + k)) rfl (rfl) (⟨by omega, by omega⟩) ?_
                    refine tv_hI mrI_w_r86 ?_
                    refine tv_b (pc' := 287) (ls' := [some (.ref 80), some (.int 1), some (.int (nI (20 * N + k)))]) (st' := []) (h' := (n, sl, wKK kk, va_up (mrI (stI I r82 (upd r83 (20 * N + k) 1) (upd (upd r84 (20 * N + k) (-1)) (20 * N + k) (nI (pa_tk tx T p1))) (upd r85 (20 * N + k) (nI ce0)) (upd r86 (20 * N + k) co0)) tk0 (nI k0) (nI l0) be0 co0 dp0 op0 om0 od0 s87 s88 s89 s90 s91 s92 s93) 80 (upd ((mrI (stI I r82 (upd r83 (20 * N + k) 1) (upd (upd r84 (20 * N + k) (-1)) (20 * N + k) (nI (pa_tk tx T p1))) (upd r85 (20 * N + k) (nI ce0)) (upd r86 (20 * N + k) co0)) tk0 (nI k0) (nI l0) be0 co0 dp0 op0 om0 od0 s87 s88 s89 s90 s91 s92 s93) 80) 13 1), (mwL L w0), wQQ q)) 3 rfl ?_
                    refine tv_hI mrI_w_be ?_
                    refine tv_b (pc' := (if (nI k0) = 0 then 294 else 300)) (ls' := [some (.ref 80), some (.int 1), some (.int (nI (20 * N + k)))]) (st' := []) (h' := (n, sl, wKK kk, (mrI (stI I r82 (upd r83 (20 * N + k) 1) (upd (upd r84 (20 * N + k) (-1)) (20 * N + k) (nI (pa_tk tx T p1))) (upd r85 (20 * N + k) (nI ce0)) (upd r86 (20 * N + k) co0)) tk0 (nI k0) (nI l0) 1 co0 dp0 op0 om0 od0 s87 s88 s89 s90 s91 s92 s93), (mwL L w0), wQQ q)) 3 rfl ?_
                    refine tv_f (hk0n) ?_
                    refine tv_b (pc' := 308) (ls' := [some (.ref 80), some (.int 1), some (.int (nI (20 * N + k)))]) (st' := [.int (I 80 14), .ref 82]) (h' := (n, sl, wKK kk, (mrI (stI I r82 (upd r83 (20 * N + k) 1) (upd (upd r84 (20 * N + k) (-1)) (20 * N + k) (nI (pa_tk tx T p1))) (upd r85 (20 * N + k) (nI ce0)) (upd r86 (20 * N + k) co0)) tk0 (nI k0) (nI l0) 1 co0 dp0 op0 om0 od0 s87 s88 s89 s90 s91 s92 s93), (mwL L w0), wQQ q)) 4 rfl ?_
                    refine tv_top (hN.1) ?_
                    refine tv_b (pc' := 309) (ls' := [some (.ref 80), some (.int 1), some (.int (nI (20 * N + k)))]) (st' := [.int (nI N), .ref 82, .int (nI N), .ref 82]) (h' := (n, sl, wKK kk, (mrI (stI I r82 (upd r83 (20 * N + k) 1) (upd (upd r84 (20 * N + k) (-1)) (20 * N + k) (nI (pa_tk tx T p1))) (upd r85 (20 * N + k) (nI ce0)) (upd r86 (20 * N + k) co0)) tk0 (nI k0) (nI l0) 1 co0 dp0 op0 om0 od0 s87 s88 s89 s90 s91 s92 s93), (mwL L w0), wQQ q)) 1 rfl ?_
                    refine tv_ialN (k := N) rfl (rfl) (⟨by omega, by omega⟩) ?_
                    refine tv_top (hk82) ?_
                    refine tv_b (pc' := 311) (ls' := [some (.ref 80), some (.int 1), some (.int (nI (20 * N + k)))]) (st' := [.int 1, .int (nI k), .int (nI N), .ref 82]) (h' := (n, sl, wKK kk, (mrI (stI I r82 (upd r83 (20 * N + k) 1) (upd (upd r84 (20 * N + k) (-1)) (20 * N + k) (nI (pa_tk tx T p1))) (upd r85 (20 * N + k) (nI ce0)) (upd r86 (20 * N + k) co0)) tk0 (nI k0) (nI l0) 1 co0 dp0 op0 om0 od0 s87 s88 s89 s90 s91 s92 s93), (mwL L w0), wQQ q)) 1 rfl ?_
                    refine tv_b (pc' := 312) (ls' := [some (.ref 80), some (.int 1), some (.int (nI (20 * N + k)))]) (st' := [.int ((nI k) + 1), .int (nI N), .ref 82]) (h' := (n, sl, wKK kk, (mrI (stI I r82 (upd r83 (20 * N + k) 1) (upd (upd r84 (20 * N + k) (-1)) (20 * N + k) (nI (pa_tk tx T p1))) (upd r85 (20 * N + k) (nI ce0)) (upd r86 (20 * N + k) co0)) tk0 (nI k0) (nI l0) 1 co0 dp0 op0 om0 od0 s87 s88 s89 s90 s91 s92 s93), (mwL L w0), wQQ q)) 1 rfl ?_
                    refine tv_top (show (nI k) + 1 = nI (k + 1) from nI_add k 1) ?_
                    refine tv_iasN (k := N) rfl (rfl) (⟨by omega, by omega⟩) ?_
                    refine tv_hI mrI_w_r82 ?_
                    rw [if_neg hk20]
                    have e : pa_stmt tx T A = _ := (pa_stmt_4 hlf (by omega)).trans (pa_fin_l (pa_bnd_n (hr1) (pa_bnd_n (((pa_ex_2t (by omega)).trans hr2)) (pa_bnd_n (((pa_ex_t c225).trans hr3)) hb0))))
                    rw [e]
                    exact tv_rv rfl ⟨rfl, _, _, rfl, hk0, ⟨_, _, _, _, _, _, _, _, _, _, _, _, _, _, _, _, _, _, _, rfl, (fun j hj => by first | rfl | exact upd_n hj), (fun j hj => by refine ⟨?_, ?_, ?_, ?_⟩ <;> first | rfl | exact upd_n (by omega) | (rw [upd_n (by omega), upd_n (by omega)])), (fun j hj => by first | rfl | exact hfm j hj | exact pa_wr_b (by omega))⟩⟩
                  · obtain ⟨rs, tk0, dp0, op0, om0, od0, s88, s89, s90, s91, s92, s93, rfl, ht0, hE, hlt0, hcl0, hpT0⟩ := hP
                    refine tv_b (pc' := 281) (ls' := [some (.ref 80), some (.int 1), some (.int (nI (20 * N + k)))]) (st' := [.int (nI (ce0 + rs.length)), .int (nI (20 * N + k)), .ref 86]) (h' := (n, sl, wKK kk, (mrI (stI I r82 (upd r83 (20 * N + k) 1) (upd (upd r84 (20 * N + k) (-1)) (20 * N + k) (nI (pa_tk tx T p1))) (upd r85 (20 * N + k) (nI ce0)) r86) tk0 0 (-1) 0 (nI (ce0 + rs.length)) dp0 op0 om0 od0 (pa_wr r87 (800 * N + ce0) (rs.map menc)) s88 s89 s90 s91 s92 s93), (mwL L w0), wQQ q)) 5 rfl ?_
                    refine tv_iasN (k := (20 * N + k)) rfl (rfl) (⟨by omega, by omega⟩) ?_
                    refine tv_hI mrI_w_r86 ?_
                    refine tv_b (pc' := 287) (ls' := [some (.ref 80), some (.int 1), some (.int (nI (20 * N + k)))]) (st' := []) (h' := (n, sl, wKK kk, va_up (mrI (stI I r82 (upd r83 (20 * N + k) 1) (upd (upd r84 (20 * N + k) (-1)) (20 * N + k) (nI (pa_tk tx T p1))) (upd r85 (20 * N + k) (nI ce0)) (upd r86 (20 * N + k) (nI (ce0 + rs.length)))) tk0 0 (-1) 0 (nI (ce0 + rs.length)) dp0 op0 om0 od0 (pa_wr r87 (800 * N + ce0) (rs.map menc)) s88 s89 s90 s91 s92 s93) 80 (upd ((mrI (stI I r82 (upd r83 (20 * N + k) 1) (upd (upd r84 (20 * N + k) (-1)) (20 * N + k) (nI (pa_tk tx T p1))) (upd r85 (20 * N + k) (nI ce0)) (upd r86 (20 * N + k) (nI (ce0 + rs.length)))) tk0 0 (-1) 0 (nI (ce0 + rs.length)) dp0 op0 om0 od0 (pa_wr r87 (800 * N + ce0) (rs.map menc)) s88 s89 s90 s91 s92 s93) 80) 13 1), (mwL L w0), wQQ q)) 3 rfl ?_
                    refine tv_hI mrI_w_be ?_
                    refine tv_b (pc' := 297) (ls' := [some (.ref 80), some (.int 1), some (.int (nI (20 * N + k)))]) (st' := [.int 59, .ref 80]) (h' := (n, sl, wKK kk, (mrI (stI I r82 (upd r83 (20 * N + k) 1) (upd (upd r84 (20 * N + k) (-1)) (20 * N + k) (nI (pa_tk tx T p1))) (upd r85 (20 * N + k) (nI ce0)) (upd r86 (20 * N + k) (nI (ce0 + rs.length)))) tk0 0 (-1) 1 (nI (ce0 + rs.length)) dp0 op0 om0 od0 (pa_wr r87 (800 * N + ce0) (rs.map menc)) s88 s89 s90 s91 s92 s93), (mwL L w0), wQQ q)) 5 rfl ?_
                    refine tv_cv [.int 59] [] rfl rfl (by omega) rfl (Nat.le_of_ble_eq_true rfl) (Nat.le_of_ble_eq_true rfl) (Or.inr (Or.inr rfl)) (tv_mr_must (I := (stI I r82 (upd r83 (20 * N + k) 1) (upd (upd r84 (20 * N + k) (-1)) (20 * N + k) (nI (pa_tk tx T p1))) (upd r85 (20 * N + k) (nI ce0)) (upd r86 (20 * N + k) (nI (ce0 + rs.length))))) hR hpT0 ht0) ?_
                    rintro rv9 h9 ⟨rfl, ⟨h37, rfl⟩ | ⟨h37, tk9, fk9, fp9, w9, rfl, hn9⟩⟩
                    · refine tv_b (pc' := 308) (ls' := [some (.ref 80), some (.int 1), some (.int (nI (20 * N + k)))]) (st' := [.int (I 80 14), .ref 82]) (h' := (n, sl, wKK kk, (mrI (stI I r82 (upd r83 (20 * N + k) 1) (upd (upd r84 (20 * N + k) (-1)) (20 * N + k) (nI (pa_tk tx T p1))) (upd r85 (20 * N + k) (nI ce0)) (upd r86 (20 * N + k) (nI (ce0 + rs.length)))) tk0 1 (nI (pa_sk tx T p0)) 1 (nI (ce0 + rs.length)) dp0 op0 om0 od0 (pa_wr r87 (800 * N + ce0) (rs.map menc)) s88 s89 s90 s91 s92 s93), (mwL L w0), wQQ q)) 4 rfl ?_
                      refine tv_top (hN.1) ?_
                      refine tv_b (pc' := 309) (ls' := [some (.ref 80), some (.int 1), some (.int (nI (20 * N + k)))]) (st' := [.int (nI N), .ref 82, .int (nI N), .ref 82]) (h' := (n, sl, wKK kk, (mrI (stI I r82 (upd r83 (20 * N + k) 1) (upd (upd r84 (20 * N + k) (-1)) (20 * N + k) (nI (pa_tk tx T p1))) (upd r85 (20 * N + k) (nI ce0)) (upd r86 (20 * N + k) (nI (ce0 + rs.length)))) tk0 1 (nI (pa_sk tx T p0)) 1 (nI (ce0 + rs.length)) dp0 op0 om0 od0 (pa_wr r87 (800 * N + ce0) (rs.map menc)) s88 s89 s90 s91 s92 s93), (mwL L w0), wQQ q)) 1 rfl ?_
                      refine tv_ialN (k := N) rfl (rfl) (⟨by omega, by omega⟩) ?_
                      refine tv_top (hk82) ?_
                      refine tv_b (pc' := 311) (ls' := [some (.ref 80), some (.int 1), some (.int (nI (20 * N + k)))]) (st' := [.int 1, .int (nI k), .int (nI N), .ref 82]) (h' := (n, sl, wKK kk, (mrI (stI I r82 (upd r83 (20 * N + k) 1) (upd (upd r84 (20 * N + k) (-1)) (20 * N + k) (nI (pa_tk tx T p1))) (upd r85 (20 * N + k) (nI ce0)) (upd r86 (20 * N + k) (nI (ce0 + rs.length)))) tk0 1 (nI (pa_sk tx T p0)) 1 (nI (ce0 + rs.length)) dp0 op0 om0 od0 (pa_wr r87 (800 * N + ce0) (rs.map menc)) s88 s89 s90 s91 s92 s93), (mwL L w0), wQQ q)) 1 rfl ?_
                      refine tv_b (pc' := 312) (ls' := [some (.ref 80), some (.int 1), some (.int (nI (20 * N + k)))]) (st' := [.int ((nI k) + 1), .int (nI N), .ref 82]) (h' := (n, sl, wKK kk, (mrI (stI I r82 (upd r83 (20 * N + k) 1) (upd (upd r84 (20 * N + k) (-1)) (20 * N + k) (nI (pa_tk tx T p1))) (upd r85 (20 * N + k) (nI ce0)) (upd r86 (20 * N + k) (nI (ce0 + rs.length)))) tk0 1 (nI (pa_sk tx T p0)) 1 (nI (ce0 + rs.length)) dp0 op0 om0 od0 (pa_wr r87 (800 * N + ce0) (rs.map menc)) s88 s89 s90 s91 s92 s93), (mwL L w0), wQQ q)) 1 rfl ?_
                      refine tv_top (show (nI k) + 1 = nI (k + 1) from nI_add k 1) ?_
                      refine tv_iasN (k := N) rfl (rfl) (⟨by omega, by omega⟩) ?_
                      refine tv_hI mrI_w_r82 ?_
                      rw [if_neg hk20]
                      have e : pa_stmt tx T A = _ := (pa_stmt_4 hlf (by omega)).trans (pa_fin_1 (pa_bnd_o (hr1) (pa_bnd_o (((pa_ex_2t (by omega)).trans hr2)) (pa_bnd_o (((pa_ex_t c225).trans hr3)) hb0))) h37)
                      rw [e]
                      exact tv_rv rfl ⟨rfl, _, _, rfl, ⟨by decide, by decide, by first | omega | exact pa_sk8 (by omega) hT8⟩, ⟨_, _, _, _, _, _, _, _, _, _, _, _, _, _, _, _, _, _, _, rfl, (fun j hj => by first | rfl | exact upd_n hj), (fun j hj => by refine ⟨?_, ?_, ?_, ?_⟩ <;> first | rfl | exact upd_n (by omega) | (rw [upd_n (by omega), upd_n (by omega)])), (fun j hj => by first | rfl | exact hfm j hj | exact pa_wr_b (by omega))⟩⟩
                    · refine tv_b (pc' := 308) (ls' := [some (.ref 80), some (.int 1), some (.int (nI (20 * N + k)))]) (st' := [.int (I 80 14), .ref 82]) (h' := (n, sl, wKK kk, (mrI (stI I r82 (upd r83 (20 * N + k) 1) (upd (upd r84 (20 * N + k) (-1)) (20 * N + k) (nI (pa_tk tx T p1))) (upd r85 (20 * N + k) (nI ce0)) (upd r86 (20 * N + k) (nI (ce0 + rs.length)))) tk9 fk9 fp9 1 (nI (ce0 + rs.length)) dp0 op0 om0 od0 (pa_wr r87 (800 * N + ce0) (rs.map menc)) s88 s89 s90 s91 s92 s93), (mwL L w9), wQQ q)) 4 rfl ?_
                      refine tv_top (hN.1) ?_
                      refine tv_b (pc' := 309) (ls' := [some (.ref 80), some (.int 1), some (.int (nI (20 * N + k)))]) (st' := [.int (nI N), .ref 82, .int (nI N), .ref 82]) (h' := (n, sl, wKK kk, (mrI (stI I r82 (upd r83 (20 * N + k) 1) (upd (upd r84 (20 * N + k) (-1)) (20 * N + k) (nI (pa_tk tx T p1))) (upd r85 (20 * N + k) (nI ce0)) (upd r86 (20 * N + k) (nI (ce0 + rs.length)))) tk9 fk9 fp9 1 (nI (ce0 + rs.length)) dp0 op0 om0 od0 (pa_wr r87 (800 * N + ce0) (rs.map menc)) s88 s89 s90 s91 s92 s93), (mwL L w9), wQQ q)) 1 rfl ?_
                      refine tv_ialN (k := N) rfl (rfl) (⟨by omega, by omega⟩) ?_
                      refine tv_top (hk82) ?_
                      refine tv_b (pc' := 311) (ls' := [some (.ref 80), some (.int 1), some (.int (nI (20 * N + k)))]) (st' := [.int 1, .int (nI k), .int (nI N), .ref 82]) (h' := (n, sl, wKK kk, (mrI (stI I r82 (upd r83 (20 * N + k) 1) (upd (upd r84 (20 * N + k) (-1)) (20 * N + k) (nI (pa_tk tx T p1))) (upd r85 (20 * N + k) (nI ce0)) (upd r86 (20 * N + k) (nI (ce0 + rs.length)))) tk9 fk9 fp9 1 (nI (ce0 + rs.length)) dp0 op0 om0 od0 (pa_wr r87 (800 * N + ce0) (rs.map menc)) s88 s89 s90 s91 s92 s93), (mwL L w9), wQQ q)) 1 rfl ?_
                      refine tv_b (pc' := 312) (ls' := [some (.ref 80), some (.int 1), some (.int (nI (20 * N + k)))]) (st' := [.int ((nI k) + 1), .int (nI N), .ref 82]) (h' := (n, sl, wKK kk, (mrI (stI I r82 (upd r83 (20 * N + k) 1) (upd (upd r84 (20 * N + k) (-1)) (20 * N + k) (nI (pa_tk tx T p1))) (upd r85 (20 * N + k) (nI ce0)) (upd r86 (20 * N + k) (nI (ce0 + rs.length)))) tk9 fk9 fp9 1 (nI (ce0 + rs.length)) dp0 op0 om0 od0 (pa_wr r87 (800 * N + ce0) (rs.map menc)) s88 s89 s90 s91 s92 s93), (mwL L w9), wQQ q)) 1 rfl ?_
                      refine tv_top (show (nI k) + 1 = nI (k + 1) from nI_add k 1) ?_
                      refine tv_iasN (k := N) rfl (rfl) (⟨by omega, by omega⟩) ?_
                      refine tv_hI mrI_w_r82 ?_
                      rw [if_neg hk20]
                      have e : pa_stmt tx T A = _ := (pa_stmt_4 hlf (by omega)).trans (pa_fin_r (pa_bnd_o (hr1) (pa_bnd_o (((pa_ex_2t (by omega)).trans hr2)) (pa_bnd_o (((pa_ex_t c225).trans hr3)) hb0))) h37)
                      rw [e]
                      have hg9 := pa_ed_gt (b := tx) (n := T) (p := p0) (by omega)
                      have hwk : upd (upd r84 (20 * N + k) (-1)) (20 * N + k) (nI (pa_tk tx T p1)) = upd r84 (20 * N + k) (wkI 4 (pa_tk tx T (pa_ed tx T A))) := by rw [mr_upd2, hq1]; rfl
                      rw [hwk]
                      exact tv_rv rfl ⟨rfl, _, _, rfl, rs, _, _, _, _, _, _, _, _, _, _, _, _, _, rfl, hE, hg9.2, by omega, by decide, hn9, pa_semi h37⟩
          · refine tv_cvE [] [.int (nI (20 * N + k)), .ref 84] rfl rfl (by omega) rfl (Nat.le_of_ble_eq_true rfl) (Nat.le_of_ble_eq_true rfl) (Or.inr (Or.inr rfl)) (ev_mr_work0 ht1 hw2) ?_
            refine tv_iasN (k := (20 * N + k)) rfl (rfl) (⟨by omega, by omega⟩) ?_
            refine tv_hI mrI_w_r84 ?_
            refine tv_b (pc' := 181) (ls' := [some (.ref 80), some (.int 1), some (.int (nI (20 * N + k)))]) (st' := [.int (nI (20 * N + k)), .ref 84]) (h' := (n, sl, wKK kk, (mrI (stI I r82 (upd r83 (20 * N + k) 1) (upd (upd r84 (20 * N + k) (-1)) (20 * N + k) (-1)) r85 r86) t1 0 (-1) 0 (nI ce0) dp op om od r87 r88 r89 r90 r91 r92 r93), (mwL L w1), wQQ q)) 3 rfl ?_
            refine tv_ialN (k := (20 * N + k)) rfl (rfl) (⟨by omega, by omega⟩) ?_
            refine tv_top (upd_e) ?_
            refine tv_b (pc' := 192) (ls' := [some (.ref 80), some (.int 1), some (.int (nI (20 * N + k)))]) (st' := [.int (t1 4), .int 1, .ref 80]) (h' := (n, sl, wKK kk, (mrI (stI I r82 (upd r83 (20 * N + k) 1) (upd (upd r84 (20 * N + k) (-1)) (20 * N + k) (-1)) r85 r86) t1 0 (-1) 0 (nI ce0) dp op om od r87 r88 r89 r90 r91 r92 r93), (mwL L w1), wQQ q)) 6 rfl ?_
            refine tv_top (ht1.1) ?_
            refine tv_cvE [.int 1, .int (nI (pa_sk tx T p1))] [] rfl rfl (by omega) rfl (Nat.le_of_ble_eq_true rfl) (Nat.le_of_ble_eq_true rfl) (Or.inr (Or.inr rfl)) (ev_mr_blame0) ?_
            refine tv_b (pc' := 257) (ls' := [some (.ref 80), some (.int 1), some (.int (nI (20 * N + k)))]) (st' := [.int (nI ce0), .int (nI (20 * N + k)), .ref 85]) (h' := (n, sl, wKK kk, (mrI (stI I r82 (upd r83 (20 * N + k) 1) (upd (upd r84 (20 * N + k) (-1)) (20 * N + k) (-1)) r85 r86) t1 1 (nI (pa_sk tx T p1)) 0 (nI ce0) dp op om od r87 r88 r89 r90 r91 r92 r93), (mwL L w1), wQQ q)) 14 rfl ?_
            refine tv_iasN (k := (20 * N + k)) rfl (rfl) (⟨by omega, by omega⟩) ?_
            refine tv_hI mrI_w_r85 ?_
            refine tv_b (pc' := 269) (ls' := [some (.ref 80), some (.int 1), some (.int (nI (20 * N + k)))]) (st' := [.int 1, .ref 80]) (h' := (n, sl, wKK kk, (mrI (stI I r82 (upd r83 (20 * N + k) 1) (upd (upd r84 (20 * N + k) (-1)) (20 * N + k) (-1)) (upd r85 (20 * N + k) (nI ce0)) r86) t1 1 (nI (pa_sk tx T p1)) 0 (nI ce0) dp op om od r87 r88 r89 r90 r91 r92 r93), (mwL L w1), wQQ q)) 6 rfl ?_
            refine tv_cvE [.int 1] [] rfl rfl (by omega) rfl (Nat.le_of_ble_eq_true rfl) (Nat.le_of_ble_eq_true rfl) (Or.inr (Or.inr rfl)) (ev_mr_readsF (by decide)) ?_
            refine tv_b (pc' := 281) (ls' := [some (.ref 80), some (.int 1), some (.int (nI (20 * N + k)))]) (st' := [.int (nI ce0), .int (nI (20 * N + k)), .ref 86]) (h' := (n, sl, wKK kk, (mrI (stI I r82 (upd r83 (20 * N + k) 1) (upd (upd r84 (20 * N + k) (-1)) (20 * N + k) (-1)) (upd r85 (20 * N + k) (nI ce0)) r86) t1 1 (nI (pa_sk tx T p1)) 0 (nI ce0) dp op om od r87 r88 r89 r90 r91 r92 r93), (mwL L w1), wQQ q)) 5 rfl ?_
            refine tv_iasN (k := (20 * N + k)) rfl (rfl) (⟨by omega, by omega⟩) ?_
            refine tv_hI mrI_w_r86 ?_
            refine tv_b (pc' := 287) (ls' := [some (.ref 80), some (.int 1), some (.int (nI (20 * N + k)))]) (st' := []) (h' := (n, sl, wKK kk, va_up (mrI (stI I r82 (upd r83 (20 * N + k) 1) (upd (upd r84 (20 * N + k) (-1)) (20 * N + k) (-1)) (upd r85 (20 * N + k) (nI ce0)) (upd r86 (20 * N + k) (nI ce0))) t1 1 (nI (pa_sk tx T p1)) 0 (nI ce0) dp op om od r87 r88 r89 r90 r91 r92 r93) 80 (upd ((mrI (stI I r82 (upd r83 (20 * N + k) 1) (upd (upd r84 (20 * N + k) (-1)) (20 * N + k) (-1)) (upd r85 (20 * N + k) (nI ce0)) (upd r86 (20 * N + k) (nI ce0))) t1 1 (nI (pa_sk tx T p1)) 0 (nI ce0) dp op om od r87 r88 r89 r90 r91 r92 r93) 80) 13 1), (mwL L w1), wQQ q)) 3 rfl ?_
            refine tv_hI mrI_w_be ?_
            refine tv_b (pc' := 308) (ls' := [some (.ref 80), some (.int 1), some (.int (nI (20 * N + k)))]) (st' := [.int (I 80 14), .ref 82]) (h' := (n, sl, wKK kk, (mrI (stI I r82 (upd r83 (20 * N + k) 1) (upd (upd r84 (20 * N + k) (-1)) (20 * N + k) (-1)) (upd r85 (20 * N + k) (nI ce0)) (upd r86 (20 * N + k) (nI ce0))) t1 1 (nI (pa_sk tx T p1)) 1 (nI ce0) dp op om od r87 r88 r89 r90 r91 r92 r93), (mwL L w1), wQQ q)) 7 rfl ?_
            refine tv_top (hN.1) ?_
            refine tv_b (pc' := 309) (ls' := [some (.ref 80), some (.int 1), some (.int (nI (20 * N + k)))]) (st' := [.int (nI N), .ref 82, .int (nI N), .ref 82]) (h' := (n, sl, wKK kk, (mrI (stI I r82 (upd r83 (20 * N + k) 1) (upd (upd r84 (20 * N + k) (-1)) (20 * N + k) (-1)) (upd r85 (20 * N + k) (nI ce0)) (upd r86 (20 * N + k) (nI ce0))) t1 1 (nI (pa_sk tx T p1)) 1 (nI ce0) dp op om od r87 r88 r89 r90 r91 r92 r93), (mwL L w1), wQQ q)) 1 rfl ?_
            refine tv_ialN (k := N) rfl (rfl) (⟨by omega, by omega⟩) ?_
            refine tv_top (hk82) ?_
            refine tv_b (pc' := 311) (ls' := [some (.ref 80), some (.int 1), some (.int (nI (20 * N + k)))]) (st' := [.int 1, .int (nI k), .int (nI N), .ref 82]) (h' := (n, sl, wKK kk, (mrI (stI I r82 (upd r83 (20 * N + k) 1) (upd (upd r84 (20 * N + k) (-1)) (20 * N + k) (-1)) (upd r85 (20 * N + k) (nI ce0)) (upd r86 (20 * N + k) (nI ce0))) t1 1 (nI (pa_sk tx T p1)) 1 (nI ce0) dp op om od r87 r88 r89 r90 r91 r92 r93), (mwL L w1), wQQ q)) 1 rfl ?_
            refine tv_b (pc' := 312) (ls' := [some (.ref 80), some (.int 1), some (.int (nI (20 * N + k)))]) (st' := [.int ((nI k) + 1), .int (nI N), .ref 82]) (h' := (n, sl, wKK kk, (mrI (stI I r82 (upd r83 (20 * N + k) 1) (upd (upd r84 (20 * N + k) (-1)) (20 * N + k) (-1)) (upd r85 (20 * N + k) (nI ce0)) (upd r86 (20 * N + k) (nI ce0))) t1 1 (nI (pa_sk tx T p1)) 1 (nI ce0) dp op om od r87 r88 r89 r90 r91 r92 r93), (mwL L w1), wQQ q)) 1 rfl ?_
            refine tv_top (show (nI k) + 1 = nI (k + 1) from nI_add k 1) ?_
            refine tv_iasN (k := N) rfl (rfl) (⟨by omega, by omega⟩) ?_
            refine tv_hI mrI_w_r82 ?_
            rw [if_neg hk20]
            have e : pa_stmt tx T A = _ := (pa_stmt_4 hlf (by omega)).trans (pa_fin_l (pa_bnd_n (hr1) (pa_bnd_i (pa_ex_2f (by omega)))))
            rw [e]
            exact tv_rv rfl ⟨rfl, _, _, rfl, ⟨by decide, by decide, by first | omega | exact pa_sk8 (by omega) hT8⟩, ⟨_, _, _, _, _, _, _, _, _, _, _, _, _, _, _, _, _, _, _, rfl, (fun j hj => by first | rfl | exact upd_n hj), (fun j hj => by refine ⟨?_, ?_, ?_, ?_⟩ <;> first | rfl | exact upd_n (by omega) | (rw [upd_n (by omega), upd_n (by omega)])), (fun j hj => by first | rfl | exact hfm j hj | exact pa_wr_b (by omega))⟩⟩
      · show am_T _ _ 0 [some (.ref 80), none, none] _ _ _
        refine tv_b (pc' := 8) (ls' := [some (.ref 80), none, none]) (st' := [.int (I 80 14), .ref 82]) (h' := (n, sl, wKK kk, (mrI (stI I r82 r83 r84 r85 r86) tk 0 (-1) 1 (nI ce0) dp op om od r87 r88 r89 r90 r91 r92 r93), (mwL L w), wQQ q)) 4 rfl ?_
        refine tv_top (hN.1) ?_
        refine tv_ialN (k := N) rfl (rfl) (⟨by omega, by omega⟩) ?_
        refine tv_top (hk82) ?_
        refine tv_b (pc' := (if (nI k) = 20 then 14 else 23)) (ls' := [some (.ref 80), none, none]) (st' := []) (h' := (n, sl, wKK kk, (mrI (stI I r82 r83 r84 r85 r86) tk 0 (-1) 1 (nI ce0) dp op om od r87 r88 r89 r90 r91 r92 r93), (mwL L w), wQQ q)) 2 rfl ?_
        refine tv_f (fun hq => absurd ((nI_eq (a := k) (b := 20) (by omega) (by omega)).mp hq) (by omega)) ?_
        refine tv_b (pc' := 27) (ls' := [some (.ref 80), none, none]) (st' := [.int (tk 12)]) (h' := (n, sl, wKK kk, (mrI (stI I r82 r83 r84 r85 r86) tk 0 (-1) 1 (nI ce0) dp op om od r87 r88 r89 r90 r91 r92 r93), (mwL L w), wQQ q)) 2 rfl ?_
        refine tv_top (hB.1) ?_
        refine tv_b (pc' := 53) (ls' := [some (.ref 80), none, none]) (st' := []) (h' := (n, sl, wKK kk, va_up (mrI (stI I r82 r83 r84 r85 r86) tk 0 (-1) 1 (nI ce0) dp op om od r87 r88 r89 r90 r91 r92 r93) 80 (upd ((mrI (stI I r82 r83 r84 r85 r86) tk 0 (-1) 1 (nI ce0) dp op om od r87 r88 r89 r90 r91 r92 r93) 80) 13 0), (mwL L w), wQQ q)) 8 rfl ?_
        refine tv_hI mrI_w_be ?_
        refine tv_b (pc' := 57) (ls' := [some (.ref 80), none, none]) (st' := [.long 1937010544, .ref 80]) (h' := (n, sl, wKK kk, (mrI (stI I r82 r83 r84 r85 r86) tk 0 (-1) 0 (nI ce0) dp op om od r87 r88 r89 r90 r91 r92 r93), (mwL L w), wQQ q)) 2 rfl ?_
        refine tv_cvE [.long 1937010544] [] rfl rfl (by omega) rfl (Nat.le_of_ble_eq_true rfl) (Nat.le_of_ble_eq_true rfl) (Or.inr (Or.inr rfl)) (ev_mr_isW ht (by decide) mw_3) ?_
        refine tv_b (pc' := (if (if pa_tk tx T A = 3 then 1 else 0) = 0 then 67 else 63)) (ls' := [some (.ref 80), none, none]) (st' := []) (h' := (n, sl, wKK kk, (mrI (stI I r82 r83 r84 r85 r86) tk 0 (-1) 0 (nI ce0) dp op om od r87 r88 r89 r90 r91 r92 r93), (mwL L w), wQQ q)) 1 rfl ?_
        refine tv_b0f (by omega) ?_
        refine tv_b (pc' := 71) (ls' := [some (.ref 80), none, none]) (st' := [.long 418430873463, .ref 80]) (h' := (n, sl, wKK kk, (mrI (stI I r82 r83 r84 r85 r86) tk 0 (-1) 0 (nI ce0) dp op om od r87 r88 r89 r90 r91 r92 r93), (mwL L w), wQQ q)) 2 rfl ?_
        refine tv_cvE [.long 418430873463] [] rfl rfl (by omega) rfl (Nat.le_of_ble_eq_true rfl) (Nat.le_of_ble_eq_true rfl) (Or.inr (Or.inr rfl)) (ev_mr_isW ht (by decide) mw_4) ?_
        refine tv_b (pc' := (if (if pa_tk tx T A = 4 then 1 else 0) = 0 then 81 else 77)) (ls' := [some (.ref 80), none, none]) (st' := []) (h' := (n, sl, wKK kk, (mrI (stI I r82 r83 r84 r85 r86) tk 0 (-1) 0 (nI ce0) dp op om od r87 r88 r89 r90 r91 r92 r93), (mwL L w), wQQ q)) 1 rfl ?_
        refine tv_b0f (by omega) ?_
        refine tv_b (pc' := 85) (ls' := [some (.ref 80), none, none]) (st' := [.long 465625246068, .ref 80]) (h' := (n, sl, wKK kk, (mrI (stI I r82 r83 r84 r85 r86) tk 0 (-1) 0 (nI ce0) dp op om od r87 r88 r89 r90 r91 r92 r93), (mwL L w), wQQ q)) 2 rfl ?_
        refine tv_cvE [.long 465625246068] [] rfl rfl (by omega) rfl (Nat.le_of_ble_eq_true rfl) (Nat.le_of_ble_eq_true rfl) (Or.inr (Or.inr rfl)) (ev_mr_isW ht (by decide) mw_5) ?_
        refine tv_b (pc' := (if (if pa_tk tx T A = 5 then 1 else 0) = 0 then 95 else 91)) (ls' := [some (.ref 80), none, none]) (st' := []) (h' := (n, sl, wKK kk, (mrI (stI I r82 r83 r84 r85 r86) tk 0 (-1) 0 (nI ce0) dp op om od r87 r88 r89 r90 r91 r92 r93), (mwL L w), wQQ q)) 1 rfl ?_
        refine tv_b0t (by omega) ?_
        refine tv_b (pc' := 125) (ls' := [some (.ref 80), some (.int 2), none]) (st' := [.int (I 80 14), .int 20]) (h' := (n, sl, wKK kk, (mrI (stI I r82 r83 r84 r85 r86) tk 0 (-1) 0 (nI ce0) dp op om od r87 r88 r89 r90 r91 r92 r93), (mwL L w), wQQ q)) 12 rfl ?_
        refine tv_top (hN.1) ?_
        refine tv_b (pc' := 126) (ls' := [some (.ref 80), some (.int 2), none]) (st' := [.int (20 * (nI N))]) (h' := (n, sl, wKK kk, (mrI (stI I r82 r83 r84 r85 r86) tk 0 (-1) 0 (nI ce0) dp op om od r87 r88 r89 r90 r91 r92 r93), (mwL L w), wQQ q)) 1 rfl ?_
        refine tv_top (show 20 * (nI N) = nI (20 * N) from nI_mul 20 N) ?_
        refine tv_b (pc' := 134) (ls' := [some (.ref 80), some (.int 2), none]) (st' := [.int (I 80 14), .ref 82, .int (nI (20 * N))]) (h' := (n, sl, wKK kk, (mrI (stI I r82 r83 r84 r85 r86) tk 0 (-1) 0 (nI ce0) dp op om od r87 r88 r89 r90 r91 r92 r93), (mwL L w), wQQ q)) 4 rfl ?_
        refine tv_top (hN.1) ?_
        refine tv_ialN (k := N) rfl (rfl) (⟨by omega, by omega⟩) ?_
        refine tv_top (hk82) ?_
        refine tv_b (pc' := 136) (ls' := [some (.ref 80), some (.int 2), none]) (st' := [.int ((nI (20 * N)) + (nI k))]) (h' := (n, sl, wKK kk, (mrI (stI I r82 r83 r84 r85 r86) tk 0 (-1) 0 (nI ce0) dp op om od r87 r88 r89 r90 r91 r92 r93), (mwL L w), wQQ q)) 1 rfl ?_
        refine tv_top (show (nI (20 * N)) + (nI k) = nI ((20 * N) + k) from nI_add (20 * N) k) ?_
        refine tv_b (pc' := 138) (ls' := [some (.ref 80), some (.int 2), some (.int (nI (20 * N + k)))]) (st' := [.ref 80]) (h' := (n, sl, wKK kk, (mrI (stI I r82 r83 r84 r85 r86) tk 0 (-1) 0 (nI ce0) dp op om od r87 r88 r89 r90 r91 r92 r93), (mwL L w), wQQ q)) 2 rfl ?_
        refine tv_cv [] [] rfl rfl (by omega) rfl (Nat.le_of_ble_eq_true rfl) (Nat.le_of_ble_eq_true rfl) (Or.inr (Or.inr rfl)) (tv_mr_nx hR (by omega) ht) ?_
        rintro rv9 h9 ⟨rfl, ⟨f1, tf1, w1, hr1, hf1, rfl⟩ | ⟨p1, t1, w1, hr1, hq1, hp1, ht1, rfl⟩⟩
        · refine tv_b (pc' := 147) (ls' := [some (.ref 80), some (.int 2), some (.int (nI (20 * N + k)))]) (st' := [.int 2, .int (nI (20 * N + k)), .ref 83]) (h' := (n, sl, wKK kk, (mrI (stI I r82 r83 r84 r85 r86) tf1 1 (nI f1) 0 (nI ce0) dp op om od r87 r88 r89 r90 r91 r92 r93), (mwL L w1), wQQ q)) 4 rfl ?_
          refine tv_iasN (k := (20 * N + k)) rfl (rfl) (⟨by omega, by omega⟩) ?_
          refine tv_hI mrI_w_r83 ?_
          refine tv_b (pc' := 154) (ls' := [some (.ref 80), some (.int 2), some (.int (nI (20 * N + k)))]) (st' := [.int (-1), .int (nI (20 * N + k)), .ref 84]) (h' := (n, sl, wKK kk, (mrI (stI I r82 (upd r83 (20 * N + k) 2) r84 r85 r86) tf1 1 (nI f1) 0 (nI ce0) dp op om od r87 r88 r89 r90 r91 r92 r93), (mwL L w1), wQQ q)) 4 rfl ?_
          refine tv_iasN (k := (20 * N + k)) rfl (rfl) (⟨by omega, by omega⟩) ?_
          refine tv_hI mrI_w_r84 ?_
          refine tv_b (pc' := 257) (ls' := [some (.ref 80), some (.int 2), some (.int (nI (20 * N + k)))]) (st' := [.int (nI ce0), .int (nI (20 * N + k)), .ref 85]) (h' := (n, sl, wKK kk, (mrI (stI I r82 (upd r83 (20 * N + k) 2) (upd r84 (20 * N + k) (-1)) r85 r86) tf1 1 (nI f1) 0 (nI ce0) dp op om od r87 r88 r89 r90 r91 r92 r93), (mwL L w1), wQQ q)) 13 rfl ?_
          refine tv_iasN (k := (20 * N + k)) rfl (rfl) (⟨by omega, by omega⟩) ?_
          refine tv_hI mrI_w_r85 ?_
          refine tv_b (pc' := 269) (ls' := [some (.ref 80), some (.int 2), some (.int (nI (20 * N + k)))]) (st' := [.int 0, .ref 80]) (h' := (n, sl, wKK kk, (mrI (stI I r82 (upd r83 (20 * N + k) 2) (upd r84 (20 * N + k) (-1)) (upd r85 (20 * N + k) (nI ce0)) r86) tf1 1 (nI f1) 0 (nI ce0) dp op om od r87 r88 r89 r90 r91 r92 r93), (mwL L w1), wQQ q)) 5 rfl ?_
          refine tv_cvE [.int 0] [] rfl rfl (by omega) rfl (Nat.le_of_ble_eq_true rfl) (Nat.le_of_ble_eq_true rfl) (Or.inr (Or.inr rfl)) (ev_mr_readsF (by decide)) ?_
          refine tv_b (pc' := 281) (ls' := [some (.ref 80), some (.int 2), some (.int (nI (20 * N + k)))]) (st' := [.int (nI ce0), .int (nI (20 * N + k)), .ref 86]) (h' := (n, sl, wKK kk, (mrI (stI I r82 (upd r83 (20 * N + k) 2) (upd r84 (20 * N + k) (-1)) (upd r85 (20 * N + k) (nI ce0)) r86) tf1 1 (nI f1) 0 (nI ce0) dp op om od r87 r88 r89 r90 r91 r92 r93), (mwL L w1), wQQ q)) 5 rfl ?_
          refine tv_iasN (k := (20 * N + k)) rfl (rfl) (⟨by omega, by omega⟩) ?_
          refine tv_hI mrI_w_r86 ?_
          refine tv_b (pc' := 287) (ls' := [some (.ref 80), some (.int 2), some (.int (nI (20 * N + k)))]) (st' := []) (h' := (n, sl, wKK kk, va_up (mrI (stI I r82 (upd r83 (20 * N + k) 2) (upd r84 (20 * N + k) (-1)) (upd r85 (20 * N + k) (nI ce0)) (upd r86 (20 * N + k) (nI ce0))) tf1 1 (nI f1) 0 (nI ce0) dp op om od r87 r88 r89 r90 r91 r92 r93) 80 (upd ((mrI (stI I r82 (upd r83 (20 * N + k) 2) (upd r84 (20 * N + k) (-1)) (upd r85 (20 * N + k) (nI ce0)) (upd r86 (20 * N + k) (nI ce0))) tf1 1 (nI f1) 0 (nI ce0) dp op om od r87 r88 r89 r90 r91 r92 r93) 80) 13 1), (mwL L w1), wQQ q)) 3 rfl ?_
          refine tv_hI mrI_w_be ?_
          refine tv_b (pc' := 308) (ls' := [some (.ref 80), some (.int 2), some (.int (nI (20 * N + k)))]) (st' := [.int (I 80 14), .ref 82]) (h' := (n, sl, wKK kk, (mrI (stI I r82 (upd r83 (20 * N + k) 2) (upd r84 (20 * N + k) (-1)) (upd r85 (20 * N + k) (nI ce0)) (upd r86 (20 * N + k) (nI ce0))) tf1 1 (nI f1) 1 (nI ce0) dp op om od r87 r88 r89 r90 r91 r92 r93), (mwL L w1), wQQ q)) 7 rfl ?_
          refine tv_top (hN.1) ?_
          refine tv_b (pc' := 309) (ls' := [some (.ref 80), some (.int 2), some (.int (nI (20 * N + k)))]) (st' := [.int (nI N), .ref 82, .int (nI N), .ref 82]) (h' := (n, sl, wKK kk, (mrI (stI I r82 (upd r83 (20 * N + k) 2) (upd r84 (20 * N + k) (-1)) (upd r85 (20 * N + k) (nI ce0)) (upd r86 (20 * N + k) (nI ce0))) tf1 1 (nI f1) 1 (nI ce0) dp op om od r87 r88 r89 r90 r91 r92 r93), (mwL L w1), wQQ q)) 1 rfl ?_
          refine tv_ialN (k := N) rfl (rfl) (⟨by omega, by omega⟩) ?_
          refine tv_top (hk82) ?_
          refine tv_b (pc' := 311) (ls' := [some (.ref 80), some (.int 2), some (.int (nI (20 * N + k)))]) (st' := [.int 1, .int (nI k), .int (nI N), .ref 82]) (h' := (n, sl, wKK kk, (mrI (stI I r82 (upd r83 (20 * N + k) 2) (upd r84 (20 * N + k) (-1)) (upd r85 (20 * N + k) (nI ce0)) (upd r86 (20 * N + k) (nI ce0))) tf1 1 (nI f1) 1 (nI ce0) dp op om od r87 r88 r89 r90 r91 r92 r93), (mwL L w1), wQQ q)) 1 rfl ?_
          refine tv_b (pc' := 312) (ls' := [some (.ref 80), some (.int 2), some (.int (nI (20 * N + k)))]) (st' := [.int ((nI k) + 1), .int (nI N), .ref 82]) (h' := (n, sl, wKK kk, (mrI (stI I r82 (upd r83 (20 * N + k) 2) (upd r84 (20 * N + k) (-1)) (upd r85 (20 * N + k) (nI ce0)) (upd r86 (20 * N + k) (nI ce0))) tf1 1 (nI f1) 1 (nI ce0) dp op om od r87 r88 r89 r90 r91 r92 r93), (mwL L w1), wQQ q)) 1 rfl ?_
          refine tv_top (show (nI k) + 1 = nI (k + 1) from nI_add k 1) ?_
          refine tv_iasN (k := N) rfl (rfl) (⟨by omega, by omega⟩) ?_
          refine tv_hI mrI_w_r82 ?_
          rw [if_neg hk20]
          have e : pa_stmt tx T A = _ := (pa_stmt_5 hlf (by omega)).trans (pa_fin_l (pa_bnd_i hr1))
          rw [e]
          exact tv_rv rfl ⟨rfl, _, _, rfl, ⟨by decide, by decide, by first | omega | exact pa_sk8 (by omega) hT8⟩, ⟨_, _, _, _, _, _, _, _, _, _, _, _, _, _, _, _, _, _, _, rfl, (fun j hj => by first | rfl | exact upd_n hj), (fun j hj => by refine ⟨?_, ?_, ?_, ?_⟩ <;> first | rfl | exact upd_n (by omega) | (rw [upd_n (by omega), upd_n (by omega)])), (fun j hj => by first | rfl | exact hfm j hj | exact pa_wr_b (by omega))⟩⟩
        · have hd1 := pa_tk_lt (b := tx) (n := T) p1
          have hx1 := (pa_ed_le (b := tx) (n := T) (p := A) (by omega)).2
          refine tv_b (pc' := 147) (ls' := [some (.ref 80), some (.int 2), some (.int (nI (20 * N + k)))]) (st' := [.int 2, .int (nI (20 * N + k)), .ref 83]) (h' := (n, sl, wKK kk, (mrI (stI I r82 r83 r84 r85 r86) t1 0 (-1) 0 (nI ce0) dp op om od r87 r88 r89 r90 r91 r92 r93), (mwL L w1), wQQ q)) 4 rfl ?_
          refine tv_iasN (k := (20 * N + k)) rfl (rfl) (⟨by omega, by omega⟩) ?_
          refine tv_hI mrI_w_r83 ?_
          refine tv_b (pc' := 154) (ls' := [some (.ref 80), some (.int 2), some (.int (nI (20 * N + k)))]) (st' := [.int (-1), .int (nI (20 * N + k)), .ref 84]) (h' := (n, sl, wKK kk, (mrI (stI I r82 (upd r83 (20 * N + k) 2) r84 r85 r86) t1 0 (-1) 0 (nI ce0) dp op om od r87 r88 r89 r90 r91 r92 r93), (mwL L w1), wQQ q)) 4 rfl ?_
          refine tv_iasN (k := (20 * N + k)) rfl (rfl) (⟨by omega, by omega⟩) ?_
          refine tv_hI mrI_w_r84 ?_
          refine tv_b (pc' := 172) (ls' := [some (.ref 80), some (.int 2), some (.int (nI (20 * N + k)))]) (st' := [.ref 80, .int (nI (20 * N + k)), .ref 84]) (h' := (n, sl, wKK kk, (mrI (stI I r82 (upd r83 (20 * N + k) 2) (upd r84 (20 * N + k) (-1)) r85 r86) t1 0 (-1) 0 (nI ce0) dp op om od r87 r88 r89 r90 r91 r92 r93), (mwL L w1), wQQ q)) 9 rfl ?_
          by_cases hw2 : pa_tk tx T p1 ≤ 2
          · refine tv_cvE [] [.int (nI (20 * N + k)), .ref 84] rfl rfl (by omega) rfl (Nat.le_of_ble_eq_true rfl) (Nat.le_of_ble_eq_true rfl) (Or.inr (Or.inr rfl)) (ev_mr_work1 ht1 hw2) ?_
            refine tv_iasN (k := (20 * N + k)) rfl (rfl) (⟨by omega, by omega⟩) ?_
            refine tv_hI mrI_w_r84 ?_
            refine tv_b (pc' := 181) (ls' := [some (.ref 80), some (.int 2), some (.int (nI (20 * N + k)))]) (st' := [.int (nI (20 * N + k)), .ref 84]) (h' := (n, sl, wKK kk, (mrI (stI I r82 (upd r83 (20 * N + k) 2) (upd (upd r84 (20 * N + k) (-1)) (20 * N + k) (nI (pa_tk tx T p1))) r85 r86) t1 0 (-1) 0 (nI ce0) dp op om od r87 r88 r89 r90 r91 r92 r93), (mwL L w1), wQQ q)) 3 rfl ?_
            refine tv_ialN (k := (20 * N + k)) rfl (rfl) (⟨by omega, by omega⟩) ?_
            refine tv_top (upd_e) ?_
            refine tv_b (pc' := (if (nI (pa_tk tx T p1)) = (-1) then 186 else 195)) (ls' := [some (.ref 80), some (.int 2), some (.int (nI (20 * N + k)))]) (st' := []) (h' := (n, sl, wKK kk, (mrI (stI I r82 (upd r83 (20 * N + k) 2) (upd (upd r84 (20 * N + k) (-1)) (20 * N + k) (nI (pa_tk tx T p1))) r85 r86) t1 0 (-1) 0 (nI ce0) dp op om od r87 r88 r89 r90 r91 r92 r93), (mwL L w1), wQQ q)) 2 rfl ?_
            refine tv_f (mr_nI_ne (by omega)) ?_
            refine tv_b (pc' := 203) (ls' := [some (.ref 80), some (.int 2), some (.int (nI (20 * N + k)))]) (st' := [.ref 80]) (h' := (n, sl, wKK kk, (mrI (stI I r82 (upd r83 (20 * N + k) 2) (upd (upd r84 (20 * N + k) (-1)) (20 * N + k) (nI (pa_tk tx T p1))) r85 r86) t1 0 (-1) 0 (nI ce0) dp op om od r87 r88 r89 r90 r91 r92 r93), (mwL L w1), wQQ q)) 4 rfl ?_
            refine tv_cv [] [] rfl rfl (by omega) rfl (Nat.le_of_ble_eq_true rfl) (Nat.le_of_ble_eq_true rfl) (Or.inr (Or.inr rfl)) (tv_mr_nx hR (by omega) ht1) ?_
            rintro rv9 h9 ⟨rfl, ⟨f2, tf2, w2, hr2, hf2, rfl⟩ | ⟨p2, t2, w2, hr2, hq2, hp2, ht2, rfl⟩⟩
            · refine tv_b (pc' := 257) (ls' := [some (.ref 80), some (.int 2), some (.int (nI (20 * N + k)))]) (st' := [.int (nI ce0), .int (nI (20 * N + k)), .ref 85]) (h' := (n, sl, wKK kk, (mrI (stI I r82 (upd r83 (20 * N + k) 2) (upd (upd r84 (20 * N + k) (-1)) (20 * N + k) (nI (pa_tk tx T p1))) r85 r86) tf2 1 (nI f2) 0 (nI ce0) dp op om od r87 r88 r89 r90 r91 r92 r93), (mwL L w2), wQQ q)) 8 rfl ?_
              refine tv_iasN (k := (20 * N + k)) rfl (rfl) (⟨by omega, by omega⟩) ?_
              refine tv_hI mrI_w_r85 ?_
              refine tv_b (pc' := 269) (ls' := [some (.ref 80), some (.int 2), some (.int (nI (20 * N + k)))]) (st' := [.int 0, .ref 80]) (h' := (n, sl, wKK kk, (mrI (stI I r82 (upd r83 (20 * N + k) 2) (upd (upd r84 (20 * N + k) (-1)) (20 * N + k) (nI (pa_tk tx T p1))) (upd r85 (20 * N + k) (nI ce0)) r86) tf2 1 (nI f2) 0 (nI ce0) dp op om od r87 r88 r89 r90 r91 r92 r93), (mwL L w2), wQQ q)) 5 rfl ?_
              refine tv_cvE [.int 0] [] rfl rfl (by omega) rfl (Nat.le_of_ble_eq_true rfl) (Nat.le_of_ble_eq_true rfl) (Or.inr (Or.inr rfl)) (ev_mr_readsF (by decide)) ?_
              refine tv_b (pc' := 281) (ls' := [some (.ref 80), some (.int 2), some (.int (nI (20 * N + k)))]) (st' := [.int (nI ce0), .int (nI (20 * N + k)), .ref 86]) (h' := (n, sl, wKK kk, (mrI (stI I r82 (upd r83 (20 * N + k) 2) (upd (upd r84 (20 * N + k) (-1)) (20 * N + k) (nI (pa_tk tx T p1))) (upd r85 (20 * N + k) (nI ce0)) r86) tf2 1 (nI f2) 0 (nI ce0) dp op om od r87 r88 r89 r90 r91 r92 r93), (mwL L w2), wQQ q)) 5 rfl ?_
              refine tv_iasN (k := (20 * N + k)) rfl (rfl) (⟨by omega, by omega⟩) ?_
              refine tv_hI mrI_w_r86 ?_
              refine tv_b (pc' := 287) (ls' := [some (.ref 80), some (.int 2), some (.int (nI (20 * N + k)))]) (st' := []) (h' := (n, sl, wKK kk, va_up (mrI (stI I r82 (upd r83 (20 * N + k) 2) (upd (upd r84 (20 * N + k) (-1)) (20 * N + k) (nI (pa_tk tx T p1))) (upd r85 (20 * N + k) (nI ce0)) (upd r86 (20 * N + k) (nI ce0))) tf2 1 (nI f2) 0 (nI ce0) dp op om od r87 r88 r89 r90 r91 r92 r93) 80 (upd ((mrI (stI I r82 (upd r83 (20 * N + k) 2) (upd (upd r84 (20 * N + k) (-1)) (20 * N + k) (nI (pa_tk tx T p1))) (upd r85 (20 * N + k) (nI ce0)) (upd r86 (20 * N + k) (nI ce0))) tf2 1 (nI f2) 0 (nI ce0) dp op om od r87 r88 r89 r90 r91 r92 r93) 80) 13 1), (mwL L w2), wQQ q)) 3 rfl ?_
              refine tv_hI mrI_w_be ?_
              refine tv_b (pc' := 308) (ls' := [some (.ref 80), some (.int 2), some (.int (nI (20 * N + k)))]) (st' := [.int (I 80 14), .ref 82]) (h' := (n, sl, wKK kk, (mrI (stI I r82 (upd r83 (20 * N + k) 2) (upd (upd r84 (20 * N + k) (-1)) (20 * N + k) (nI (pa_tk tx T p1))) (upd r85 (20 * N + k) (nI ce0)) (upd r86 (20 * N + k) (nI ce0))) tf2 1 (nI f2) 1 (nI ce0) dp op om od r87 r88 r89 r90 r91 r92 r93), (mwL L w2), wQQ q)) 7 rfl ?_
              refine tv_top (hN.1) ?_
              refine tv_b (pc' := 309) (ls' := [some (.ref 80), some (.int 2), some (.int (nI (20 * N + k)))]) (st' := [.int (nI N), .ref 82, .int (nI N), .ref 82]) (h' := (n, sl, wKK kk, (mrI (stI I r82 (upd r83 (20 * N + k) 2) (upd (upd r84 (20 * N + k) (-1)) (20 * N + k) (nI (pa_tk tx T p1))) (upd r85 (20 * N + k) (nI ce0)) (upd r86 (20 * N + k) (nI ce0))) tf2 1 (nI f2) 1 (nI ce0) dp op om od r87 r88 r89 r90 r91 r92 r93), (mwL L w2), wQQ q)) 1 rfl ?_
              refine tv_ialN (k := N) rfl (rfl) (⟨by omega, by omega⟩) ?_
              refine tv_top (hk82) ?_
              refine tv_b (pc' := 311) (ls' := [some (.ref 80), some (.int 2), some (.int (nI (20 * N + k)))]) (st' := [.int 1, .int (nI k), .int (nI N), .ref 82]) (h' := (n, sl, wKK kk, (mrI (stI I r82 (upd r83 (20 * N + k) 2) (upd (upd r84 (20 * N + k) (-1)) (20 * N + k) (nI (pa_tk tx T p1))) (upd r85 (20 * N + k) (nI ce0)) (upd r86 (20 * N + k) (nI ce0))) tf2 1 (nI f2) 1 (nI ce0) dp op om od r87 r88 r89 r90 r91 r92 r93), (mwL L w2), wQQ q)) 1 rfl ?_
              refine tv_b (pc' := 312) (ls' := [some (.ref 80), some (.int 2), some (.int (nI (20 * N + k)))]) (st' := [.int ((nI k) + 1), .int (nI N), .ref 82]) (h' := (n, sl, wKK kk, (mrI (stI I r82 (upd r83 (20 * N + k) 2) (upd (upd r84 (20 * N + k) (-1)) (20 * N + k) (nI (pa_tk tx T p1))) (upd r85 (20 * N + k) (nI ce0)) (upd r86 (20 * N + k) (nI ce0))) tf2 1 (nI f2) 1 (nI ce0) dp op om od r87 r88 r89 r90 r91 r92 r93), (mwL L w2), wQQ q)) 1 rfl ?_
              refine tv_top (show (nI k) + 1 = nI (k + 1) from nI_add k 1) ?_
              refine tv_iasN (k := N) rfl (rfl) (⟨by omega, by omega⟩) ?_
              refine tv_hI mrI_w_r82 ?_
              rw [if_neg hk20]
              have e : pa_stmt tx T A = _ := (pa_stmt_5 hlf (by omega)).trans (pa_fin_l (pa_bnd_n (hr1) (pa_bnd_i ((pa_ex_2t (by omega)).trans hr2))))
              rw [e]
              exact tv_rv rfl ⟨rfl, _, _, rfl, ⟨by decide, by decide, by first | omega | exact pa_sk8 (by omega) hT8⟩, ⟨_, _, _, _, _, _, _, _, _, _, _, _, _, _, _, _, _, _, _, rfl, (fun j hj => by first | rfl | exact upd_n hj), (fun j hj => by refine ⟨?_, ?_, ?_, ?_⟩ <;> first | rfl | exact upd_n (by omega) | (rw [upd_n (by omega), upd_n (by omega)])), (fun j hj => by first | rfl | exact hfm j hj | exact pa_wr_b (by omega))⟩⟩
            · have hd2 := pa_tk_lt (b := tx) (n := T) p2
              have hx2 := (pa_ed_le (b := tx) (n := T) (p := p1) (by omega)).2
              refine tv_b (pc' := 257) (ls' := [some (.ref 80), some (.int 2), some (.int (nI (20 * N + k)))]) (st' := [.int (nI ce0), .int (nI (20 * N + k)), .ref 85]) (h' := (n, sl, wKK kk, (mrI (stI I r82 (upd r83 (20 * N + k) 2) (upd (upd r84 (20 * N + k) (-1)) (20 * N + k) (nI (pa_tk tx T p1))) r85 r86) t2 0 (-1) 0 (nI ce0) dp op om od r87 r88 r89 r90 r91 r92 r93), (mwL L w2), wQQ q)) 8 rfl ?_
              refine tv_iasN (k := (20 * N + k)) rfl (rfl) (⟨by omega, by omega⟩) ?_
              refine tv_hI mrI_w_r85 ?_
              refine tv_b (pc' := 269) (ls' := [some (.ref 80), some (.int 2), some (.int (nI (20 * N + k)))]) (st' := [.int 0, .ref 80]) (h' := (n, sl, wKK kk, (mrI (stI I r82 (upd r83 (20 * N + k) 2) (upd (upd r84 (20 * N + k) (-1)) (20 * N + k) (nI (pa_tk tx T p1))) (upd r85 (20 * N + k) (nI ce0)) r86) t2 0 (-1) 0 (nI ce0) dp op om od r87 r88 r89 r90 r91 r92 r93), (mwL L w2), wQQ q)) 5 rfl ?_
              refine tv_cv [.int 0] [] rfl rfl (by omega) rfl (Nat.le_of_ble_eq_true rfl) (Nat.le_of_ble_eq_true rfl) (Or.inr (Or.inr rfl)) (tv_mr_reads (I := (stI I r82 (upd r83 (20 * N + k) 2) (upd (upd r84 (20 * N + k) (-1)) (20 * N + k) (nI (pa_tk tx T p1))) (upd r85 (20 * N + k) (nI ce0)) r86)) hR hN ht2 (pa_nx_lf hr2) (by omega) (by omega) false) ?_
              rintro rv9 h9 ⟨rfl, I9, w0, rfl, hP⟩
              unfold rdwR at hP
              simp only [cond_true, cond_false] at hP
              rcases hb0 : pa_sum tx T 8 p2 with ⟨k0, l0⟩ | ⟨p0, cs0⟩ <;> rw [hb0] at hP
              · obtain ⟨hk0, tk0, be0, co0, dp0, op0, om0, od0, s87, s88, s89, s90, s91, s92, s93, rfl, hfm⟩ := hP
                have hk0n : ¬ nI k0 = 0 := fun h => hk0.1 ((nI_eq (a := k0) (b := 0) (by omega) (by omega)).mp h)
                refine tv_b (pc' := 281) (ls' := [some (.ref 80), some (.int 2), some (.int (nI (20 * N + k)))]) (st' := [.int co0, .int (nI (20 * N + k)), .ref 86]) (h' := (n, sl, wKK kk, (mrI (stI I r82 (upd r83 (20 * N + k) 2) (upd (upd r84 (20 * N + k) (-1)) (20 * N + k) (nI (pa_tk tx T p1))) (upd r85 (20 * N + k) (nI ce0)) r86) tk0 (nI k0) (nI l0) be0 co0 dp0 op0 om0 od0 s87 s88 s89 s90 s91 s92 s93), (mwL L w0), wQQ q)) 5 rfl ?_
                refine tv_iasN (k := (20 * N + k)) rfl (rfl) (⟨by omega, by omega⟩) ?_
                refine tv_hI mrI_w_r86 ?_
                refine tv_b (pc' := 287) (ls' := [some (.ref 80), some (.int 2), some (.int (nI (20 * N + k)))]) (st' := []) (h' := (n, sl, wKK kk, va_up (mrI (stI I r82 (upd r83 (20 * N + k) 2) (upd (upd r84 (20 * N + k) (-1)) (20 * N + k) (nI (pa_tk tx T p1))) (upd r85 (20 * N + k) (nI ce0)) (upd r86 (20 * N + k) co0)) tk0 (nI k0) (nI l0) be0 co0 dp0 op0 om0 od0 s87 s88 s89 s90 s91 s92 s93) 80 (upd ((mrI (stI I r82 (upd r83 (20 * N + k) 2) (upd (upd r84 (20 * N + k) (-1)) (20 * N + k) (nI (pa_tk tx T p1))) (upd r85 (20 * N + k) (nI ce0)) (upd r86 (20 * N + k) co0)) tk0 (nI k0) (nI l0) be0 co0 dp0 op0 om0 od0 s87 s88 s89 s90 s91 s92 s93) 80) 13 1), (mwL L w0), wQQ q)) 3 rfl ?_
                refine tv_hI mrI_w_be ?_
                refine tv_b (pc' := (if (nI k0) = 0 then 294 else 300)) (ls' := [some (.ref 80), some (.int 2), some (.int (nI (20 * N + k)))]) (st' := []) (h' := (n, sl, wKK kk, (mrI (stI I r82 (upd r83 (20 * N + k) 2) (upd (upd r84 (20 * N + k) (-1)) (20 * N + k) (nI (pa_tk tx T p1))) (upd r85 (20 * N + k) (nI ce0)) (upd r86 (20 * N + k) co0)) tk0 (nI k0) (nI l0) 1 co0 dp0 op0 om0 od0 s87 s88 s89 s90 s91 s92 s93), (mwL L w0), wQQ q)) 3 rfl ?_
                refine tv_f (hk0n) ?_
                refine tv_b (pc' := 308) (ls' := [some (.ref 80), some (.int 2), some (.int (nI (20 * N + k)))]) (st' := [.int (I 80 14), .ref 82]) (h' := (n, sl, wKK kk, (mrI (stI I r82 (upd r83 (20 * N + k) 2) (upd (upd r84 (20 * N + k) (-1)) (20 * N + k) (nI (pa_tk tx T p1))) (upd r85 (20 * N + k) (nI ce0)) (upd r86 (20 * N + k) co0)) tk0 (nI k0) (nI l0) 1 co0 dp0 op0 om0 od0 s87 s88 s89 s90 s91 s92 s93), (mwL L w0), wQQ q)) 4 rfl ?_
                refine tv_top (hN.1) ?_
                refine tv_b (pc' := 309) (ls' := [some (.ref 80), some (.int 2), some (.int (nI (20 * N + k)))]) (st' := [.int (nI N), .ref 82, .int (nI N), .ref 82]) (h' := (n, sl, wKK kk, (mrI (stI I r82 (upd r83 (20 * N + k) 2) (upd (upd r84 (20 * N + k) (-1)) (20 * N + k) (nI (pa_tk tx T p1))) (upd r85 (20 * N + k) (nI ce0)) (upd r86 (20 * N + k) co0)) tk0 (nI k0) (nI l0) 1 co0 dp0 op0 om0 od0 s87 s88 s89 s90 s91 s92 s93), (mwL L w0), wQQ q)) 1 rfl ?_
                refine tv_ialN (k := N) rfl (rfl) (⟨by omega, by omega⟩) ?_
                refine tv_top (hk82) ?_
                refine tv_b (pc' := 311) (ls' := [some (.ref 80), some (.int 2), some (.int (nI (20 * N + k)))]) (st' := [.int 1, .int (nI k), .int (nI N), .ref 82]) (h' := (n, sl, wKK kk, (mrI (stI I r82 (upd r83 (20 * N + k) 2) (upd (upd r84 (20 * N + k) (-1)) (20 * N + k) (nI (pa_tk tx T p1))) (upd r85 (20 * N + k) (nI ce0)) (upd r86 (20 * N + k) co0)) tk0 (nI k0) (nI l0) 1 co0 dp0 op0 om0 od0 s87 s88 s89 s90 s91 s92 s93), (mwL L w0), wQQ q)) 1 rfl ?_
                refine tv_b (pc' := 312) (ls' := [some (.ref 80), some (.int 2), some (.int (nI (20 * N + k)))]) (st' := [.int ((nI k) + 1), .int (nI N), .ref 82]) (h' := (n, sl, wKK kk, (mrI (stI I r82 (upd r83 (20 * N + k) 2) (upd (upd r84 (20 * N + k) (-1)) (20 * N + k) (nI (pa_tk tx T p1))) (upd r85 (20 * N + k) (nI ce0)) (upd r86 (20 * N + k) co0)) tk0 (nI k0) (nI l0) 1 co0 dp0 op0 om0 od0 s87 s88 s89 s90 s91 s92 s93), (mwL L w0), wQQ q)) 1 rfl ?_
                refine tv_top (show (nI k) + 1 = nI (k + 1) from nI_add k 1) ?_
                refine tv_iasN (k := N) rfl (rfl) (⟨by omega, by omega⟩) ?_
                refine tv_hI mrI_w_r82 ?_
                rw [if_neg hk20]
                have e : pa_stmt tx T A = _ := (pa_stmt_5 hlf (by omega)).trans (pa_fin_l (pa_bnd_n (hr1) (pa_bnd_n (((pa_ex_2t (by omega)).trans hr2)) hb0)))
                rw [e]
                exact tv_rv rfl ⟨rfl, _, _, rfl, hk0, ⟨_, _, _, _, _, _, _, _, _, _, _, _, _, _, _, _, _, _, _, rfl, (fun j hj => by first | rfl | exact upd_n hj), (fun j hj => by refine ⟨?_, ?_, ?_, ?_⟩ <;> first | rfl | exact upd_n (by omega) | (rw [upd_n (by omega), upd_n (by omega)])), (fun j hj => by first | rfl | exact hfm j hj | exact pa_wr_b (by omega))⟩⟩
              · obtain ⟨rs, tk0, dp0, op0, om0, od0, s88, s89, s90, s91, s92, s93, rfl, ht0, hE, hlt0, hcl0, hpT0⟩ := hP
                refine tv_b (pc' := 281) (ls' := [some (.ref 80), some (.int 2), some (.int (nI (20 * N + k)))]) (st' := [.int (nI (ce0 + rs.length)), .int (nI (20 * N + k)), .ref 86]) (h' := (n, sl, wKK kk, (mrI (stI I r82 (upd r83 (20 * N + k) 2) (upd (upd r84 (20 * N + k) (-1)) (20 * N + k) (nI (pa_tk tx T p1))) (upd r85 (20 * N + k) (nI ce0)) r86) tk0 0 (-1) 0 (nI (ce0 + rs.length)) dp0 op0 om0 od0 (pa_wr r87 (800 * N + ce0) (rs.map menc)) s88 s89 s90 s91 s92 s93), (mwL L w0), wQQ q)) 5 rfl ?_
                refine tv_iasN (k := (20 * N + k)) rfl (rfl) (⟨by omega, by omega⟩) ?_
                refine tv_hI mrI_w_r86 ?_
                refine tv_b (pc' := 287) (ls' := [some (.ref 80), some (.int 2), some (.int (nI (20 * N + k)))]) (st' := []) (h' := (n, sl, wKK kk, va_up (mrI (stI I r82 (upd r83 (20 * N + k) 2) (upd (upd r84 (20 * N + k) (-1)) (20 * N + k) (nI (pa_tk tx T p1))) (upd r85 (20 * N + k) (nI ce0)) (upd r86 (20 * N + k) (nI (ce0 + rs.length)))) tk0 0 (-1) 0 (nI (ce0 + rs.length)) dp0 op0 om0 od0 (pa_wr r87 (800 * N + ce0) (rs.map menc)) s88 s89 s90 s91 s92 s93) 80 (upd ((mrI (stI I r82 (upd r83 (20 * N + k) 2) (upd (upd r84 (20 * N + k) (-1)) (20 * N + k) (nI (pa_tk tx T p1))) (upd r85 (20 * N + k) (nI ce0)) (upd r86 (20 * N + k) (nI (ce0 + rs.length)))) tk0 0 (-1) 0 (nI (ce0 + rs.length)) dp0 op0 om0 od0 (pa_wr r87 (800 * N + ce0) (rs.map menc)) s88 s89 s90 s91 s92 s93) 80) 13 1), (mwL L w0), wQQ q)) 3 rfl ?_
                refine tv_hI mrI_w_be ?_
                refine tv_b (pc' := 297) (ls' := [some (.ref 80), some (.int 2), some (.int (nI (20 * N + k)))]) (st' := [.int 59, .ref 80]) (h' := (n, sl, wKK kk, (mrI (stI I r82 (upd r83 (20 * N + k) 2) (upd (upd r84 (20 * N + k) (-1)) (20 * N + k) (nI (pa_tk tx T p1))) (upd r85 (20 * N + k) (nI ce0)) (upd r86 (20 * N + k) (nI (ce0 + rs.length)))) tk0 0 (-1) 1 (nI (ce0 + rs.length)) dp0 op0 om0 od0 (pa_wr r87 (800 * N + ce0) (rs.map menc)) s88 s89 s90 s91 s92 s93), (mwL L w0), wQQ q)) 5 rfl ?_
                refine tv_cv [.int 59] [] rfl rfl (by omega) rfl (Nat.le_of_ble_eq_true rfl) (Nat.le_of_ble_eq_true rfl) (Or.inr (Or.inr rfl)) (tv_mr_must (I := (stI I r82 (upd r83 (20 * N + k) 2) (upd (upd r84 (20 * N + k) (-1)) (20 * N + k) (nI (pa_tk tx T p1))) (upd r85 (20 * N + k) (nI ce0)) (upd r86 (20 * N + k) (nI (ce0 + rs.length))))) hR hpT0 ht0) ?_
                rintro rv9 h9 ⟨rfl, ⟨h37, rfl⟩ | ⟨h37, tk9, fk9, fp9, w9, rfl, hn9⟩⟩
                · refine tv_b (pc' := 308) (ls' := [some (.ref 80), some (.int 2), some (.int (nI (20 * N + k)))]) (st' := [.int (I 80 14), .ref 82]) (h' := (n, sl, wKK kk, (mrI (stI I r82 (upd r83 (20 * N + k) 2) (upd (upd r84 (20 * N + k) (-1)) (20 * N + k) (nI (pa_tk tx T p1))) (upd r85 (20 * N + k) (nI ce0)) (upd r86 (20 * N + k) (nI (ce0 + rs.length)))) tk0 1 (nI (pa_sk tx T p0)) 1 (nI (ce0 + rs.length)) dp0 op0 om0 od0 (pa_wr r87 (800 * N + ce0) (rs.map menc)) s88 s89 s90 s91 s92 s93), (mwL L w0), wQQ q)) 4 rfl ?_
                  refine tv_top (hN.1) ?_
                  refine tv_b (pc' := 309) (ls' := [some (.ref 80), some (.int 2), some (.int (nI (20 * N + k)))]) (st' := [.int (nI N), .ref 82, .int (nI N), .ref 82]) (h' := (n, sl, wKK kk, (mrI (stI I r82 (upd r83 (20 * N + k) 2) (upd (upd r84 (20 * N + k) (-1)) (20 * N + k) (nI (pa_tk tx T p1))) (upd r85 (20 * N + k) (nI ce0)) (upd r86 (20 * N + k) (nI (ce0 + rs.length)))) tk0 1 (nI (pa_sk tx T p0)) 1 (nI (ce0 + rs.length)) dp0 op0 om0 od0 (pa_wr r87 (800 * N + ce0) (rs.map menc)) s88 s89 s90 s91 s92 s93), (mwL L w0), wQQ q)) 1 rfl ?_
                  refine tv_ialN (k := N) rfl (rfl) (⟨by omega, by omega⟩) ?_
                  refine tv_top (hk82) ?_
                  refine tv_b (pc' := 311) (ls' := [some (.ref 80), some (.int 2), some (.int (nI (20 * N + k)))]) (st' := [.int 1, .int (nI k), .int (nI N), .ref 82]) (h' := (n, sl, wKK kk, (mrI (stI I r82 (upd r83 (20 * N + k) 2) (upd (upd r84 (20 * N + k) (-1)) (20 * N + k) (nI (pa_tk tx T p1))) (upd r85 (20 * N + k) (nI ce0)) (upd r86 (20 * N + k) (nI (ce0 + rs.length)))) tk0 1 (nI (pa_sk tx T p0)) 1 (nI (ce0 + rs.length)) dp0 op0 om0 od0 (pa_wr r87 (800 * N + ce0) (rs.map menc)) s88 s89 s90 s91 s92 s93), (mwL L w0), wQQ q)) 1 rfl ?_
                  refine tv_b (pc' := 312) (ls' := [some (.ref 80), some (.int 2), some (.int (nI (20 * N + k)))]) (st' := [.int ((nI k) + 1), .int (nI N), .ref 82]) (h' := (n, sl, wKK kk, (mrI (stI I r82 (upd r83 (20 * N + k) 2) (upd (upd r84 (20 * N + k) (-1)) (20 * N + k) (nI (pa_tk tx T p1))) (upd r85 (20 * N + k) (nI ce0)) (upd r86 (20 * N + k) (nI (ce0 + rs.length)))) tk0 1 (nI (pa_sk tx T p0)) 1 (nI (ce0 + rs.length)) dp0 op0 om0 od0 (pa_wr r87 (800 * N + ce0) (rs.map menc)) s88 s89 s90 s91 s92 s93), (mwL L w0), wQQ q)) 1 rfl ?_
                  refine tv_top (show (nI k) + 1 = nI (k + 1) from nI_add k 1) ?_
                  refine tv_iasN (k := N) rfl (rfl) (⟨by omega, by omega⟩) ?_
                  refine tv_hI mrI_w_r82 ?_
                  rw [if_neg hk20]
                  have e : pa_stmt tx T A = _ := (pa_stmt_5 hlf (by omega)).trans (pa_fin_1 (pa_bnd_o (hr1) (pa_bnd_o (((pa_ex_2t (by omega)).trans hr2)) hb0)) h37)
                  rw [e]
                  exact tv_rv rfl ⟨rfl, _, _, rfl, ⟨by decide, by decide, by first | omega | exact pa_sk8 (by omega) hT8⟩, ⟨_, _, _, _, _, _, _, _, _, _, _, _, _, _, _, _, _, _, _, rfl, (fun j hj => by first | rfl | exact upd_n hj), (fun j hj => by refine ⟨?_, ?_, ?_, ?_⟩ <;> first | rfl | exact upd_n (by omega) | (rw [upd_n (by omega), upd_n (by omega)])), (fun j hj => by first | rfl | exact hfm j hj | exact pa_wr_b (by omega))⟩⟩
                · refine tv_b (pc' := 308) (ls' := [some (.ref 80), some (.int 2), some (.int (nI (20 * N + k)))]) (st' := [.int (I 80 14), .ref 82]) (h' := (n, sl, wKK kk, (mrI (stI I r82 (upd r83 (20 * N + k) 2) (upd (upd r84 (20 * N + k) (-1)) (20 * N + k) (nI (pa_tk tx T p1))) (upd r85 (20 * N + k) (nI ce0)) (upd r86 (20 * N + k) (nI (ce0 + rs.length)))) tk9 fk9 fp9 1 (nI (ce0 + rs.length)) dp0 op0 om0 od0 (pa_wr r87 (800 * N + ce0) (rs.map menc)) s88 s89 s90 s91 s92 s93), (mwL L w9), wQQ q)) 4 rfl ?_
                  refine tv_top (hN.1) ?_
                  refine tv_b (pc' := 309) (ls' := [some (.ref 80), some (.int 2), some (.int (nI (20 * N + k)))]) (st' := [.int (nI N), .ref 82, .int (nI N), .ref 82]) (h' := (n, sl, wKK kk, (mrI (stI I r82 (upd r83 (20 * N + k) 2) (upd (upd r84 (20 * N + k) (-1)) (20 * N + k) (nI (pa_tk tx T p1))) (upd r85 (20 * N + k) (nI ce0)) (upd r86 (20 * N + k) (nI (ce0 + rs.length)))) tk9 fk9 fp9 1 (nI (ce0 + rs.length)) dp0 op0 om0 od0 (pa_wr r87 (800 * N + ce0) (rs.map menc)) s88 s89 s90 s91 s92 s93), (mwL L w9), wQQ q)) 1 rfl ?_
                  refine tv_ialN (k := N) rfl (rfl) (⟨by omega, by omega⟩) ?_
                  refine tv_top (hk82) ?_
                  refine tv_b (pc' := 311) (ls' := [some (.ref 80), some (.int 2), some (.int (nI (20 * N + k)))]) (st' := [.int 1, .int (nI k), .int (nI N), .ref 82]) (h' := (n, sl, wKK kk, (mrI (stI I r82 (upd r83 (20 * N + k) 2) (upd (upd r84 (20 * N + k) (-1)) (20 * N + k) (nI (pa_tk tx T p1))) (upd r85 (20 * N + k) (nI ce0)) (upd r86 (20 * N + k) (nI (ce0 + rs.length)))) tk9 fk9 fp9 1 (nI (ce0 + rs.length)) dp0 op0 om0 od0 (pa_wr r87 (800 * N + ce0) (rs.map menc)) s88 s89 s90 s91 s92 s93), (mwL L w9), wQQ q)) 1 rfl ?_
                  refine tv_b (pc' := 312) (ls' := [some (.ref 80), some (.int 2), some (.int (nI (20 * N + k)))]) (st' := [.int ((nI k) + 1), .int (nI N), .ref 82]) (h' := (n, sl, wKK kk, (mrI (stI I r82 (upd r83 (20 * N + k) 2) (upd (upd r84 (20 * N + k) (-1)) (20 * N + k) (nI (pa_tk tx T p1))) (upd r85 (20 * N + k) (nI ce0)) (upd r86 (20 * N + k) (nI (ce0 + rs.length)))) tk9 fk9 fp9 1 (nI (ce0 + rs.length)) dp0 op0 om0 od0 (pa_wr r87 (800 * N + ce0) (rs.map menc)) s88 s89 s90 s91 s92 s93), (mwL L w9), wQQ q)) 1 rfl ?_
                  refine tv_top (show (nI k) + 1 = nI (k + 1) from nI_add k 1) ?_
                  refine tv_iasN (k := N) rfl (rfl) (⟨by omega, by omega⟩) ?_
                  refine tv_hI mrI_w_r82 ?_
                  rw [if_neg hk20]
                  have e : pa_stmt tx T A = _ := (pa_stmt_5 hlf (by omega)).trans (pa_fin_r (pa_bnd_o (hr1) (pa_bnd_o (((pa_ex_2t (by omega)).trans hr2)) hb0)) h37)
                  rw [e]
                  have hg9 := pa_ed_gt (b := tx) (n := T) (p := p0) (by omega)
                  have hwk : upd (upd r84 (20 * N + k) (-1)) (20 * N + k) (nI (pa_tk tx T p1)) = upd r84 (20 * N + k) (wkI 5 (pa_tk tx T (pa_ed tx T A))) := by rw [mr_upd2, hq1]; rfl
                  rw [hwk]
                  exact tv_rv rfl ⟨rfl, _, _, rfl, rs, _, _, _, _, _, _, _, _, _, _, _, _, _, rfl, hE, hg9.2, by omega, by decide, hn9, pa_semi h37⟩
          · refine tv_cvE [] [.int (nI (20 * N + k)), .ref 84] rfl rfl (by omega) rfl (Nat.le_of_ble_eq_true rfl) (Nat.le_of_ble_eq_true rfl) (Or.inr (Or.inr rfl)) (ev_mr_work0 ht1 hw2) ?_
            refine tv_iasN (k := (20 * N + k)) rfl (rfl) (⟨by omega, by omega⟩) ?_
            refine tv_hI mrI_w_r84 ?_
            refine tv_b (pc' := 181) (ls' := [some (.ref 80), some (.int 2), some (.int (nI (20 * N + k)))]) (st' := [.int (nI (20 * N + k)), .ref 84]) (h' := (n, sl, wKK kk, (mrI (stI I r82 (upd r83 (20 * N + k) 2) (upd (upd r84 (20 * N + k) (-1)) (20 * N + k) (-1)) r85 r86) t1 0 (-1) 0 (nI ce0) dp op om od r87 r88 r89 r90 r91 r92 r93), (mwL L w1), wQQ q)) 3 rfl ?_
            refine tv_ialN (k := (20 * N + k)) rfl (rfl) (⟨by omega, by omega⟩) ?_
            refine tv_top (upd_e) ?_
            refine tv_b (pc' := 192) (ls' := [some (.ref 80), some (.int 2), some (.int (nI (20 * N + k)))]) (st' := [.int (t1 4), .int 1, .ref 80]) (h' := (n, sl, wKK kk, (mrI (stI I r82 (upd r83 (20 * N + k) 2) (upd (upd r84 (20 * N + k) (-1)) (20 * N + k) (-1)) r85 r86) t1 0 (-1) 0 (nI ce0) dp op om od r87 r88 r89 r90 r91 r92 r93), (mwL L w1), wQQ q)) 6 rfl ?_
            refine tv_top (ht1.1) ?_
            refine tv_cvE [.int 1, .int (nI (pa_sk tx T p1))] [] rfl rfl (by omega) rfl (Nat.le_of_ble_eq_true rfl) (Nat.le_of_ble_eq_true rfl) (Or.inr (Or.inr rfl)) (ev_mr_blame0) ?_
            refine tv_b (pc' := 257) (ls' := [some (.ref 80), some (.int 2), some (.int (nI (20 * N + k)))]) (st' := [.int (nI ce0), .int (nI (20 * N + k)), .ref 85]) (h' := (n, sl, wKK kk, (mrI (stI I r82 (upd r83 (20 * N + k) 2) (upd (upd r84 (20 * N + k) (-1)) (20 * N + k) (-1)) r85 r86) t1 1 (nI (pa_sk tx T p1)) 0 (nI ce0) dp op om od r87 r88 r89 r90 r91 r92 r93), (mwL L w1), wQQ q)) 11 rfl ?_
            refine tv_iasN (k := (20 * N + k)) rfl (rfl) (⟨by omega, by omega⟩) ?_
            refine tv_hI mrI_w_r85 ?_
            refine tv_b (pc' := 269) (ls' := [some (.ref 80), some (.int 2), some (.int (nI (20 * N + k)))]) (st' := [.int 0, .ref 80]) (h' := (n, sl, wKK kk, (mrI (stI I r82 (upd r83 (20 * N + k) 2) (upd (upd r84 (20 * N + k) (-1)) (20 * N + k) (-1)) (upd r85 (20 * N + k) (nI ce0)) r86) t1 1 (nI (pa_sk tx T p1)) 0 (nI ce0) dp op om od r87 r88 r89 r90 r91 r92 r93), (mwL L w1), wQQ q)) 5 rfl ?_
            refine tv_cvE [.int 0] [] rfl rfl (by omega) rfl (Nat.le_of_ble_eq_true rfl) (Nat.le_of_ble_eq_true rfl) (Or.inr (Or.inr rfl)) (ev_mr_readsF (by decide)) ?_
            refine tv_b (pc' := 281) (ls' := [some (.ref 80), some (.int 2), some (.int (nI (20 * N + k)))]) (st' := [.int (nI ce0), .int (nI (20 * N + k)), .ref 86]) (h' := (n, sl, wKK kk, (mrI (stI I r82 (upd r83 (20 * N + k) 2) (upd (upd r84 (20 * N + k) (-1)) (20 * N + k) (-1)) (upd r85 (20 * N + k) (nI ce0)) r86) t1 1 (nI (pa_sk tx T p1)) 0 (nI ce0) dp op om od r87 r88 r89 r90 r91 r92 r93), (mwL L w1), wQQ q)) 5 rfl ?_
            refine tv_iasN (k := (20 * N + k)) rfl (rfl) (⟨by omega, by omega⟩) ?_
            refine tv_hI mrI_w_r86 ?_
            refine tv_b (pc' := 287) (ls' := [some (.ref 80), some (.int 2), some (.int (nI (20 * N + k)))]) (st' := []) (h' := (n, sl, wKK kk, va_up (mrI (stI I r82 (upd r83 (20 * N + k) 2) (upd (upd r84 (20 * N + k) (-1)) (20 * N + k) (-1)) (upd r85 (20 * N + k) (nI ce0)) (upd r86 (20 * N + k) (nI ce0))) t1 1 (nI (pa_sk tx T p1)) 0 (nI ce0) dp op om od r87 r88 r89 r90 r91 r92 r93) 80 (upd ((mrI (stI I r82 (upd r83 (20 * N + k) 2) (upd (upd r84 (20 * N + k) (-1)) (20 * N + k) (-1)) (upd r85 (20 * N + k) (nI ce0)) (upd r86 (20 * N + k) (nI ce0))) t1 1 (nI (pa_sk tx T p1)) 0 (nI ce0) dp op om od r87 r88 r89 r90 r91 r92 r93) 80) 13 1), (mwL L w1), wQQ q)) 3 rfl ?_
            refine tv_hI mrI_w_be ?_
            refine tv_b (pc' := 308) (ls' := [some (.ref 80), some (.int 2), some (.int (nI (20 * N + k)))]) (st' := [.int (I 80 14), .ref 82]) (h' := (n, sl, wKK kk, (mrI (stI I r82 (upd r83 (20 * N + k) 2) (upd (upd r84 (20 * N + k) (-1)) (20 * N + k) (-1)) (upd r85 (20 * N + k) (nI ce0)) (upd r86 (20 * N + k) (nI ce0))) t1 1 (nI (pa_sk tx T p1)) 1 (nI ce0) dp op om od r87 r88 r89 r90 r91 r92 r93), (mwL L w1), wQQ q)) 7 rfl ?_
            refine tv_top (hN.1) ?_
            refine tv_b (pc' := 309) (ls' := [some (.ref 80), some (.int 2), some (.int (nI (20 * N + k)))]) (st' := [.int (nI N), .ref 82, .int (nI N), .ref 82]) (h' := (n, sl, wKK kk, (mrI (stI I r82 (upd r83 (20 * N + k) 2) (upd (upd r84 (20 * N + k) (-1)) (20 * N + k) (-1)) (upd r85 (20 * N + k) (nI ce0)) (upd r86 (20 * N + k) (nI ce0))) t1 1 (nI (pa_sk tx T p1)) 1 (nI ce0) dp op om od r87 r88 r89 r90 r91 r92 r93), (mwL L w1), wQQ q)) 1 rfl ?_
            refine tv_ialN (k := N) rfl (rfl) (⟨by omega, by omega⟩) ?_
            refine tv_top (hk82) ?_
            refine tv_b (pc' := 311) (ls' := [some (.ref 80), some (.int 2), some (.int (nI (20 * N + k)))]) (st' := [.int 1, .int (nI k), .int (nI N), .ref 82]) (h' := (n, sl, wKK kk, (mrI (stI I r82 (upd r83 (20 * N + k) 2) (upd (upd r84 (20 * N + k) (-1)) (20 * N + k) (-1)) (upd r85 (20 * N + k) (nI ce0)) (upd r86 (20 * N + k) (nI ce0))) t1 1 (nI (pa_sk tx T p1)) 1 (nI ce0) dp op om od r87 r88 r89 r90 r91 r92 r93), (mwL L w1), wQQ q)) 1 rfl ?_
            refine tv_b (pc' := 312) (ls' := [some (.ref 80), some (.int 2), some (.int (nI (20 * N + k)))]) (st' := [.int ((nI k) + 1), .int (nI N), .ref 82]) (h' := (n, sl, wKK kk, (mrI (stI I r82 (upd r83 (20 * N + k) 2) (upd (upd r84 (20 * N + k) (-1)) (20 * N + k) (-1)) (upd r85 (20 * N + k) (nI ce0)) (upd r86 (20 * N + k) (nI ce0))) t1 1 (nI (pa_sk tx T p1)) 1 (nI ce0) dp op om od r87 r88 r89 r90 r91 r92 r93), (mwL L w1), wQQ q)) 1 rfl ?_
            refine tv_top (show (nI k) + 1 = nI (k + 1) from nI_add k 1) ?_
            refine tv_iasN (k := N) rfl (rfl) (⟨by omega, by omega⟩) ?_
            refine tv_hI mrI_w_r82 ?_
            rw [if_neg hk20]
            have e : pa_stmt tx T A = _ := (pa_stmt_5 hlf (by omega)).trans (pa_fin_l (pa_bnd_n (hr1) (pa_bnd_i (pa_ex_2f (by omega)))))
            rw [e]
            exact tv_rv rfl ⟨rfl, _, _, rfl, ⟨by decide, by decide, by first | omega | exact pa_sk8 (by omega) hT8⟩, ⟨_, _, _, _, _, _, _, _, _, _, _, _, _, _, _, _, _, _, _, rfl, (fun j hj => by first | rfl | exact upd_n hj), (fun j hj => by refine ⟨?_, ?_, ?_, ?_⟩ <;> first | rfl | exact upd_n (by omega) | (rw [upd_n (by omega), upd_n (by omega)])), (fun j hj => by first | rfl | exact hfm j hj | exact pa_wr_b (by omega))⟩⟩
    · show am_T _ _ 0 [some (.ref 80), none, none] _ _ _
      refine tv_b (pc' := 8) (ls' := [some (.ref 80), none, none]) (st' := [.int (I 80 14), .ref 82]) (h' := (n, sl, wKK kk, (mrI (stI I r82 r83 r84 r85 r86) tk 0 (-1) 1 (nI ce0) dp op om od r87 r88 r89 r90 r91 r92 r93), (mwL L w), wQQ q)) 4 rfl ?_
      refine tv_top (hN.1) ?_
      refine tv_ialN (k := N) rfl (rfl) (⟨by omega, by omega⟩) ?_
      refine tv_top (hk82) ?_
      refine tv_b (pc' := (if (nI k) = 20 then 14 else 23)) (ls' := [some (.ref 80), none, none]) (st' := []) (h' := (n, sl, wKK kk, (mrI (stI I r82 r83 r84 r85 r86) tk 0 (-1) 1 (nI ce0) dp op om od r87 r88 r89 r90 r91 r92 r93), (mwL L w), wQQ q)) 2 rfl ?_
      refine tv_f (fun hq => absurd ((nI_eq (a := k) (b := 20) (by omega) (by omega)).mp hq) (by omega)) ?_
      refine tv_b (pc' := 27) (ls' := [some (.ref 80), none, none]) (st' := [.int (tk 12)]) (h' := (n, sl, wKK kk, (mrI (stI I r82 r83 r84 r85 r86) tk 0 (-1) 1 (nI ce0) dp op om od r87 r88 r89 r90 r91 r92 r93), (mwL L w), wQQ q)) 2 rfl ?_
      refine tv_top (hB.1) ?_
      refine tv_b (pc' := 53) (ls' := [some (.ref 80), none, none]) (st' := []) (h' := (n, sl, wKK kk, va_up (mrI (stI I r82 r83 r84 r85 r86) tk 0 (-1) 1 (nI ce0) dp op om od r87 r88 r89 r90 r91 r92 r93) 80 (upd ((mrI (stI I r82 r83 r84 r85 r86) tk 0 (-1) 1 (nI ce0) dp op om od r87 r88 r89 r90 r91 r92 r93) 80) 13 0), (mwL L w), wQQ q)) 8 rfl ?_
      refine tv_hI mrI_w_be ?_
      refine tv_b (pc' := 57) (ls' := [some (.ref 80), none, none]) (st' := [.long 1937010544, .ref 80]) (h' := (n, sl, wKK kk, (mrI (stI I r82 r83 r84 r85 r86) tk 0 (-1) 0 (nI ce0) dp op om od r87 r88 r89 r90 r91 r92 r93), (mwL L w), wQQ q)) 2 rfl ?_
      refine tv_cvE [.long 1937010544] [] rfl rfl (by omega) rfl (Nat.le_of_ble_eq_true rfl) (Nat.le_of_ble_eq_true rfl) (Or.inr (Or.inr rfl)) (ev_mr_isW ht (by decide) mw_3) ?_
      refine tv_b (pc' := (if (if pa_tk tx T A = 3 then 1 else 0) = 0 then 67 else 63)) (ls' := [some (.ref 80), none, none]) (st' := []) (h' := (n, sl, wKK kk, (mrI (stI I r82 r83 r84 r85 r86) tk 0 (-1) 0 (nI ce0) dp op om od r87 r88 r89 r90 r91 r92 r93), (mwL L w), wQQ q)) 1 rfl ?_
      refine tv_b0f (by omega) ?_
      refine tv_b (pc' := 71) (ls' := [some (.ref 80), none, none]) (st' := [.long 418430873463, .ref 80]) (h' := (n, sl, wKK kk, (mrI (stI I r82 r83 r84 r85 r86) tk 0 (-1) 0 (nI ce0) dp op om od r87 r88 r89 r90 r91 r92 r93), (mwL L w), wQQ q)) 2 rfl ?_
      refine tv_cvE [.long 418430873463] [] rfl rfl (by omega) rfl (Nat.le_of_ble_eq_true rfl) (Nat.le_of_ble_eq_true rfl) (Or.inr (Or.inr rfl)) (ev_mr_isW ht (by decide) mw_4) ?_
      refine tv_b (pc' := (if (if pa_tk tx T A = 4 then 1 else 0) = 0 then 81 else 77)) (ls' := [some (.ref 80), none, none]) (st' := []) (h' := (n, sl, wKK kk, (mrI (stI I r82 r83 r84 r85 r86) tk 0 (-1) 0 (nI ce0) dp op om od r87 r88 r89 r90 r91 r92 r93), (mwL L w), wQQ q)) 1 rfl ?_
      refine tv_b0f (by omega) ?_
      refine tv_b (pc' := 85) (ls' := [some (.ref 80), none, none]) (st' := [.long 465625246068, .ref 80]) (h' := (n, sl, wKK kk, (mrI (stI I r82 r83 r84 r85 r86) tk 0 (-1) 0 (nI ce0) dp op om od r87 r88 r89 r90 r91 r92 r93), (mwL L w), wQQ q)) 2 rfl ?_
      refine tv_cvE [.long 465625246068] [] rfl rfl (by omega) rfl (Nat.le_of_ble_eq_true rfl) (Nat.le_of_ble_eq_true rfl) (Or.inr (Or.inr rfl)) (ev_mr_isW ht (by decide) mw_5) ?_
      refine tv_b (pc' := (if (if pa_tk tx T A = 5 then 1 else 0) = 0 then 95 else 91)) (ls' := [some (.ref 80), none, none]) (st' := []) (h' := (n, sl, wKK kk, (mrI (stI I r82 r83 r84 r85 r86) tk 0 (-1) 0 (nI ce0) dp op om od r87 r88 r89 r90 r91 r92 r93), (mwL L w), wQQ q)) 1 rfl ?_
      refine tv_b0f (by omega) ?_
      refine tv_b (pc' := 108) (ls' := [some (.ref 80), some (.int (-1)), none]) (st' := [.int (tk 4), .int 1, .ref 80]) (h' := (n, sl, wKK kk, (mrI (stI I r82 r83 r84 r85 r86) tk 0 (-1) 0 (nI ce0) dp op om od r87 r88 r89 r90 r91 r92 r93), (mwL L w), wQQ q)) 9 rfl ?_
      refine tv_top (ht.1) ?_
      refine tv_cvE [.int 1, .int (nI (pa_sk tx T A))] [] rfl rfl (by omega) rfl (Nat.le_of_ble_eq_true rfl) (Nat.le_of_ble_eq_true rfl) (Or.inr (Or.inr rfl)) (ev_mr_blame0) ?_
      refine tv_b (pc' := 118) (ls' := [some (.ref 80), some (.int (-1)), none]) (st' := []) (h' := (n, sl, wKK kk, (mrI (stI I r82 r83 r84 r85 r86) tk 1 (nI (pa_sk tx T A)) 0 (nI ce0) dp op om od r87 r88 r89 r90 r91 r92 r93), (mwL L w), wQQ q)) 3 rfl ?_
      rw [if_neg hk20]
      rw [pa_stmt_0 hlf (by omega)]
      exact tv_rv rfl ⟨rfl, _, _, rfl, ⟨by decide, by decide, by first | omega | exact pa_sk8 (by omega) hT8⟩, ⟨_, _, _, _, _, _, _, _, _, _, _, _, _, _, _, _, _, _, _, rfl, (fun j hj => by first | rfl | exact upd_n hj), (fun j hj => by refine ⟨?_, ?_, ?_, ?_⟩ <;> first | rfl | exact upd_n (by omega) | (rw [upd_n (by omega), upd_n (by omega)])), (fun j hj => by first | rfl | exact hfm j hj | exact pa_wr_b (by omega))⟩⟩
