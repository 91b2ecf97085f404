/-! THE REFERENCE'S READER: a part -/
theorem mr_wr {c : Nat → Int32} {N ce0 x v : Nat} {out : List (Nat × Nat)} : upd (pa_wr c (800 * N + ce0) (out.map menc)) (800 * N + (ce0 + out.length)) (nI (x * 16777216 + v)) = pa_wr c (800 * N + ce0) ((out ++ [(x, v)]).map menc) := by
  rw [List.map_append, ← pa_wr_app, List.length_map, Nat.add_assoc]
  rfl
theorem pa_wr_b {cs : List Nat} : ∀ {c : Nat → Int32} {e j : Nat}, j < e → pa_wr c e cs j = c j := by
  induction cs with
  | nil => intro c e j h; rfl
  | cons x cs ih =>
    intro c e j h
    show pa_wr (upd c e (nI x)) (e + 1) cs j = _
    rw [ih (by omega), upd_n (by omega)]
section RM
variable (tx : Nat → Nat) (T : Nat) (I : Nat → Nat → Int32) (N ce0 : Nat) (c87 : Nat → Int32)
/-- the store behind a fault of the reference's reader -/
def mrF (k pl : Nat) (I' : Nat → Nat → Int32) : Prop := ∃ tk be co dp op om od r87 r88 r89 r90 r91 r92 r93, I' = mrI I tk (nI k) (nI pl) be co dp op om od r87 r88 r89 r90 r91 r92 r93 ∧ ∀ j, j < 800 * N → r87 j = c87 j
/-- the store of the reference's frames -/
def mrS (od : Int32) (s : pa_S) (I' : Nat → Nat → Int32) (w : Int64) : Prop := ∃ tk r88 r89 r90 r91 r92 r93, I' = mrI I tk 0 (-1) 0 (nI (ce0 + s.2.2.2.length)) (nI s.2.2.1.length) (nI (s.2.2.1.length - 1)) (nI (fsum s.2.2.1)) od (pa_wr c87 (800 * N + ce0) (s.2.2.2.map menc)) r88 r89 r90 r91 r92 r93 ∧ tkP tx T s.1 (tk 3) (tk 4) (tk 5) (tk 6) w ∧ frR r88 r89 r90 r91 r92 r93 s.2.2.1
def mrJ (s : pa_S) : Prop := s.1 ≤ T ∧ 2 * fsum s.2.2.1 + (if s.2.1 = true then 1 else 0) ≤ s.1 ∧ fsum s.2.2.1 + ce0 + s.2.2.2.length ≤ s.1 ∧ s.2.2.1.length ≤ 9
/-- what part leaves -/
def stPR (od : Int32) (r : pa_R) (z : Int32) (I' : Nat → Nat → Int32) (w : Int64) : Prop := match r with
  | .inl (k, pl) => (z = 0 ∨ z = 1) ∧ (k ≠ 0 ∧ k ≤ 5 ∧ pl ≤ 800) ∧ mrF I N c87 k pl I'
  | .inr (b, s) => b = true ∧ z = (if s.2.1 = true then 1 else 0) ∧ mrS tx T I N ce0 c87 od s I' w ∧ mrJ T ce0 s
end RM
section SP
variable {b : Nat → Nat} {n p kd ph pr : Nat} {bg : Bool} {ops : List Nat} {fs : List pa_F} {out : List (Nat × Nat)}
theorem stP_not (hT : (pa_isT kd && bg) = true) (h : pa_tk b n p = 9) : pa_stP b n p (kd, ph, bg, pr, ops) fs out = pa_nr b n p (fun p' => .inr (true, p', false, (kd, ph, bg, pr, 26 :: ops) :: fs, out)) := by
  unfold pa_stP
  simp only
  rw [if_pos ⟨hT, h⟩]
theorem stP_br (hT : (pa_isT kd && bg) = true) (h : pa_tk b n p = 34) : pa_stP b n p (kd, ph, bg, pr, ops) fs out = (if fs.length = 8 then pa_fr b n 5 p else pa_nr b n p (fun p' => .inr (true, p', false, (5, 0, true, 0, []) :: (kd, ph, false, pr, ops) :: fs, out))) := by
  unfold pa_stP
  simp only
  rw [if_neg (by rintro ⟨_, q⟩; omega), if_pos ⟨hT, h⟩]
theorem stP_all (hT : (pa_isT kd && bg) = true) (h : pa_tk b n p = 10) : pa_stP b n p (kd, ph, bg, pr, ops) fs out = pa_nr b n p (fun p' => .inr (true, p', true, (kd, 2, false, pr, ops) :: fs, out ++ [(9, 0)])) := by
  unfold pa_stP
  simp only
  rw [if_neg (by rintro ⟨_, q⟩; omega), if_neg (by rintro ⟨_, q⟩; omega), if_pos ⟨hT, h⟩]
theorem stP_ld (h : pa_tk b n p = 18) : pa_stP b n p (kd, ph, bg, pr, ops) fs out = pa_nr b n p (fun p1 => if pa_tk b n p1 = 21 then (if 15 < pa_nm b n p1 then pa_fr b n 4 p1 else pa_nr b n p1 (fun p2 => .inr (true, p2, true, (kd, ph, false, pr, ops) :: fs, out ++ [(8, pa_nm b n p1)]))) else pa_fr b n 1 p1) := by
  unfold pa_stP
  simp only
  rw [if_neg (by rintro ⟨_, q⟩; omega), if_neg (by rintro ⟨_, q⟩; omega), if_neg (by rintro ⟨_, q⟩; omega), if_pos h]
theorem stP_op (h : pa_tk b n p = 32) : pa_stP b n p (kd, ph, bg, pr, ops) fs out = (if fs.length = 8 then pa_fr b n 5 p else pa_nr b n p (fun p' => .inr (true, p', false, (2, 0, true, 0, []) :: (kd, ph, false, pr, ops) :: fs, out))) := by
  unfold pa_stP
  simp only
  rw [if_neg (by rintro ⟨_, q⟩; omega), if_neg (by rintro ⟨_, q⟩; omega), if_neg (by rintro ⟨_, q⟩; omega), if_neg (by omega), if_pos h]
theorem stP_mm {t : Nat} (ht : t = 19 ∨ t = 20) (h : pa_tk b n p = t) : pa_stP b n p (kd, ph, bg, pr, ops) fs out = pa_nr b n p (fun p0 => if pa_tk b n p0 = 32 then (if fs.length = 8 then pa_fr b n 5 p0 else pa_nr b n p0 (fun p1 => .inr (true, p1, false, (3, 0, true, t, []) :: (kd, ph, false, pr, ops) :: fs, out))) else pa_fr b n 1 p0) := by
  unfold pa_stP
  simp only
  rw [if_neg (by rintro ⟨_, q⟩; omega), if_neg (by rintro ⟨_, q⟩; omega), if_neg (by rintro ⟨_, q⟩; omega), if_neg (by omega), if_neg (by omega), if_pos (by omega), h]
theorem stP_num (h : pa_tk b n p = 21) : pa_stP b n p (kd, ph, bg, pr, ops) fs out = pa_nr b n p (fun p' => .inr (true, p', true, (kd, ph, false, pr, ops) :: fs, out ++ [(0, pa_nm b n p)])) := by
  unfold pa_stP
  simp only
  rw [if_neg (by rintro ⟨_, q⟩; omega), if_neg (by rintro ⟨_, q⟩; omega), if_neg (by rintro ⟨_, q⟩; omega), if_neg (by omega), if_neg (by omega), if_neg (by omega), if_pos h]
theorem stP_ask (h : 11 ≤ pa_tk b n p ∧ pa_tk b n p ≤ 17) : pa_stP b n p (kd, ph, bg, pr, ops) fs out = pa_nr b n p (fun p' => .inr (true, p', true, (kd, ph, false, pr, ops) :: fs, out ++ [(pa_tk b n p - 10, 0)])) := by
  unfold pa_stP
  simp only
  rw [if_neg (by rintro ⟨_, q⟩; omega), if_neg (by rintro ⟨_, q⟩; omega), if_neg (by rintro ⟨_, q⟩; omega), if_neg (by omega), if_neg (by omega), if_neg (by omega), if_neg (by omega), if_pos h]
theorem stP_bad (hT : (pa_isT kd && bg) = true → pa_tk b n p ≠ 9 ∧ pa_tk b n p ≠ 34 ∧ pa_tk b n p ≠ 10) (h : pa_tk b n p ≠ 18 ∧ pa_tk b n p ≠ 32 ∧ pa_tk b n p ≠ 19 ∧ pa_tk b n p ≠ 20 ∧ pa_tk b n p ≠ 21 ∧ ¬ (11 ≤ pa_tk b n p ∧ pa_tk b n p ≤ 17)) : pa_stP b n p (kd, ph, bg, pr, ops) fs out = pa_fr b n 1 p := by
  unfold pa_stP
  simp only
  rw [if_neg (by rintro ⟨a, q⟩; have := hT a; omega), if_neg (by rintro ⟨a, q⟩; have := hT a; omega), if_neg (by rintro ⟨a, q⟩; have := hT a; omega), if_neg (by omega), if_neg (by omega), if_neg (by omega), if_neg (by omega), if_neg (by omega)]
theorem mask_y {t : Nat} (h : 0 < mask t) : (11 ≤ t ∧ t ≤ 17) ∧ mask t = t - 10 := by
  unfold mask at h ⊢
  by_cases c : 11 ≤ t ∧ t ≤ 17
  · rw [if_pos c]; exact ⟨c, rfl⟩
  · rw [if_neg c] at h; omega
theorem mask_n {t : Nat} (h : mask t ≤ 0) : ¬ (11 ≤ t ∧ t ≤ 17) := by
  intro c
  unfold mask at h
  rw [if_pos c] at h
  omega
theorem mask_le (t : Nat) : mask t ≤ 7 := by
  unfold mask
  split <;> omega
theorem pa_sk8 {p : Nat} (hp : p ≤ n) (hn : n ≤ 800) : pa_sk b n p ≤ 800 := Nat.le_trans (pa_sk_le hp) hn
end SP
theorem tv_mr_opens {d n sl : Nat} {kk : Nat → Nat × Nat} {I : Nat → Nat → Int32} {L : Nat → Nat → Int64} {q : Nat → Nat → Option Nat} {tx : Nat → Nat} {T : Nat} {tk : Nat → Int32} {fp co om od : Int32} {r87 r88 r89 r90 r91 r92 r93 : Nat → Int32} {w : Int64} {x : Int32} {p O D : Nat} (hR : mrH tx T I) (hp : p ≤ T) (hO : O ≤ 8) (hD : D < 20) (ht : tkP tx T p (tk 3) (tk 4) (tk 5) (tk 6) w) : am_T (d + 3) 172 0 (am_ent 2 [.ref 80, .int x]) [] (n, sl, wKK kk, (mrI I tk 0 fp 0 co (nI D) (nI O) om od r87 r88 r89 r90 r91 r92 r93), (mwL L w), wQQ q) (fun rv h' => rv = none ∧ ((O = 8 ∧ h' = (n, sl, wKK kk, (mrI I tk 5 (nI (pa_sk tx T p)) 0 co (nI D) (nI O) om od r87 r88 r89 r90 r91 r92 r93), (mwL L w), wQQ q)) ∨ (¬ O = 8 ∧ ∃ f tk' w', pa_nx tx T p = .inl (1, f) ∧ f ≤ 800 ∧ h' = (n, sl, wKK kk, (mrI I tk' 1 (nI f) 0 co (nI (D + 1)) (nI (O + 1)) om od r87 (upd r88 D x) (upd r89 D 0) (upd r90 D 1) r91 (upd r92 D om) r93), (mwL L w'), wQQ q)) ∨ (¬ O = 8 ∧ ∃ p1 tk' w', pa_nx tx T p = .inr (p1, []) ∧ p1 = pa_ed tx T p ∧ p1 ≤ T ∧ tkP tx T p1 (tk' 3) (tk' 4) (tk' 5) (tk' 6) w' ∧ h' = (n, sl, wKK kk, (mrI I tk' 0 fp 0 co (nI (D + 1)) (nI (O + 1)) om od r87 (upd r88 D x) (upd r89 D 0) (upd r90 D 1) r91 (upd r92 D om) r93), (mwL L w'), wQQ q)))) := by
  show am_T _ _ 0 [some (.ref 80), some (.int x)] _ _ _
  refine tv_b (pc' := (if (nI O) = 8 then 9 else 18)) (ls' := [some (.ref 80), some (.int x)]) (st' := []) (h' := (n, sl, wKK kk, (mrI I tk 0 fp 0 co (nI D) (nI O) om od r87 r88 r89 r90 r91 r92 r93), (mwL L w), wQQ q)) 4 rfl ?_
  refine tv_ifq (nI_eq (a := O) (b := 8) (by omega) (by omega)) (fun c6 => ?_) (fun c6 => ?_)
  · refine tv_b (pc' := 15) (ls' := [some (.ref 80), some (.int x)]) (st' := [.int (tk 4), .int 5, .ref 80]) (h' := (n, sl, wKK kk, (mrI I tk 0 fp 0 co (nI D) (nI O) om od r87 r88 r89 r90 r91 r92 r93), (mwL L w), wQQ q)) 4 rfl ?_
    refine tv_top (ht.1) ?_
    refine tv_cvE [.int 5, .int (nI (pa_sk tx T p))] [] rfl rfl (by omega) rfl (Nat.le_of_ble_eq_true rfl) (Nat.le_of_ble_eq_true rfl) (Or.inr (Or.inr rfl)) (ev_mr_blame0) ?_
    refine tv_b (pc' := 25) (ls' := [some (.ref 80), some (.int x)]) (st' := []) (h' := (n, sl, wKK kk, (mrI I tk 5 (nI (pa_sk tx T p)) 0 co (nI D) (nI O) om od r87 r88 r89 r90 r91 r92 r93), (mwL L w), wQQ q)) 3 rfl ?_
    exact tv_rv rfl ⟨rfl, Or.inl ⟨by omega, rfl⟩⟩
  · refine tv_b (pc' := 32) (ls' := [some (.ref 80), some (.int x)]) (st' := [.int 1, .int (nI O), .ref 80]) (h' := (n, sl, wKK kk, (mrI I tk 0 fp 0 co (nI D) (nI O) om od r87 r88 r89 r90 r91 r92 r93), (mwL L w), wQQ q)) 7 rfl ?_
    refine tv_b (pc' := 33) (ls' := [some (.ref 80), some (.int x)]) (st' := [.int ((nI O) + 1), .ref 80]) (h' := (n, sl, wKK kk, (mrI I tk 0 fp 0 co (nI D) (nI O) om od r87 r88 r89 r90 r91 r92 r93), (mwL L w), wQQ q)) 1 rfl ?_
    refine tv_top (show (nI O) + 1 = nI (O + 1) from nI_add O 1) ?_
    refine tv_b (pc' := 36) (ls' := [some (.ref 80), some (.int x)]) (st' := []) (h' := (n, sl, wKK kk, va_up (mrI I tk 0 fp 0 co (nI D) (nI O) om od r87 r88 r89 r90 r91 r92 r93) 80 (upd ((mrI I tk 0 fp 0 co (nI D) (nI O) om od r87 r88 r89 r90 r91 r92 r93) 80) 28 (nI (O + 1))), (mwL L w), wQQ q)) 1 rfl ?_
    refine tv_hI mrI_w_op ?_
    refine tv_b (pc' := 37) (ls' := [some (.ref 80), some (.int x)]) (st' := [.ref 80]) (h' := (n, sl, wKK kk, (mrI I tk 0 fp 0 co (nI D) (nI (O + 1)) om od r87 r88 r89 r90 r91 r92 r93), (mwL L w), wQQ q)) 1 rfl ?_
    refine tv_cv [] [] rfl rfl (by omega) rfl (Nat.le_of_ble_eq_true rfl) (Nat.le_of_ble_eq_true rfl) (Or.inr (Or.inr rfl)) (tv_mr_nx hR (by omega) ht) ?_
    rintro rv9 h9 ⟨rfl, ⟨f1, tf1, w1, hr1, hf1, rfl⟩ | ⟨p1, t1, w1, hr1, hq1, hp1, ht1, rfl⟩⟩
    · refine tv_b (pc' := 42) (ls' := [some (.ref 80), some (.int x)]) (st' := [.int x, .ref 80]) (h' := (n, sl, wKK kk, (mrI I tf1 1 (nI f1) 0 co (nI D) (nI (O + 1)) om od r87 r88 r89 r90 r91 r92 r93), (mwL L w1), wQQ q)) 2 rfl ?_
      refine tv_cvE [.int x] [] rfl rfl (by omega) rfl (Nat.le_of_ble_eq_true rfl) (Nat.le_of_ble_eq_true rfl) (Or.inr (Or.inr rfl)) (ev_mr_pushes (by omega)) ?_
      exact tv_rv rfl ⟨rfl, Or.inr (Or.inl ⟨by omega, f1, tf1, w1, hr1, hf1, rfl⟩)⟩
    · have hd1 := pa_tk_lt (b := tx) (n := T) p1
      have hx1 := (pa_ed_le (b := tx) (n := T) (p := p) (by omega)).2
      refine tv_b (pc' := 42) (ls' := [some (.ref 80), some (.int x)]) (st' := [.int x, .ref 80]) (h' := (n, sl, wKK kk, (mrI I t1 0 fp 0 co (nI D) (nI (O + 1)) om od r87 r88 r89 r90 r91 r92 r93), (mwL L w1), wQQ q)) 2 rfl ?_
      refine tv_cvE [.int x] [] rfl rfl (by omega) rfl (Nat.le_of_ble_eq_true rfl) (Nat.le_of_ble_eq_true rfl) (Or.inr (Or.inr rfl)) (ev_mr_pushes (by omega)) ?_
      exact tv_rv rfl ⟨rfl, Or.inr (Or.inr ⟨by omega, p1, t1, w1, hr1, hq1, hp1, ht1, rfl⟩)⟩
theorem ev_mr_opens1 {d n sl : Nat} {kk : Nat → Nat × Nat} {I : Nat → Nat → Int32} {L : Nat → Nat → Int64} {q : Nat → Nat → Option Nat} {tk : Nat → Int32} {fp be co dp op om od : Int32} {r87 r88 r89 r90 r91 r92 r93 : Nat → Int32} {w : Int64} {x : Int32} : am_Ev (d + 1) 172 0 (am_ent 2 [.ref 80, .int x]) [] (n, sl, wKK kk, (mrI I tk 1 fp be co dp op om od r87 r88 r89 r90 r91 r92 r93), (mwL L w), wQQ q) (none, (n, sl, wKK kk, (mrI I tk 1 fp be co dp op om od r87 r88 r89 r90 r91 r92 r93), (mwL L w), wQQ q)) := by
  refine tv_ev ?_
  show am_T _ _ 0 [some (.ref 80), some (.int x)] _ _ _
  refine tv_b (pc' := (if op = 8 then 9 else 18)) (ls' := [some (.ref 80), some (.int x)]) (st' := []) (h' := (n, sl, wKK kk, (mrI I tk 1 fp be co dp op om od r87 r88 r89 r90 r91 r92 r93), (mwL L w), wQQ q)) 4 rfl ?_
  refine tv_if (fun c6 => ?_) (fun c6 => ?_)
  · refine tv_b (pc' := 15) (ls' := [some (.ref 80), some (.int x)]) (st' := [.int (tk 4), .int 5, .ref 80]) (h' := (n, sl, wKK kk, (mrI I tk 1 fp be co dp op om od r87 r88 r89 r90 r91 r92 r93), (mwL L w), wQQ q)) 4 rfl ?_
    refine tv_cvE [.int 5, .int (tk 4)] [] rfl rfl (by omega) rfl (Nat.le_of_ble_eq_true rfl) (Nat.le_of_ble_eq_true rfl) (Or.inr (Or.inr rfl)) (ev_mr_blameF (by decide)) ?_
    refine tv_b (pc' := 25) (ls' := [some (.ref 80), some (.int x)]) (st' := []) (h' := (n, sl, wKK kk, (mrI I tk 1 fp be co dp op om od r87 r88 r89 r90 r91 r92 r93), (mwL L w), wQQ q)) 3 rfl ?_
    exact tv_rv rfl ⟨rfl, rfl⟩
  · refine tv_b (pc' := 25) (ls' := [some (.ref 80), some (.int x)]) (st' := []) (h' := (n, sl, wKK kk, (mrI I tk 1 fp be co dp op om od r87 r88 r89 r90 r91 r92 r93), (mwL L w), wQQ q)) 3 rfl ?_
    exact tv_rv rfl ⟨rfl, rfl⟩
set_option maxHeartbeats 8000000 in
theorem tv_mr_part {d n sl : Nat} {kk : Nat → Nat × Nat} {I : Nat → Nat → Int32} {L : Nat → Nat → Int64} {q : Nat → Nat → Option Nat} {tx : Nat → Nat} {T : Nat} {N ce0 : Nat} {c87 : Nat → Int32} {od : Int32} {p kd ph pr : Nat} {bg : Bool} {ops : List Nat} {fs : List pa_F} {out : List (Nat × Nat)} {tk r88 r89 r90 r91 r92 r93 : Nat → Int32} {w : Int64} (hR : mrH tx T I) (hN : I 80 14 = nI N ∧ N ≤ 200) (ht : tkP tx T p (tk 3) (tk 4) (tk 5) (tk 6) w) (hlf : pa_lf tx T p = none) (hfr : frR r88 r89 r90 r91 r92 r93 ((kd, ph, bg, pr, ops) :: fs)) (hJ : mrJ T ce0 (p, false, (kd, ph, bg, pr, ops) :: fs, out)) : am_T (d + 4) 174 0 (am_ent 4 [.ref 80]) [] (n, sl, wKK kk, (mrI I tk 0 (-1) 0 (nI (ce0 + out.length)) (nI (fs.length + 1)) (nI (fs.length)) (nI (fsum fs + ops.length)) od (pa_wr c87 (800 * N + ce0) (out.map menc)) r88 r89 r90 r91 r92 r93), (mwL L w), wQQ q) (fun rv h' => ∃ z I' w', rv = some (.int z) ∧ h' = (n, sl, wKK kk, I', mwL L w', wQQ q) ∧ stPR tx T I N ce0 c87 od (pa_stP tx T p (kd, ph, bg, pr, ops) fs out) z I' w') := by
  have hT8 := hR.2.1
  have hd0 := pa_tk_lt (b := tx) (n := T) p
  obtain ⟨hp, hj1, hj2, hj3⟩ : p ≤ T ∧ 2 * (fsum fs + ops.length) ≤ p ∧ fsum fs + ops.length + ce0 + out.length ≤ p ∧ fs.length + 1 ≤ 9 := by
    unfold mrJ at hJ
    simp only [fsum, List.length_cons, Bool.false_eq_true, if_false] at hJ
    omega
  have hk5 : kd ≤ 5 := hfr.2.1
  by_cases hT : (pa_isT kd && bg) = true
  · obtain ⟨hT1, hT2⟩ := (Bool.and_eq_true _ _).mp hT
    show am_T _ _ 0 [some (.ref 80), none, none, none] _ _ _
    refine tv_b (pc' := 5) (ls' := [some (.ref 80), none, none, none]) (st' := [.int 1, .int (nI (fs.length + 1))]) (h' := (n, sl, wKK kk, (mrI I tk 0 (-1) 0 (nI (ce0 + out.length)) (nI (fs.length + 1)) (nI (fs.length)) (nI (fsum fs + ops.length)) od (pa_wr c87 (800 * N + ce0) (out.map menc)) r88 r89 r90 r91 r92 r93), (mwL L w), wQQ q)) 3 rfl ?_
    refine tv_b (pc' := 6) (ls' := [some (.ref 80), none, none, none]) (st' := [.int ((nI (fs.length + 1)) - 1)]) (h' := (n, sl, wKK kk, (mrI I tk 0 (-1) 0 (nI (ce0 + out.length)) (nI (fs.length + 1)) (nI (fs.length)) (nI (fsum fs + ops.length)) od (pa_wr c87 (800 * N + ce0) (out.map menc)) r88 r89 r90 r91 r92 r93), (mwL L w), wQQ q)) 1 rfl ?_
    refine tv_top (show (nI (fs.length + 1)) - 1 = nI fs.length from nI_sub (a := (fs.length + 1)) (b := 1) (by omega)) ?_
    refine tv_b (pc' := 12) (ls' := [some (.ref 80), some (.int (nI fs.length)), none, none]) (st' := [.int (nI fs.length), .ref 88]) (h' := (n, sl, wKK kk, (mrI I tk 0 (-1) 0 (nI (ce0 + out.length)) (nI (fs.length + 1)) (nI (fs.length)) (nI (fsum fs + ops.length)) od (pa_wr c87 (800 * N + ce0) (out.map menc)) r88 r89 r90 r91 r92 r93), (mwL L w), wQQ q)) 4 rfl ?_
    refine tv_ialN (k := fs.length) rfl (rfl) (⟨by omega, by omega⟩) ?_
    refine tv_top (hfr.1) ?_
    refine tv_csE [.int (nI kd)] [] rfl rfl (by omega) rfl (Nat.le_of_ble_eq_true rfl) (Nat.le_of_ble_eq_true rfl) (ev_mr_isT hk5) ?_
    refine tv_b (pc' := (if (if pa_isT kd = true then 1 else 0) = 0 then 32 else 19)) (ls' := [some (.ref 80), some (.int (nI fs.length)), none, none]) (st' := []) (h' := (n, sl, wKK kk, (mrI I tk 0 (-1) 0 (nI (ce0 + out.length)) (nI (fs.length + 1)) (nI (fs.length)) (nI (fsum fs + ops.length)) od (pa_wr c87 (800 * N + ce0) (out.map menc)) r88 r89 r90 r91 r92 r93), (mwL L w), wQQ q)) 1 rfl ?_
    refine tv_b0t (hT1) ?_
    refine tv_b (pc' := 24) (ls' := [some (.ref 80), some (.int (nI fs.length)), none, none]) (st' := [.int (nI fs.length), .ref 90]) (h' := (n, sl, wKK kk, (mrI I tk 0 (-1) 0 (nI (ce0 + out.length)) (nI (fs.length + 1)) (nI (fs.length)) (nI (fsum fs + ops.length)) od (pa_wr c87 (800 * N + ce0) (out.map menc)) r88 r89 r90 r91 r92 r93), (mwL L w), wQQ q)) 3 rfl ?_
    refine tv_balN (k := fs.length) rfl (rfl) (⟨by first | exact Or.inl rfl | exact Or.inr rfl, by omega, by omega⟩) ?_
    refine tv_top (hfr.2.2.2.2.1) ?_
    refine tv_b (pc' := (if (if bg = true then 1 else 0) = 0 then 32 else 28)) (ls' := [some (.ref 80), some (.int (nI fs.length)), none, none]) (st' := []) (h' := (n, sl, wKK kk, (mrI I tk 0 (-1) 0 (nI (ce0 + out.length)) (nI (fs.length + 1)) (nI (fs.length)) (nI (fsum fs + ops.length)) od (pa_wr c87 (800 * N + ce0) (out.map menc)) r88 r89 r90 r91 r92 r93), (mwL L w), wQQ q)) 1 rfl ?_
    refine tv_b0t (hT2) ?_
    refine tv_b (pc' := 42) (ls' := [some (.ref 80), some (.int (nI fs.length)), some (.int 1), none]) (st' := [.long 7237492, .ref 80]) (h' := (n, sl, wKK kk, (mrI I tk 0 (-1) 0 (nI (ce0 + out.length)) (nI (fs.length + 1)) (nI (fs.length)) (nI (fsum fs + ops.length)) od (pa_wr c87 (800 * N + ce0) (out.map menc)) r88 r89 r90 r91 r92 r93), (mwL L w), wQQ q)) 7 rfl ?_
    refine tv_cvE [.long 7237492] [] rfl rfl (by omega) rfl (Nat.le_of_ble_eq_true rfl) (Nat.le_of_ble_eq_true rfl) (Or.inr (Or.inr rfl)) (ev_mr_isW ht (by decide) mw_9) ?_
    refine tv_b (pc' := (if (if pa_tk tx T p = 9 then 1 else 0) = 0 then 60 else 48)) (ls' := [some (.ref 80), some (.int (nI fs.length)), some (.int 1), none]) (st' := []) (h' := (n, sl, wKK kk, (mrI I tk 0 (-1) 0 (nI (ce0 + out.length)) (nI (fs.length + 1)) (nI (fs.length)) (nI (fsum fs + ops.length)) od (pa_wr c87 (800 * N + ce0) (out.map menc)) r88 r89 r90 r91 r92 r93), (mwL L w), wQQ q)) 1 rfl ?_
    refine tv_b0 (fun c45 => ?_) (fun c45 => ?_)
    · refine tv_b (pc' := 66) (ls' := [some (.ref 80), some (.int (nI fs.length)), some (.int 1), none]) (st' := [.int 0, .int (nI fs.length), .ref 90]) (h' := (n, sl, wKK kk, (mrI I tk 0 (-1) 0 (nI (ce0 + out.length)) (nI (fs.length + 1)) (nI (fs.length)) (nI (fsum fs + ops.length)) od (pa_wr c87 (800 * N + ce0) (out.map menc)) r88 r89 r90 r91 r92 r93), (mwL L w), wQQ q)) 4 rfl ?_
      refine tv_basZN (k := fs.length) rfl (rfl) (⟨by omega, by omega⟩) ?_
      refine tv_hI mrI_w_r90 ?_
      refine tv_b (pc' := 74) (ls' := [some (.ref 80), some (.int (nI fs.length)), some (.int 1), none]) (st' := [.int 91, .ref 80]) (h' := (n, sl, wKK kk, (mrI I tk 0 (-1) 0 (nI (ce0 + out.length)) (nI (fs.length + 1)) (nI (fs.length)) (nI (fsum fs + ops.length)) od (pa_wr c87 (800 * N + ce0) (out.map menc)) r88 r89 (upd r90 fs.length 0) r91 r92 r93), (mwL L w), wQQ q)) 4 rfl ?_
      refine tv_cvE [.int 91] [] rfl rfl (by omega) rfl (Nat.le_of_ble_eq_true rfl) (Nat.le_of_ble_eq_true rfl) (Or.inr (Or.inr rfl)) (ev_mr_isS (c := 91) (t := 34) ht (by decide)) ?_
      refine tv_b (pc' := (if (if pa_tk tx T p = 34 then 1 else 0) = 0 then 87 else 80)) (ls' := [some (.ref 80), some (.int (nI fs.length)), some (.int 1), none]) (st' := []) (h' := (n, sl, wKK kk, (mrI I tk 0 (-1) 0 (nI (ce0 + out.length)) (nI (fs.length + 1)) (nI (fs.length)) (nI (fsum fs + ops.length)) od (pa_wr c87 (800 * N + ce0) (out.map menc)) r88 r89 (upd r90 fs.length 0) r91 r92 r93), (mwL L w), wQQ q)) 1 rfl ?_
      refine tv_b0 (fun c77 => ?_) (fun c77 => ?_)
      · refine tv_b (pc' := 95) (ls' := [some (.ref 80), some (.int (nI fs.length)), some (.int 1), none]) (st' := [.long 6384748, .ref 80]) (h' := (n, sl, wKK kk, (mrI I tk 0 (-1) 0 (nI (ce0 + out.length)) (nI (fs.length + 1)) (nI (fs.length)) (nI (fsum fs + ops.length)) od (pa_wr c87 (800 * N + ce0) (out.map menc)) r88 r89 (upd r90 fs.length 0) r91 r92 r93), (mwL L w), wQQ q)) 4 rfl ?_
        refine tv_cvE [.long 6384748] [] rfl rfl (by omega) rfl (Nat.le_of_ble_eq_true rfl) (Nat.le_of_ble_eq_true rfl) (Or.inr (Or.inr rfl)) (ev_mr_isW ht (by decide) mw_10) ?_
        refine tv_b (pc' := (if (if pa_tk tx T p = 10 then 1 else 0) = 0 then 121 else 101)) (ls' := [some (.ref 80), some (.int (nI fs.length)), some (.int 1), none]) (st' := []) (h' := (n, sl, wKK kk, (mrI I tk 0 (-1) 0 (nI (ce0 + out.length)) (nI (fs.length + 1)) (nI (fs.length)) (nI (fsum fs + ops.length)) od (pa_wr c87 (800 * N + ce0) (out.map menc)) r88 r89 (upd r90 fs.length 0) r91 r92 r93), (mwL L w), wQQ q)) 1 rfl ?_
        refine tv_b0 (fun c98 => ?_) (fun c98 => ?_)
        · refine tv_b (pc' := 125) (ls' := [some (.ref 80), some (.int (nI fs.length)), some (.int 1), none]) (st' := [.long 1819238756, .ref 80]) (h' := (n, sl, wKK kk, (mrI I tk 0 (-1) 0 (nI (ce0 + out.length)) (nI (fs.length + 1)) (nI (fs.length)) (nI (fsum fs + ops.length)) od (pa_wr c87 (800 * N + ce0) (out.map menc)) r88 r89 (upd r90 fs.length 0) r91 r92 r93), (mwL L w), wQQ q)) 2 rfl ?_
          refine tv_cvE [.long 1819238756] [] rfl rfl (by omega) rfl (Nat.le_of_ble_eq_true rfl) (Nat.le_of_ble_eq_true rfl) (Or.inr (Or.inr rfl)) (ev_mr_isW ht (by decide) mw_18) ?_
          refine tv_b (pc' := (if (if pa_tk tx T p = 18 then 1 else 0) = 0 then 207 else 131)) (ls' := [some (.ref 80), some (.int (nI fs.length)), some (.int 1), none]) (st' := []) (h' := (n, sl, wKK kk, (mrI I tk 0 (-1) 0 (nI (ce0 + out.length)) (nI (fs.length + 1)) (nI (fs.length)) (nI (fsum fs + ops.length)) od (pa_wr c87 (800 * N + ce0) (out.map menc)) r88 r89 (upd r90 fs.length 0) r91 r92 r93), (mwL L w), wQQ q)) 1 rfl ?_
          refine tv_b0 (fun c128 => ?_) (fun c128 => ?_)
          · refine tv_b (pc' := 210) (ls' := [some (.ref 80), some (.int (nI fs.length)), some (.int 1), none]) (st' := [.int 40, .ref 80]) (h' := (n, sl, wKK kk, (mrI I tk 0 (-1) 0 (nI (ce0 + out.length)) (nI (fs.length + 1)) (nI (fs.length)) (nI (fsum fs + ops.length)) od (pa_wr c87 (800 * N + ce0) (out.map menc)) r88 r89 (upd r90 fs.length 0) r91 r92 r93), (mwL L w), wQQ q)) 2 rfl ?_
            refine tv_cvE [.int 40] [] rfl rfl (by omega) rfl (Nat.le_of_ble_eq_true rfl) (Nat.le_of_ble_eq_true rfl) (Or.inr (Or.inr rfl)) (ev_mr_isS (c := 40) (t := 32) ht (by decide)) ?_
            refine tv_b (pc' := (if (if pa_tk tx T p = 32 then 1 else 0) = 0 then 223 else 216)) (ls' := [some (.ref 80), some (.int (nI fs.length)), some (.int 1), none]) (st' := []) (h' := (n, sl, wKK kk, (mrI I tk 0 (-1) 0 (nI (ce0 + out.length)) (nI (fs.length + 1)) (nI (fs.length)) (nI (fsum fs + ops.length)) od (pa_wr c87 (800 * N + ce0) (out.map menc)) r88 r89 (upd r90 fs.length 0) r91 r92 r93), (mwL L w), wQQ q)) 1 rfl ?_
            refine tv_b0 (fun c213 => ?_) (fun c213 => ?_)
            · refine tv_b (pc' := 227) (ls' := [some (.ref 80), some (.int (nI fs.length)), some (.int 1), none]) (st' := [.long 7170414, .ref 80]) (h' := (n, sl, wKK kk, (mrI I tk 0 (-1) 0 (nI (ce0 + out.length)) (nI (fs.length + 1)) (nI (fs.length)) (nI (fsum fs + ops.length)) od (pa_wr c87 (800 * N + ce0) (out.map menc)) r88 r89 (upd r90 fs.length 0) r91 r92 r93), (mwL L w), wQQ q)) 2 rfl ?_
              refine tv_cvE [.long 7170414] [] rfl rfl (by omega) rfl (Nat.le_of_ble_eq_true rfl) (Nat.le_of_ble_eq_true rfl) (Or.inr (Or.inr rfl)) (ev_mr_isW ht (by decide) mw_19) ?_
              refine tv_b (pc' := (if (if pa_tk tx T p = 19 then 1 else 0) = 0 then 233 else 243)) (ls' := [some (.ref 80), some (.int (nI fs.length)), some (.int 1), none]) (st' := []) (h' := (n, sl, wKK kk, (mrI I tk 0 (-1) 0 (nI (ce0 + out.length)) (nI (fs.length + 1)) (nI (fs.length)) (nI (fsum fs + ops.length)) od (pa_wr c87 (800 * N + ce0) (out.map menc)) r88 r89 (upd r90 fs.length 0) r91 r92 r93), (mwL L w), wQQ q)) 1 rfl ?_
              refine tv_b0 (fun c230 => ?_) (fun c230 => ?_)
              · refine tv_b (pc' := 237) (ls' := [some (.ref 80), some (.int (nI fs.length)), some (.int 1), none]) (st' := [.long 7168376, .ref 80]) (h' := (n, sl, wKK kk, (mrI I tk 0 (-1) 0 (nI (ce0 + out.length)) (nI (fs.length + 1)) (nI (fs.length)) (nI (fsum fs + ops.length)) od (pa_wr c87 (800 * N + ce0) (out.map menc)) r88 r89 (upd r90 fs.length 0) r91 r92 r93), (mwL L w), wQQ q)) 2 rfl ?_
                refine tv_cvE [.long 7168376] [] rfl rfl (by omega) rfl (Nat.le_of_ble_eq_true rfl) (Nat.le_of_ble_eq_true rfl) (Or.inr (Or.inr rfl)) (ev_mr_isW ht (by decide) mw_20) ?_
                refine tv_b (pc' := (if (if pa_tk tx T p = 20 then 1 else 0) = 0 then 309 else 243)) (ls' := [some (.ref 80), some (.int (nI fs.length)), some (.int 1), none]) (st' := []) (h' := (n, sl, wKK kk, (mrI I tk 0 (-1) 0 (nI (ce0 + out.length)) (nI (fs.length + 1)) (nI (fs.length)) (nI (fsum fs + ops.length)) od (pa_wr c87 (800 * N + ce0) (out.map menc)) r88 r89 (upd r90 fs.length 0) r91 r92 r93), (mwL L w), wQQ q)) 1 rfl ?_
                refine tv_b0 (fun c240 => ?_) (fun c240 => ?_)
                · refine tv_b (pc' := 310) (ls' := [some (.ref 80), some (.int (nI fs.length)), some (.int 1), none]) (st' := [.ref 80]) (h' := (n, sl, wKK kk, (mrI I tk 0 (-1) 0 (nI (ce0 + out.length)) (nI (fs.length + 1)) (nI (fs.length)) (nI (fsum fs + ops.length)) od (pa_wr c87 (800 * N + ce0) (out.map menc)) r88 r89 (upd r90 fs.length 0) r91 r92 r93), (mwL L w), wQQ q)) 1 rfl ?_
                  have hml := mask_le (pa_tk tx T p)
                  refine tv_cvE [] [] rfl rfl (by omega) rfl (Nat.le_of_ble_eq_true rfl) (Nat.le_of_ble_eq_true rfl) (Or.inr (Or.inr rfl)) (ev_mr_asks ht) ?_
                  refine tv_b (pc' := (if (tk 3) = 2 then 322 else 334)) (ls' := [some (.ref 80), some (.int (nI fs.length)), some (.int 1), some (.int (nI (mask (pa_tk tx T p))))]) (st' := []) (h' := (n, sl, wKK kk, (mrI I tk 0 (-1) 0 (nI (ce0 + out.length)) (nI (fs.length + 1)) (nI (fs.length)) (nI (fsum fs + ops.length)) od (pa_wr c87 (800 * N + ce0) (out.map menc)) r88 r89 (upd r90 fs.length 0) r91 r92 r93), (mwL L w), wQQ q)) 5 rfl ?_
                  refine tv_if (fun c319 => ?_) (fun c319 => ?_)
                  · have h21 := (mr_num ht).mp c319
                    have hnl := pa_nm_lt hlf h21
                    refine tv_b (pc' := 328) (ls' := [some (.ref 80), some (.int (nI fs.length)), some (.int 1), some (.int (nI (mask (pa_tk tx T p))))]) (st' := [.int (tk 6), .int 0, .ref 80]) (h' := (n, sl, wKK kk, (mrI I tk 0 (-1) 0 (nI (ce0 + out.length)) (nI (fs.length + 1)) (nI (fs.length)) (nI (fsum fs + ops.length)) od (pa_wr c87 (800 * N + ce0) (out.map menc)) r88 r89 (upd r90 fs.length 0) r91 r92 r93), (mwL L w), wQQ q)) 4 rfl ?_
                    refine tv_top (mr_numv ht h21) ?_
                    have hgA := pa_ed_gt (b := tx) (n := T) (p := p) (by omega)
                    refine tv_cvE [.int 0, .int (nI (pa_nm tx T p))] [] rfl rfl (by omega) rfl (Nat.le_of_ble_eq_true rfl) (Nat.le_of_ble_eq_true rfl) (Or.inr (Or.inr rfl)) (ev_mr_add (x := 0) (v := (pa_nm tx T p)) hN (by omega) (by omega) (by omega)) ?_
                    refine tv_b (pc' := 364) (ls' := [some (.ref 80), some (.int (nI fs.length)), some (.int 1), some (.int (nI (mask (pa_tk tx T p))))]) (st' := [.ref 80]) (h' := (n, sl, wKK kk, (mrI I tk 0 (-1) 0 (nI ((ce0 + out.length) + 1)) (nI (fs.length + 1)) (nI (fs.length)) (nI (fsum fs + ops.length)) od (upd (pa_wr c87 (800 * N + ce0) (out.map menc)) (800 * N + (ce0 + out.length)) (nI (0 * 16777216 + (pa_nm tx T p)))) r88 r89 (upd r90 fs.length 0) r91 r92 r93), (mwL L w), wQQ q)) 5 rfl ?_
                    refine tv_cv [] [] rfl rfl (by omega) rfl (Nat.le_of_ble_eq_true rfl) (Nat.le_of_ble_eq_true rfl) (Or.inr (Or.inr rfl)) (tv_mr_nx hR (by omega) ht) ?_
                    rintro rv9 h9 ⟨rfl, ⟨f1, tf1, w1, hr1, hf1, rfl⟩ | ⟨p1, t1, w1, hr1, hq1, hp1, ht1, rfl⟩⟩
                    · refine tv_b (pc' := 368) (ls' := [some (.ref 80), some (.int (nI fs.length)), some (.int 1), some (.int (nI (mask (pa_tk tx T p))))]) (st' := [.int 1]) (h' := (n, sl, wKK kk, (mrI I tf1 1 (nI f1) 0 (nI ((ce0 + out.length) + 1)) (nI (fs.length + 1)) (nI (fs.length)) (nI (fsum fs + ops.length)) od (upd (pa_wr c87 (800 * N + ce0) (out.map menc)) (800 * N + (ce0 + out.length)) (nI (0 * 16777216 + (pa_nm tx T p)))) r88 r89 (upd r90 fs.length 0) r91 r92 r93), (mwL L w1), wQQ q)) 1 rfl ?_
                      refine tv_rz rfl (by first | exact Or.inl rfl | exact Or.inr rfl) ⟨_, _, _, rfl, rfl, ?_⟩
                      have e : pa_stP tx T p (kd, ph, bg, pr, ops) fs out = _ := stP_num ((mr_num ht).mp c319)
                      rw [pa_nr_l hr1] at e
                      rw [e]
                      exact ⟨by first | exact Or.inl rfl | exact Or.inr rfl, ⟨by decide, by decide, by first | omega | exact pa_sk8 (by omega) hT8⟩, ⟨_, _, _, _, _, _, _, _, _, _, _, _, _, _, rfl, fun j hj => by first | rfl | (simp only [upd_n (show j ≠ 800 * N + (ce0 + out.length) by omega), pa_wr_b (show j < 800 * N + ce0 by omega)]) | exact pa_wr_b (by omega)⟩⟩
                    · have hd1 := pa_tk_lt (b := tx) (n := T) p1
                      have hx1 := (pa_ed_le (b := tx) (n := T) (p := p) (by omega)).2
                      refine tv_b (pc' := 368) (ls' := [some (.ref 80), some (.int (nI fs.length)), some (.int 1), some (.int (nI (mask (pa_tk tx T p))))]) (st' := [.int 1]) (h' := (n, sl, wKK kk, (mrI I t1 0 (-1) 0 (nI ((ce0 + out.length) + 1)) (nI (fs.length + 1)) (nI (fs.length)) (nI (fsum fs + ops.length)) od (upd (pa_wr c87 (800 * N + ce0) (out.map menc)) (800 * N + (ce0 + out.length)) (nI (0 * 16777216 + (pa_nm tx T p)))) r88 r89 (upd r90 fs.length 0) r91 r92 r93), (mwL L w1), wQQ q)) 1 rfl ?_
                      have e : pa_stP tx T p (kd, ph, bg, pr, ops) fs out = _ := stP_num ((mr_num ht).mp c319)
                      rw [pa_nr_r hr1] at e
                      have h21 := (mr_num ht).mp c319
                      have hg := pa_ed_gt (b := tx) (n := T) (p := p) (by omega)
                      refine tv_rz rfl (by first | exact Or.inl rfl | exact Or.inr rfl) ⟨_, _, _, rfl, rfl, ?_⟩
                      rw [e]
                      rw [mr_wr]
                      refine ⟨rfl, rfl, ⟨_, _, _, _, _, _, _, by rw [List.length_append]; rfl, ht1, frR_bg hfr⟩, ?_⟩
                      unfold mrJ; simp only [fsum, List.length_cons, List.length_append, List.length_nil, Bool.false_eq_true, if_false, if_true]; omega
                  · refine tv_b (pc' := (if (nI (mask (pa_tk tx T p))) ≤ 0 then 347 else 338)) (ls' := [some (.ref 80), some (.int (nI fs.length)), some (.int 1), some (.int (nI (mask (pa_tk tx T p))))]) (st' := []) (h' := (n, sl, wKK kk, (mrI I tk 0 (-1) 0 (nI (ce0 + out.length)) (nI (fs.length + 1)) (nI (fs.length)) (nI (fsum fs + ops.length)) od (pa_wr c87 (800 * N + ce0) (out.map menc)) r88 r89 (upd r90 fs.length 0) r91 r92 r93), (mwL L w), wQQ q)) 2 rfl ?_
                    refine tv_ifq (nI_leI (a := (mask (pa_tk tx T p))) (b := 0) (by omega) (by omega)) (fun c335 => ?_) (fun c335 => ?_)
                    · refine tv_b (pc' := 353) (ls' := [some (.ref 80), some (.int (nI fs.length)), some (.int 1), some (.int (nI (mask (pa_tk tx T p))))]) (st' := [.int (tk 4), .int 1, .ref 80]) (h' := (n, sl, wKK kk, (mrI I tk 0 (-1) 0 (nI (ce0 + out.length)) (nI (fs.length + 1)) (nI (fs.length)) (nI (fsum fs + ops.length)) od (pa_wr c87 (800 * N + ce0) (out.map menc)) r88 r89 (upd r90 fs.length 0) r91 r92 r93), (mwL L w), wQQ q)) 4 rfl ?_
                      refine tv_top (ht.1) ?_
                      refine tv_cvE [.int 1, .int (nI (pa_sk tx T p))] [] rfl rfl (by omega) rfl (Nat.le_of_ble_eq_true rfl) (Nat.le_of_ble_eq_true rfl) (Or.inr (Or.inr rfl)) (ev_mr_blame0) ?_
                      refine tv_b (pc' := 368) (ls' := [some (.ref 80), some (.int (nI fs.length)), some (.int 1), some (.int (nI (mask (pa_tk tx T p))))]) (st' := [.int 1]) (h' := (n, sl, wKK kk, (mrI I tk 1 (nI (pa_sk tx T p)) 0 (nI (ce0 + out.length)) (nI (fs.length + 1)) (nI (fs.length)) (nI (fsum fs + ops.length)) od (pa_wr c87 (800 * N + ce0) (out.map menc)) r88 r89 (upd r90 fs.length 0) r91 r92 r93), (mwL L w), wQQ q)) 4 rfl ?_
                      have hnm : pa_tk tx T p ≠ 21 := fun q => c319 ((mr_num ht).mpr q)
                      refine tv_rz rfl (by first | exact Or.inl rfl | exact Or.inr rfl) ⟨_, _, _, rfl, rfl, ?_⟩
                      have e : pa_stP tx T p (kd, ph, bg, pr, ops) fs out = _ := stP_bad (fun hTT => by first | exact absurd hTT hT | exact ⟨by omega, by omega, by omega⟩) ⟨by omega, by omega, by omega, by omega, by omega, mask_n (by omega)⟩
                      rw [e]
                      exact ⟨by first | exact Or.inl rfl | exact Or.inr rfl, ⟨by decide, by decide, by first | omega | exact pa_sk8 (by omega) hT8⟩, ⟨_, _, _, _, _, _, _, _, _, _, _, _, _, _, rfl, fun j hj => by first | rfl | (simp only [upd_n (show j ≠ 800 * N + (ce0 + out.length) by omega), pa_wr_b (show j < 800 * N + ce0 by omega)]) | exact pa_wr_b (by omega)⟩⟩
                    · refine tv_b (pc' := 341) (ls' := [some (.ref 80), some (.int (nI fs.length)), some (.int 1), some (.int (nI (mask (pa_tk tx T p))))]) (st' := [.int 0, .int (nI (mask (pa_tk tx T p))), .ref 80]) (h' := (n, sl, wKK kk, (mrI I tk 0 (-1) 0 (nI (ce0 + out.length)) (nI (fs.length + 1)) (nI (fs.length)) (nI (fsum fs + ops.length)) od (pa_wr c87 (800 * N + ce0) (out.map menc)) r88 r89 (upd r90 fs.length 0) r91 r92 r93), (mwL L w), wQQ q)) 3 rfl ?_
                      have hmk := mask_y (t := pa_tk tx T p) (by omega)
                      have hgA := pa_ed_gt (b := tx) (n := T) (p := p) (by omega)
                      refine tv_cvE [.int (nI (mask (pa_tk tx T p))), .int 0] [] rfl rfl (by omega) rfl (Nat.le_of_ble_eq_true rfl) (Nat.le_of_ble_eq_true rfl) (Or.inr (Or.inr rfl)) (ev_mr_add (x := (mask (pa_tk tx T p))) (v := 0) hN (by omega) (by omega) (by omega)) ?_
                      refine tv_b (pc' := 364) (ls' := [some (.ref 80), some (.int (nI fs.length)), some (.int 1), some (.int (nI (mask (pa_tk tx T p))))]) (st' := [.ref 80]) (h' := (n, sl, wKK kk, (mrI I tk 0 (-1) 0 (nI ((ce0 + out.length) + 1)) (nI (fs.length + 1)) (nI (fs.length)) (nI (fsum fs + ops.length)) od (upd (pa_wr c87 (800 * N + ce0) (out.map menc)) (800 * N + (ce0 + out.length)) (nI ((mask (pa_tk tx T p)) * 16777216 + 0))) r88 r89 (upd r90 fs.length 0) r91 r92 r93), (mwL L w), wQQ q)) 5 rfl ?_
                      refine tv_cv [] [] rfl rfl (by omega) rfl (Nat.le_of_ble_eq_true rfl) (Nat.le_of_ble_eq_true rfl) (Or.inr (Or.inr rfl)) (tv_mr_nx hR (by omega) ht) ?_
                      rintro rv9 h9 ⟨rfl, ⟨f2, tf2, w2, hr2, hf2, rfl⟩ | ⟨p2, t2, w2, hr2, hq2, hp2, ht2, rfl⟩⟩
                      · refine tv_b (pc' := 368) (ls' := [some (.ref 80), some (.int (nI fs.length)), some (.int 1), some (.int (nI (mask (pa_tk tx T p))))]) (st' := [.int 1]) (h' := (n, sl, wKK kk, (mrI I tf2 1 (nI f2) 0 (nI ((ce0 + out.length) + 1)) (nI (fs.length + 1)) (nI (fs.length)) (nI (fsum fs + ops.length)) od (upd (pa_wr c87 (800 * N + ce0) (out.map menc)) (800 * N + (ce0 + out.length)) (nI ((mask (pa_tk tx T p)) * 16777216 + 0))) r88 r89 (upd r90 fs.length 0) r91 r92 r93), (mwL L w2), wQQ q)) 1 rfl ?_
                        refine tv_rz rfl (by first | exact Or.inl rfl | exact Or.inr rfl) ⟨_, _, _, rfl, rfl, ?_⟩
                        have e : pa_stP tx T p (kd, ph, bg, pr, ops) fs out = _ := stP_ask (mask_y (by omega)).1
                        rw [pa_nr_l hr2] at e
                        rw [e]
                        exact ⟨by first | exact Or.inl rfl | exact Or.inr rfl, ⟨by decide, by decide, by first | omega | exact pa_sk8 (by omega) hT8⟩, ⟨_, _, _, _, _, _, _, _, _, _, _, _, _, _, rfl, fun j hj => by first | rfl | (simp only [upd_n (show j ≠ 800 * N + (ce0 + out.length) by omega), pa_wr_b (show j < 800 * N + ce0 by omega)]) | exact pa_wr_b (by omega)⟩⟩
                      · have hd2 := pa_tk_lt (b := tx) (n := T) p2
                        have hx2 := (pa_ed_le (b := tx) (n := T) (p := p) (by omega)).2
                        refine tv_b (pc' := 368) (ls' := [some (.ref 80), some (.int (nI fs.length)), some (.int 1), some (.int (nI (mask (pa_tk tx T p))))]) (st' := [.int 1]) (h' := (n, sl, wKK kk, (mrI I t2 0 (-1) 0 (nI ((ce0 + out.length) + 1)) (nI (fs.length + 1)) (nI (fs.length)) (nI (fsum fs + ops.length)) od (upd (pa_wr c87 (800 * N + ce0) (out.map menc)) (800 * N + (ce0 + out.length)) (nI ((mask (pa_tk tx T p)) * 16777216 + 0))) r88 r89 (upd r90 fs.length 0) r91 r92 r93), (mwL L w2), wQQ q)) 1 rfl ?_
                        have e : pa_stP tx T p (kd, ph, bg, pr, ops) fs out = _ := stP_ask (mask_y (by omega)).1
                        rw [pa_nr_r hr2] at e
                        have hg := pa_ed_gt (b := tx) (n := T) (p := p) (by omega)
                        refine tv_rz rfl (by first | exact Or.inl rfl | exact Or.inr rfl) ⟨_, _, _, rfl, rfl, ?_⟩
                        rw [e]
                        rw [mr_wr, hmk.2]
                        refine ⟨rfl, rfl, ⟨_, _, _, _, _, _, _, by rw [List.length_append]; rfl, ht2, frR_bg hfr⟩, ?_⟩
                        unfold mrJ; simp only [fsum, List.length_cons, List.length_append, List.length_nil, Bool.false_eq_true, if_false, if_true]; omega
                · refine tv_b (pc' := 247) (ls' := [some (.ref 80), some (.int (nI fs.length)), some (.int 1), none]) (st' := [.long 7170414, .ref 80]) (h' := (n, sl, wKK kk, (mrI I tk 0 (-1) 0 (nI (ce0 + out.length)) (nI (fs.length + 1)) (nI (fs.length)) (nI (fsum fs + ops.length)) od (pa_wr c87 (800 * N + ce0) (out.map menc)) r88 r89 (upd r90 fs.length 0) r91 r92 r93), (mwL L w), wQQ q)) 2 rfl ?_
                  refine tv_cvE [.long 7170414] [] rfl rfl (by omega) rfl (Nat.le_of_ble_eq_true rfl) (Nat.le_of_ble_eq_true rfl) (Or.inr (Or.inr rfl)) (ev_mr_isW ht (by decide) mw_19) ?_
                  refine tv_b (pc' := (if (if pa_tk tx T p = 19 then 1 else 0) = 0 then 258 else 253)) (ls' := [some (.ref 80), some (.int (nI fs.length)), some (.int 1), none]) (st' := []) (h' := (n, sl, wKK kk, (mrI I tk 0 (-1) 0 (nI (ce0 + out.length)) (nI (fs.length + 1)) (nI (fs.length)) (nI (fsum fs + ops.length)) od (pa_wr c87 (800 * N + ce0) (out.map menc)) r88 r89 (upd r90 fs.length 0) r91 r92 r93), (mwL L w), wQQ q)) 1 rfl ?_
                  refine tv_b0f (c230) ?_
                  refine tv_b (pc' := 262) (ls' := [some (.ref 80), some (.int (nI fs.length)), some (.int 1), some (.int 20)]) (st' := [.ref 80]) (h' := (n, sl, wKK kk, (mrI I tk 0 (-1) 0 (nI (ce0 + out.length)) (nI (fs.length + 1)) (nI (fs.length)) (nI (fsum fs + ops.length)) od (pa_wr c87 (800 * N + ce0) (out.map menc)) r88 r89 (upd r90 fs.length 0) r91 r92 r93), (mwL L w), wQQ q)) 3 rfl ?_
                  refine tv_cv [] [] rfl rfl (by omega) rfl (Nat.le_of_ble_eq_true rfl) (Nat.le_of_ble_eq_true rfl) (Or.inr (Or.inr rfl)) (tv_mr_nx hR (by omega) ht) ?_
                  rintro rv9 h9 ⟨rfl, ⟨f3, tf3, w3, hr3, hf3, rfl⟩ | ⟨p3, t3, w3, hr3, hq3, hp3, ht3, rfl⟩⟩
                  · refine tv_b (pc' := 268) (ls' := [some (.ref 80), some (.int (nI fs.length)), some (.int 1), some (.int 20)]) (st' := [.int 40, .ref 80]) (h' := (n, sl, wKK kk, (mrI I tf3 1 (nI f3) 0 (nI (ce0 + out.length)) (nI (fs.length + 1)) (nI (fs.length)) (nI (fsum fs + ops.length)) od (pa_wr c87 (800 * N + ce0) (out.map menc)) r88 r89 (upd r90 fs.length 0) r91 r92 r93), (mwL L w3), wQQ q)) 2 rfl ?_
                    refine tv_cvE [.int 40] [] rfl rfl (by omega) rfl (Nat.le_of_ble_eq_true rfl) (Nat.le_of_ble_eq_true rfl) (Or.inr (Or.inr rfl)) (ev_m_isSign) ?_
                    refine tv_b (pc' := (if (sp_m_isSign 40 (mrI I tf3 1 (nI f3) 0 (nI (ce0 + out.length)) (nI (fs.length + 1)) (nI (fs.length)) (nI (fsum fs + ops.length)) od (pa_wr c87 (800 * N + ce0) (out.map menc)) r88 r89 (upd r90 fs.length 0) r91 r92 r93) (mwL L w3)) = 0 then 274 else 283)) (ls' := [some (.ref 80), some (.int (nI fs.length)), some (.int 1), some (.int 20)]) (st' := []) (h' := (n, sl, wKK kk, (mrI I tf3 1 (nI f3) 0 (nI (ce0 + out.length)) (nI (fs.length + 1)) (nI (fs.length)) (nI (fsum fs + ops.length)) od (pa_wr c87 (800 * N + ce0) (out.map menc)) r88 r89 (upd r90 fs.length 0) r91 r92 r93), (mwL L w3), wQQ q)) 1 rfl ?_
                    refine tv_if (fun c271 => ?_) (fun c271 => ?_)
                    · refine tv_b (pc' := 280) (ls' := [some (.ref 80), some (.int (nI fs.length)), some (.int 1), some (.int 20)]) (st' := [.int (tf3 4), .int 1, .ref 80]) (h' := (n, sl, wKK kk, (mrI I tf3 1 (nI f3) 0 (nI (ce0 + out.length)) (nI (fs.length + 1)) (nI (fs.length)) (nI (fsum fs + ops.length)) od (pa_wr c87 (800 * N + ce0) (out.map menc)) r88 r89 (upd r90 fs.length 0) r91 r92 r93), (mwL L w3), wQQ q)) 4 rfl ?_
                      refine tv_cvE [.int 1, .int (tf3 4)] [] rfl rfl (by omega) rfl (Nat.le_of_ble_eq_true rfl) (Nat.le_of_ble_eq_true rfl) (Or.inr (Or.inr rfl)) (ev_mr_blameF (by decide)) ?_
                      refine tv_b (pc' := 285) (ls' := [some (.ref 80), some (.int (nI fs.length)), some (.int 1), some (.int 20)]) (st' := [.int 3, .ref 80]) (h' := (n, sl, wKK kk, (mrI I tf3 1 (nI f3) 0 (nI (ce0 + out.length)) (nI (fs.length + 1)) (nI (fs.length)) (nI (fsum fs + ops.length)) od (pa_wr c87 (800 * N + ce0) (out.map menc)) r88 r89 (upd r90 fs.length 0) r91 r92 r93), (mwL L w3), wQQ q)) 2 rfl ?_
                      refine tv_cvE [.int 3] [] rfl rfl (by omega) rfl (Nat.le_of_ble_eq_true rfl) (Nat.le_of_ble_eq_true rfl) (Or.inr (Or.inr rfl)) (ev_mr_opens1) ?_
                      refine tv_b (pc' := 308) (ls' := [some (.ref 80), some (.int (nI fs.length)), some (.int 1), some (.int 20)]) (st' := [.int 0]) (h' := (n, sl, wKK kk, (mrI I tf3 1 (nI f3) 0 (nI (ce0 + out.length)) (nI (fs.length + 1)) (nI (fs.length)) (nI (fsum fs + ops.length)) od (pa_wr c87 (800 * N + ce0) (out.map menc)) r88 r89 (upd r90 fs.length 0) r91 r92 r93), (mwL L w3), wQQ q)) 4 rfl ?_
                      refine tv_rz rfl (by first | exact Or.inl rfl | exact Or.inr rfl) ⟨_, _, _, rfl, rfl, ?_⟩
                      have e : pa_stP tx T p (kd, ph, bg, pr, ops) fs out = _ := stP_mm (Or.inr rfl) c240
                      rw [pa_nr_l hr3] at e
                      rw [e]
                      exact ⟨by first | exact Or.inl rfl | exact Or.inr rfl, ⟨by decide, by decide, by first | omega | exact pa_sk8 (by omega) hT8⟩, ⟨_, _, _, _, _, _, _, _, _, _, _, _, _, _, rfl, fun j hj => by first | rfl | (simp only [upd_n (show j ≠ 800 * N + (ce0 + out.length) by omega), pa_wr_b (show j < 800 * N + ce0 by omega)]) | exact pa_wr_b (by omega)⟩⟩
                    · refine tv_b (pc' := 285) (ls' := [some (.ref 80), some (.int (nI fs.length)), some (.int 1), some (.int 20)]) (st' := [.int 3, .ref 80]) (h' := (n, sl, wKK kk, (mrI I tf3 1 (nI f3) 0 (nI (ce0 + out.length)) (nI (fs.length + 1)) (nI (fs.length)) (nI (fsum fs + ops.length)) od (pa_wr c87 (800 * N + ce0) (out.map menc)) r88 r89 (upd r90 fs.length 0) r91 r92 r93), (mwL L w3), wQQ q)) 2 rfl ?_
                      refine tv_cvE [.int 3] [] rfl rfl (by omega) rfl (Nat.le_of_ble_eq_true rfl) (Nat.le_of_ble_eq_true rfl) (Or.inr (Or.inr rfl)) (ev_mr_opens1) ?_
                      refine tv_b (pc' := 308) (ls' := [some (.ref 80), some (.int (nI fs.length)), some (.int 1), some (.int 20)]) (st' := [.int 0]) (h' := (n, sl, wKK kk, (mrI I tf3 1 (nI f3) 0 (nI (ce0 + out.length)) (nI (fs.length + 1)) (nI (fs.length)) (nI (fsum fs + ops.length)) od (pa_wr c87 (800 * N + ce0) (out.map menc)) r88 r89 (upd r90 fs.length 0) r91 r92 r93), (mwL L w3), wQQ q)) 4 rfl ?_
                      refine tv_rz rfl (by first | exact Or.inl rfl | exact Or.inr rfl) ⟨_, _, _, rfl, rfl, ?_⟩
                      have e : pa_stP tx T p (kd, ph, bg, pr, ops) fs out = _ := stP_mm (Or.inr rfl) c240
                      rw [pa_nr_l hr3] at e
                      rw [e]
                      exact ⟨by first | exact Or.inl rfl | exact Or.inr rfl, ⟨by decide, by decide, by first | omega | exact pa_sk8 (by omega) hT8⟩, ⟨_, _, _, _, _, _, _, _, _, _, _, _, _, _, rfl, fun j hj => by first | rfl | (simp only [upd_n (show j ≠ 800 * N + (ce0 + out.length) by omega), pa_wr_b (show j < 800 * N + ce0 by omega)]) | exact pa_wr_b (by omega)⟩⟩
                  · have hd3 := pa_tk_lt (b := tx) (n := T) p3
                    have hx3 := (pa_ed_le (b := tx) (n := T) (p := p) (by omega)).2
                    refine tv_b (pc' := 268) (ls' := [some (.ref 80), some (.int (nI fs.length)), some (.int 1), some (.int 20)]) (st' := [.int 40, .ref 80]) (h' := (n, sl, wKK kk, (mrI I t3 0 (-1) 0 (nI (ce0 + out.length)) (nI (fs.length + 1)) (nI (fs.length)) (nI (fsum fs + ops.length)) od (pa_wr c87 (800 * N + ce0) (out.map menc)) r88 r89 (upd r90 fs.length 0) r91 r92 r93), (mwL L w3), wQQ q)) 2 rfl ?_
                    refine tv_cvE [.int 40] [] rfl rfl (by omega) rfl (Nat.le_of_ble_eq_true rfl) (Nat.le_of_ble_eq_true rfl) (Or.inr (Or.inr rfl)) (ev_mr_isS (c := 40) (t := 32) ht3 (by decide)) ?_
                    refine tv_b (pc' := (if (if pa_tk tx T p3 = 32 then 1 else 0) = 0 then 274 else 283)) (ls' := [some (.ref 80), some (.int (nI fs.length)), some (.int 1), some (.int 20)]) (st' := []) (h' := (n, sl, wKK kk, (mrI I t3 0 (-1) 0 (nI (ce0 + out.length)) (nI (fs.length + 1)) (nI (fs.length)) (nI (fsum fs + ops.length)) od (pa_wr c87 (800 * N + ce0) (out.map menc)) r88 r89 (upd r90 fs.length 0) r91 r92 r93), (mwL L w3), wQQ q)) 1 rfl ?_
                    refine tv_b0 (fun c271 => ?_) (fun c271 => ?_)
                    · refine tv_b (pc' := 280) (ls' := [some (.ref 80), some (.int (nI fs.length)), some (.int 1), some (.int 20)]) (st' := [.int (t3 4), .int 1, .ref 80]) (h' := (n, sl, wKK kk, (mrI I t3 0 (-1) 0 (nI (ce0 + out.length)) (nI (fs.length + 1)) (nI (fs.length)) (nI (fsum fs + ops.length)) od (pa_wr c87 (800 * N + ce0) (out.map menc)) r88 r89 (upd r90 fs.length 0) r91 r92 r93), (mwL L w3), wQQ q)) 4 rfl ?_
                      refine tv_top (ht3.1) ?_
                      refine tv_cvE [.int 1, .int (nI (pa_sk tx T p3))] [] rfl rfl (by omega) rfl (Nat.le_of_ble_eq_true rfl) (Nat.le_of_ble_eq_true rfl) (Or.inr (Or.inr rfl)) (ev_mr_blame0) ?_
                      refine tv_b (pc' := 285) (ls' := [some (.ref 80), some (.int (nI fs.length)), some (.int 1), some (.int 20)]) (st' := [.int 3, .ref 80]) (h' := (n, sl, wKK kk, (mrI I t3 1 (nI (pa_sk tx T p3)) 0 (nI (ce0 + out.length)) (nI (fs.length + 1)) (nI (fs.length)) (nI (fsum fs + ops.length)) od (pa_wr c87 (800 * N + ce0) (out.map menc)) r88 r89 (upd r90 fs.length 0) r91 r92 r93), (mwL L w3), wQQ q)) 2 rfl ?_
                      refine tv_cvE [.int 3] [] rfl rfl (by omega) rfl (Nat.le_of_ble_eq_true rfl) (Nat.le_of_ble_eq_true rfl) (Or.inr (Or.inr rfl)) (ev_mr_opens1) ?_
                      refine tv_b (pc' := 308) (ls' := [some (.ref 80), some (.int (nI fs.length)), some (.int 1), some (.int 20)]) (st' := [.int 0]) (h' := (n, sl, wKK kk, (mrI I t3 1 (nI (pa_sk tx T p3)) 0 (nI (ce0 + out.length)) (nI (fs.length + 1)) (nI (fs.length)) (nI (fsum fs + ops.length)) od (pa_wr c87 (800 * N + ce0) (out.map menc)) r88 r89 (upd r90 fs.length 0) r91 r92 r93), (mwL L w3), wQQ q)) 4 rfl ?_
                      refine tv_rz rfl (by first | exact Or.inl rfl | exact Or.inr rfl) ⟨_, _, _, rfl, rfl, ?_⟩
                      have e : pa_stP tx T p (kd, ph, bg, pr, ops) fs out = _ := stP_mm (Or.inr rfl) c240
                      rw [pa_nr_r hr3, if_neg c271] at e
                      rw [e]
                      exact ⟨by first | exact Or.inl rfl | exact Or.inr rfl, ⟨by decide, by decide, by first | omega | exact pa_sk8 (by omega) hT8⟩, ⟨_, _, _, _, _, _, _, _, _, _, _, _, _, _, rfl, fun j hj => by first | rfl | (simp only [upd_n (show j ≠ 800 * N + (ce0 + out.length) by omega), pa_wr_b (show j < 800 * N + ce0 by omega)]) | exact pa_wr_b (by omega)⟩⟩
                    · refine tv_b (pc' := 285) (ls' := [some (.ref 80), some (.int (nI fs.length)), some (.int 1), some (.int 20)]) (st' := [.int 3, .ref 80]) (h' := (n, sl, wKK kk, (mrI I t3 0 (-1) 0 (nI (ce0 + out.length)) (nI (fs.length + 1)) (nI (fs.length)) (nI (fsum fs + ops.length)) od (pa_wr c87 (800 * N + ce0) (out.map menc)) r88 r89 (upd r90 fs.length 0) r91 r92 r93), (mwL L w3), wQQ q)) 2 rfl ?_
                      refine tv_cv [.int 3] [] rfl rfl (by omega) rfl (Nat.le_of_ble_eq_true rfl) (Nat.le_of_ble_eq_true rfl) (Or.inr (Or.inr rfl)) (tv_mr_opens hR (by omega) (by omega) (by omega) ht3) ?_
                      rintro rv9 h9 ⟨rfl, ⟨h8, rfl⟩ | ⟨h8, f4, tf4, w4, hr4, hf4, rfl⟩ | ⟨h8, p4, t4, w4, hr4, hq4, hp4, ht4, rfl⟩⟩
                      · refine tv_b (pc' := 308) (ls' := [some (.ref 80), some (.int (nI fs.length)), some (.int 1), some (.int 20)]) (st' := [.int 0]) (h' := (n, sl, wKK kk, (mrI I t3 5 (nI (pa_sk tx T p3)) 0 (nI (ce0 + out.length)) (nI (fs.length + 1)) (nI (fs.length)) (nI (fsum fs + ops.length)) od (pa_wr c87 (800 * N + ce0) (out.map menc)) r88 r89 (upd r90 fs.length 0) r91 r92 r93), (mwL L w3), wQQ q)) 4 rfl ?_
                        refine tv_rz rfl (by first | exact Or.inl rfl | exact Or.inr rfl) ⟨_, _, _, rfl, rfl, ?_⟩
                        have e : pa_stP tx T p (kd, ph, bg, pr, ops) fs out = _ := stP_mm (Or.inr rfl) c240
                        rw [pa_nr_r hr3, if_pos c271, if_pos h8] at e
                        rw [e]
                        exact ⟨by first | exact Or.inl rfl | exact Or.inr rfl, ⟨by decide, by decide, by first | omega | exact pa_sk8 (by omega) hT8⟩, ⟨_, _, _, _, _, _, _, _, _, _, _, _, _, _, rfl, fun j hj => by first | rfl | (simp only [upd_n (show j ≠ 800 * N + (ce0 + out.length) by omega), pa_wr_b (show j < 800 * N + ce0 by omega)]) | exact pa_wr_b (by omega)⟩⟩
                      · refine tv_b (pc' := 308) (ls' := [some (.ref 80), some (.int (nI fs.length)), some (.int 1), some (.int 20)]) (st' := [.int 0]) (h' := (n, sl, wKK kk, (mrI I tf4 1 (nI f4) 0 (nI (ce0 + out.length)) (nI ((fs.length + 1) + 1)) (nI ((fs.length) + 1)) (nI (fsum fs + ops.length)) od (pa_wr c87 (800 * N + ce0) (out.map menc)) (upd r88 (fs.length + 1) 3) (upd r89 (fs.length + 1) 0) (upd (upd r90 fs.length 0) (fs.length + 1) 1) r91 (upd r92 (fs.length + 1) (nI (fsum fs + ops.length))) r93), (mwL L w4), wQQ q)) 4 rfl ?_
                        refine tv_rz rfl (by first | exact Or.inl rfl | exact Or.inr rfl) ⟨_, _, _, rfl, rfl, ?_⟩
                        have e : pa_stP tx T p (kd, ph, bg, pr, ops) fs out = _ := stP_mm (Or.inr rfl) c240
                        rw [pa_nr_r hr3, if_pos c271, if_neg h8, pa_nr_l hr4] at e
                        rw [e]
                        exact ⟨by first | exact Or.inl rfl | exact Or.inr rfl, ⟨by decide, by decide, by first | omega | exact pa_sk8 (by omega) hT8⟩, ⟨_, _, _, _, _, _, _, _, _, _, _, _, _, _, rfl, fun j hj => by first | rfl | (simp only [upd_n (show j ≠ 800 * N + (ce0 + out.length) by omega), pa_wr_b (show j < 800 * N + ce0 by omega)]) | exact pa_wr_b (by omega)⟩⟩
                      · have hd4 := pa_tk_lt (b := tx) (n := T) p4
                        refine tv_b (pc' := 304) (ls' := [some (.ref 80), some (.int (nI fs.length)), some (.int 1), some (.int 20)]) (st' := [.int 1, .int (nI ((fs.length + 1) + 1)), .ref 91]) (h' := (n, sl, wKK kk, (mrI I t4 0 (-1) 0 (nI (ce0 + out.length)) (nI ((fs.length + 1) + 1)) (nI ((fs.length) + 1)) (nI (fsum fs + ops.length)) od (pa_wr c87 (800 * N + ce0) (out.map menc)) (upd r88 (fs.length + 1) 3) (upd r89 (fs.length + 1) 0) (upd (upd r90 fs.length 0) (fs.length + 1) 1) r91 (upd r92 (fs.length + 1) (nI (fsum fs + ops.length))) r93), (mwL L w4), wQQ q)) 8 rfl ?_
                        refine tv_b (pc' := 305) (ls' := [some (.ref 80), some (.int (nI fs.length)), some (.int 1), some (.int 20)]) (st' := [.int ((nI ((fs.length + 1) + 1)) - 1), .ref 91]) (h' := (n, sl, wKK kk, (mrI I t4 0 (-1) 0 (nI (ce0 + out.length)) (nI ((fs.length + 1) + 1)) (nI ((fs.length) + 1)) (nI (fsum fs + ops.length)) od (pa_wr c87 (800 * N + ce0) (out.map menc)) (upd r88 (fs.length + 1) 3) (upd r89 (fs.length + 1) 0) (upd (upd r90 fs.length 0) (fs.length + 1) 1) r91 (upd r92 (fs.length + 1) (nI (fsum fs + ops.length))) r93), (mwL L w4), wQQ q)) 1 rfl ?_
                        refine tv_top (show (nI ((fs.length + 1) + 1)) - 1 = nI (fs.length + 1) from nI_sub (a := ((fs.length + 1) + 1)) (b := 1) (by omega)) ?_
                        refine tv_b (pc' := 306) (ls' := [some (.ref 80), some (.int (nI fs.length)), some (.int 1), some (.int 20)]) (st' := [.int 20, .int (nI (fs.length + 1)), .ref 91]) (h' := (n, sl, wKK kk, (mrI I t4 0 (-1) 0 (nI (ce0 + out.length)) (nI ((fs.length + 1) + 1)) (nI ((fs.length) + 1)) (nI (fsum fs + ops.length)) od (pa_wr c87 (800 * N + ce0) (out.map menc)) (upd r88 (fs.length + 1) 3) (upd r89 (fs.length + 1) 0) (upd (upd r90 fs.length 0) (fs.length + 1) 1) r91 (upd r92 (fs.length + 1) (nI (fsum fs + ops.length))) r93), (mwL L w4), wQQ q)) 1 rfl ?_
                        refine tv_iasN (k := (fs.length + 1)) rfl (rfl) (⟨by omega, by omega⟩) ?_
                        refine tv_hI mrI_w_r91 ?_
                        refine tv_b (pc' := 308) (ls' := [some (.ref 80), some (.int (nI fs.length)), some (.int 1), some (.int 20)]) (st' := [.int 0]) (h' := (n, sl, wKK kk, (mrI I t4 0 (-1) 0 (nI (ce0 + out.length)) (nI ((fs.length + 1) + 1)) (nI ((fs.length) + 1)) (nI (fsum fs + ops.length)) od (pa_wr c87 (800 * N + ce0) (out.map menc)) (upd r88 (fs.length + 1) 3) (upd r89 (fs.length + 1) 0) (upd (upd r90 fs.length 0) (fs.length + 1) 1) (upd r91 (fs.length + 1) 20) (upd r92 (fs.length + 1) (nI (fsum fs + ops.length))) r93), (mwL L w4), wQQ q)) 1 rfl ?_
                        have e : pa_stP tx T p (kd, ph, bg, pr, ops) fs out = _ := stP_mm (Or.inr rfl) c240
                        rw [pa_nr_r hr3, if_pos c271, if_neg h8, pa_nr_r hr4] at e
                        have hg0 := pa_ed_gt (b := tx) (n := T) (p := p) (by omega)
                        have hg := pa_ed_gt (b := tx) (n := T) (p := p3) (by omega)
                        refine tv_rz rfl (by first | exact Or.inl rfl | exact Or.inr rfl) ⟨_, _, _, rfl, rfl, ?_⟩
                        rw [e]
                        refine ⟨rfl, rfl, ⟨_, _, _, _, _, _, _, rfl, ht4, frR_new3 (t := 20) (frR_bg hfr) (Or.inr rfl)⟩, ?_⟩
                        unfold mrJ; simp only [fsum, List.length_cons, List.length_append, List.length_nil, Bool.false_eq_true, if_false, if_true]; omega
              · refine tv_b (pc' := 247) (ls' := [some (.ref 80), some (.int (nI fs.length)), some (.int 1), none]) (st' := [.long 7170414, .ref 80]) (h' := (n, sl, wKK kk, (mrI I tk 0 (-1) 0 (nI (ce0 + out.length)) (nI (fs.length + 1)) (nI (fs.length)) (nI (fsum fs + ops.length)) od (pa_wr c87 (800 * N + ce0) (out.map menc)) r88 r89 (upd r90 fs.length 0) r91 r92 r93), (mwL L w), wQQ q)) 2 rfl ?_
                refine tv_cvE [.long 7170414] [] rfl rfl (by omega) rfl (Nat.le_of_ble_eq_true rfl) (Nat.le_of_ble_eq_true rfl) (Or.inr (Or.inr rfl)) (ev_mr_isW ht (by decide) mw_19) ?_
                refine tv_b (pc' := (if (if pa_tk tx T p = 19 then 1 else 0) = 0 then 258 else 253)) (ls' := [some (.ref 80), some (.int (nI fs.length)), some (.int 1), none]) (st' := []) (h' := (n, sl, wKK kk, (mrI I tk 0 (-1) 0 (nI (ce0 + out.length)) (nI (fs.length + 1)) (nI (fs.length)) (nI (fsum fs + ops.length)) od (pa_wr c87 (800 * N + ce0) (out.map menc)) r88 r89 (upd r90 fs.length 0) r91 r92 r93), (mwL L w), wQQ q)) 1 rfl ?_
                refine tv_b0t (c230) ?_
                refine tv_b (pc' := 262) (ls' := [some (.ref 80), some (.int (nI fs.length)), some (.int 1), some (.int 19)]) (st' := [.ref 80]) (h' := (n, sl, wKK kk, (mrI I tk 0 (-1) 0 (nI (ce0 + out.length)) (nI (fs.length + 1)) (nI (fs.length)) (nI (fsum fs + ops.length)) od (pa_wr c87 (800 * N + ce0) (out.map menc)) r88 r89 (upd r90 fs.length 0) r91 r92 r93), (mwL L w), wQQ q)) 4 rfl ?_
                refine tv_cv [] [] rfl rfl (by omega) rfl (Nat.le_of_ble_eq_true rfl) (Nat.le_of_ble_eq_true rfl) (Or.inr (Or.inr rfl)) (tv_mr_nx hR (by omega) ht) ?_
                rintro rv9 h9 ⟨rfl, ⟨f5, tf5, w5, hr5, hf5, rfl⟩ | ⟨p5, t5, w5, hr5, hq5, hp5, ht5, rfl⟩⟩
                · refine tv_b (pc' := 268) (ls' := [some (.ref 80), some (.int (nI fs.length)), some (.int 1), some (.int 19)]) (st' := [.int 40, .ref 80]) (h' := (n, sl, wKK kk, (mrI I tf5 1 (nI f5) 0 (nI (ce0 + out.length)) (nI (fs.length + 1)) (nI (fs.length)) (nI (fsum fs + ops.length)) od (pa_wr c87 (800 * N + ce0) (out.map menc)) r88 r89 (upd r90 fs.length 0) r91 r92 r93), (mwL L w5), wQQ q)) 2 rfl ?_
                  refine tv_cvE [.int 40] [] rfl rfl (by omega) rfl (Nat.le_of_ble_eq_true rfl) (Nat.le_of_ble_eq_true rfl) (Or.inr (Or.inr rfl)) (ev_m_isSign) ?_
                  refine tv_b (pc' := (if (sp_m_isSign 40 (mrI I tf5 1 (nI f5) 0 (nI (ce0 + out.length)) (nI (fs.length + 1)) (nI (fs.length)) (nI (fsum fs + ops.length)) od (pa_wr c87 (800 * N + ce0) (out.map menc)) r88 r89 (upd r90 fs.length 0) r91 r92 r93) (mwL L w5)) = 0 then 274 else 283)) (ls' := [some (.ref 80), some (.int (nI fs.length)), some (.int 1), some (.int 19)]) (st' := []) (h' := (n, sl, wKK kk, (mrI I tf5 1 (nI f5) 0 (nI (ce0 + out.length)) (nI (fs.length + 1)) (nI (fs.length)) (nI (fsum fs + ops.length)) od (pa_wr c87 (800 * N + ce0) (out.map menc)) r88 r89 (upd r90 fs.length 0) r91 r92 r93), (mwL L w5), wQQ q)) 1 rfl ?_
                  refine tv_if (fun c271 => ?_) (fun c271 => ?_)
                  · refine tv_b (pc' := 280) (ls' := [some (.ref 80), some (.int (nI fs.length)), some (.int 1), some (.int 19)]) (st' := [.int (tf5 4), .int 1, .ref 80]) (h' := (n, sl, wKK kk, (mrI I tf5 1 (nI f5) 0 (nI (ce0 + out.length)) (nI (fs.length + 1)) (nI (fs.length)) (nI (fsum fs + ops.length)) od (pa_wr c87 (800 * N + ce0) (out.map menc)) r88 r89 (upd r90 fs.length 0) r91 r92 r93), (mwL L w5), wQQ q)) 4 rfl ?_
                    refine tv_cvE [.int 1, .int (tf5 4)] [] rfl rfl (by omega) rfl (Nat.le_of_ble_eq_true rfl) (Nat.le_of_ble_eq_true rfl) (Or.inr (Or.inr rfl)) (ev_mr_blameF (by decide)) ?_
                    refine tv_b (pc' := 285) (ls' := [some (.ref 80), some (.int (nI fs.length)), some (.int 1), some (.int 19)]) (st' := [.int 3, .ref 80]) (h' := (n, sl, wKK kk, (mrI I tf5 1 (nI f5) 0 (nI (ce0 + out.length)) (nI (fs.length + 1)) (nI (fs.length)) (nI (fsum fs + ops.length)) od (pa_wr c87 (800 * N + ce0) (out.map menc)) r88 r89 (upd r90 fs.length 0) r91 r92 r93), (mwL L w5), wQQ q)) 2 rfl ?_
                    refine tv_cvE [.int 3] [] rfl rfl (by omega) rfl (Nat.le_of_ble_eq_true rfl) (Nat.le_of_ble_eq_true rfl) (Or.inr (Or.inr rfl)) (ev_mr_opens1) ?_
                    refine tv_b (pc' := 308) (ls' := [some (.ref 80), some (.int (nI fs.length)), some (.int 1), some (.int 19)]) (st' := [.int 0]) (h' := (n, sl, wKK kk, (mrI I tf5 1 (nI f5) 0 (nI (ce0 + out.length)) (nI (fs.length + 1)) (nI (fs.length)) (nI (fsum fs + ops.length)) od (pa_wr c87 (800 * N + ce0) (out.map menc)) r88 r89 (upd r90 fs.length 0) r91 r92 r93), (mwL L w5), wQQ q)) 4 rfl ?_
                    refine tv_rz rfl (by first | exact Or.inl rfl | exact Or.inr rfl) ⟨_, _, _, rfl, rfl, ?_⟩
                    have e : pa_stP tx T p (kd, ph, bg, pr, ops) fs out = _ := stP_mm (Or.inl rfl) c230
                    rw [pa_nr_l hr5] at e
                    rw [e]
                    exact ⟨by first | exact Or.inl rfl | exact Or.inr rfl, ⟨by decide, by decide, by first | omega | exact pa_sk8 (by omega) hT8⟩, ⟨_, _, _, _, _, _, _, _, _, _, _, _, _, _, rfl, fun j hj => by first | rfl | (simp only [upd_n (show j ≠ 800 * N + (ce0 + out.length) by omega), pa_wr_b (show j < 800 * N + ce0 by omega)]) | exact pa_wr_b (by omega)⟩⟩
                  · refine tv_b (pc' := 285) (ls' := [some (.ref 80), some (.int (nI fs.length)), some (.int 1), some (.int 19)]) (st' := [.int 3, .ref 80]) (h' := (n, sl, wKK kk, (mrI I tf5 1 (nI f5) 0 (nI (ce0 + out.length)) (nI (fs.length + 1)) (nI (fs.length)) (nI (fsum fs + ops.length)) od (pa_wr c87 (800 * N + ce0) (out.map menc)) r88 r89 (upd r90 fs.length 0) r91 r92 r93), (mwL L w5), wQQ q)) 2 rfl ?_
                    refine tv_cvE [.int 3] [] rfl rfl (by omega) rfl (Nat.le_of_ble_eq_true rfl) (Nat.le_of_ble_eq_true rfl) (Or.inr (Or.inr rfl)) (ev_mr_opens1) ?_
                    refine tv_b (pc' := 308) (ls' := [some (.ref 80), some (.int (nI fs.length)), some (.int 1), some (.int 19)]) (st' := [.int 0]) (h' := (n, sl, wKK kk, (mrI I tf5 1 (nI f5) 0 (nI (ce0 + out.length)) (nI (fs.length + 1)) (nI (fs.length)) (nI (fsum fs + ops.length)) od (pa_wr c87 (800 * N + ce0) (out.map menc)) r88 r89 (upd r90 fs.length 0) r91 r92 r93), (mwL L w5), wQQ q)) 4 rfl ?_
                    refine tv_rz rfl (by first | exact Or.inl rfl | exact Or.inr rfl) ⟨_, _, _, rfl, rfl, ?_⟩
                    have e : pa_stP tx T p (kd, ph, bg, pr, ops) fs out = _ := stP_mm (Or.inl rfl) c230
                    rw [pa_nr_l hr5] at e
                    rw [e]
                    exact ⟨by first | exact Or.inl rfl | exact Or.inr rfl, ⟨by decide, by decide, by first | omega | exact pa_sk8 (by omega) hT8⟩, ⟨_, _, _, _, _, _, _, _, _, _, _, _, _, _, rfl, fun j hj => by first | rfl | (simp only [upd_n (show j ≠ 800 * N + (ce0 + out.length) by omega), pa_wr_b (show j < 800 * N + ce0 by omega)]) | exact pa_wr_b (by omega)⟩⟩
                · have hd5 := pa_tk_lt (b := tx) (n := T) p5
                  have hx5 := (pa_ed_le (b := tx) (n := T) (p := p) (by omega)).2
                  refine tv_b (pc' := 268) (ls' := [some (.ref 80), some (.int (nI fs.length)), some (.int 1), some (.int 19)]) (st' := [.int 40, .ref 80]) (h' := (n, sl, wKK kk, (mrI I t5 0 (-1) 0 (nI (ce0 + out.length)) (nI (fs.length + 1)) (nI (fs.length)) (nI (fsum fs + ops.length)) od (pa_wr c87 (800 * N + ce0) (out.map menc)) r88 r89 (upd r90 fs.length 0) r91 r92 r93), (mwL L w5), wQQ q)) 2 rfl ?_
                  refine tv_cvE [.int 40] [] rfl rfl (by omega) rfl (Nat.le_of_ble_eq_true rfl) (Nat.le_of_ble_eq_true rfl) (Or.inr (Or.inr rfl)) (ev_mr_isS (c := 40) (t := 32) ht5 (by decide)) ?_
                  refine tv_b (pc' := (if (if pa_tk tx T p5 = 32 then 1 else 0) = 0 then 274 else 283)) (ls' := [some (.ref 80), some (.int (nI fs.length)), some (.int 1), some (.int 19)]) (st' := []) (h' := (n, sl, wKK kk, (mrI I t5 0 (-1) 0 (nI (ce0 + out.length)) (nI (fs.length + 1)) (nI (fs.length)) (nI (fsum fs + ops.length)) od (pa_wr c87 (800 * N + ce0) (out.map menc)) r88 r89 (upd r90 fs.length 0) r91 r92 r93), (mwL L w5), wQQ q)) 1 rfl ?_
                  refine tv_b0 (fun c271 => ?_) (fun c271 => ?_)
                  · refine tv_b (pc' := 280) (ls' := [some (.ref 80), some (.int (nI fs.length)), some (.int 1), some (.int 19)]) (st' := [.int (t5 4), .int 1, .ref 80]) (h' := (n, sl, wKK kk, (mrI I t5 0 (-1) 0 (nI (ce0 + out.length)) (nI (fs.length + 1)) (nI (fs.length)) (nI (fsum fs + ops.length)) od (pa_wr c87 (800 * N + ce0) (out.map menc)) r88 r89 (upd r90 fs.length 0) r91 r92 r93), (mwL L w5), wQQ q)) 4 rfl ?_
                    refine tv_top (ht5.1) ?_
                    refine tv_cvE [.int 1, .int (nI (pa_sk tx T p5))] [] rfl rfl (by omega) rfl (Nat.le_of_ble_eq_true rfl) (Nat.le_of_ble_eq_true rfl) (Or.inr (Or.inr rfl)) (ev_mr_blame0) ?_
                    refine tv_b (pc' := 285) (ls' := [some (.ref 80), some (.int (nI fs.length)), some (.int 1), some (.int 19)]) (st' := [.int 3, .ref 80]) (h' := (n, sl, wKK kk, (mrI I t5 1 (nI (pa_sk tx T p5)) 0 (nI (ce0 + out.length)) (nI (fs.length + 1)) (nI (fs.length)) (nI (fsum fs + ops.length)) od (pa_wr c87 (800 * N + ce0) (out.map menc)) r88 r89 (upd r90 fs.length 0) r91 r92 r93), (mwL L w5), wQQ q)) 2 rfl ?_
                    refine tv_cvE [.int 3] [] rfl rfl (by omega) rfl (Nat.le_of_ble_eq_true rfl) (Nat.le_of_ble_eq_true rfl) (Or.inr (Or.inr rfl)) (ev_mr_opens1) ?_
                    refine tv_b (pc' := 308) (ls' := [some (.ref 80), some (.int (nI fs.length)), some (.int 1), some (.int 19)]) (st' := [.int 0]) (h' := (n, sl, wKK kk, (mrI I t5 1 (nI (pa_sk tx T p5)) 0 (nI (ce0 + out.length)) (nI (fs.length + 1)) (nI (fs.length)) (nI (fsum fs + ops.length)) od (pa_wr c87 (800 * N + ce0) (out.map menc)) r88 r89 (upd r90 fs.length 0) r91 r92 r93), (mwL L w5), wQQ q)) 4 rfl ?_
                    refine tv_rz rfl (by first | exact Or.inl rfl | exact Or.inr rfl) ⟨_, _, _, rfl, rfl, ?_⟩
                    have e : pa_stP tx T p (kd, ph, bg, pr, ops) fs out = _ := stP_mm (Or.inl rfl) c230
                    rw [pa_nr_r hr5, if_neg c271] at e
                    rw [e]
                    exact ⟨by first | exact Or.inl rfl | exact Or.inr rfl, ⟨by decide, by decide, by first | omega | exact pa_sk8 (by omega) hT8⟩, ⟨_, _, _, _, _, _, _, _, _, _, _, _, _, _, rfl, fun j hj => by first | rfl | (simp only [upd_n (show j ≠ 800 * N + (ce0 + out.length) by omega), pa_wr_b (show j < 800 * N + ce0 by omega)]) | exact pa_wr_b (by omega)⟩⟩
                  · refine tv_b (pc' := 285) (ls' := [some (.ref 80), some (.int (nI fs.length)), some (.int 1), some (.int 19)]) (st' := [.int 3, .ref 80]) (h' := (n, sl, wKK kk, (mrI I t5 0 (-1) 0 (nI (ce0 + out.length)) (nI (fs.length + 1)) (nI (fs.length)) (nI (fsum fs + ops.length)) od (pa_wr c87 (800 * N + ce0) (out.map menc)) r88 r89 (upd r90 fs.length 0) r91 r92 r93), (mwL L w5), wQQ q)) 2 rfl ?_
                    refine tv_cv [.int 3] [] rfl rfl (by omega) rfl (Nat.le_of_ble_eq_true rfl) (Nat.le_of_ble_eq_true rfl) (Or.inr (Or.inr rfl)) (tv_mr_opens hR (by omega) (by omega) (by omega) ht5) ?_
                    rintro rv9 h9 ⟨rfl, ⟨h8, rfl⟩ | ⟨h8, f6, tf6, w6, hr6, hf6, rfl⟩ | ⟨h8, p6, t6, w6, hr6, hq6, hp6, ht6, rfl⟩⟩
                    · refine tv_b (pc' := 308) (ls' := [some (.ref 80), some (.int (nI fs.length)), some (.int 1), some (.int 19)]) (st' := [.int 0]) (h' := (n, sl, wKK kk, (mrI I t5 5 (nI (pa_sk tx T p5)) 0 (nI (ce0 + out.length)) (nI (fs.length + 1)) (nI (fs.length)) (nI (fsum fs + ops.length)) od (pa_wr c87 (800 * N + ce0) (out.map menc)) r88 r89 (upd r90 fs.length 0) r91 r92 r93), (mwL L w5), wQQ q)) 4 rfl ?_
                      refine tv_rz rfl (by first | exact Or.inl rfl | exact Or.inr rfl) ⟨_, _, _, rfl, rfl, ?_⟩
                      have e : pa_stP tx T p (kd, ph, bg, pr, ops) fs out = _ := stP_mm (Or.inl rfl) c230
                      rw [pa_nr_r hr5, if_pos c271, if_pos h8] at e
                      rw [e]
                      exact ⟨by first | exact Or.inl rfl | exact Or.inr rfl, ⟨by decide, by decide, by first | omega | exact pa_sk8 (by omega) hT8⟩, ⟨_, _, _, _, _, _, _, _, _, _, _, _, _, _, rfl, fun j hj => by first | rfl | (simp only [upd_n (show j ≠ 800 * N + (ce0 + out.length) by omega), pa_wr_b (show j < 800 * N + ce0 by omega)]) | exact pa_wr_b (by omega)⟩⟩
                    · refine tv_b (pc' := 308) (ls' := [some (.ref 80), some (.int (nI fs.length)), some (.int 1), some (.int 19)]) (st' := [.int 0]) (h' := (n, sl, wKK kk, (mrI I tf6 1 (nI f6) 0 (nI (ce0 + out.length)) (nI ((fs.length + 1) + 1)) (nI ((fs.length) + 1)) (nI (fsum fs + ops.length)) od (pa_wr c87 (800 * N + ce0) (out.map menc)) (upd r88 (fs.length + 1) 3) (upd r89 (fs.length + 1) 0) (upd (upd r90 fs.length 0) (fs.length + 1) 1) r91 (upd r92 (fs.length + 1) (nI (fsum fs + ops.length))) r93), (mwL L w6), wQQ q)) 4 rfl ?_
                      refine tv_rz rfl (by first | exact Or.inl rfl | exact Or.inr rfl) ⟨_, _, _, rfl, rfl, ?_⟩
                      have e : pa_stP tx T p (kd, ph, bg, pr, ops) fs out = _ := stP_mm (Or.inl rfl) c230
                      rw [pa_nr_r hr5, if_pos c271, if_neg h8, pa_nr_l hr6] at e
                      rw [e]
                      exact ⟨by first | exact Or.inl rfl | exact Or.inr rfl, ⟨by decide, by decide, by first | omega | exact pa_sk8 (by omega) hT8⟩, ⟨_, _, _, _, _, _, _, _, _, _, _, _, _, _, rfl, fun j hj => by first | rfl | (simp only [upd_n (show j ≠ 800 * N + (ce0 + out.length) by omega), pa_wr_b (show j < 800 * N + ce0 by omega)]) | exact pa_wr_b (by omega)⟩⟩
                    · have hd6 := pa_tk_lt (b := tx) (n := T) p6
                      refine tv_b (pc' := 304) (ls' := [some (.ref 80), some (.int (nI fs.length)), some (.int 1), some (.int 19)]) (st' := [.int 1, .int (nI ((fs.length + 1) + 1)), .ref 91]) (h' := (n, sl, wKK kk, (mrI I t6 0 (-1) 0 (nI (ce0 + out.length)) (nI ((fs.length + 1) + 1)) (nI ((fs.length) + 1)) (nI (fsum fs + ops.length)) od (pa_wr c87 (800 * N + ce0) (out.map menc)) (upd r88 (fs.length + 1) 3) (upd r89 (fs.length + 1) 0) (upd (upd r90 fs.length 0) (fs.length + 1) 1) r91 (upd r92 (fs.length + 1) (nI (fsum fs + ops.length))) r93), (mwL L w6), wQQ q)) 8 rfl ?_
                      refine tv_b (pc' := 305) (ls' := [some (.ref 80), some (.int (nI fs.length)), some (.int 1), some (.int 19)]) (st' := [.int ((nI ((fs.length + 1) + 1)) - 1), .ref 91]) (h' := (n, sl, wKK kk, (mrI I t6 0 (-1) 0 (nI (ce0 + out.length)) (nI ((fs.length + 1) + 1)) (nI ((fs.length) + 1)) (nI (fsum fs + ops.length)) od (pa_wr c87 (800 * N + ce0) (out.map menc)) (upd r88 (fs.length + 1) 3) (upd r89 (fs.length + 1) 0) (upd (upd r90 fs.length 0) (fs.length + 1) 1) r91 (upd r92 (fs.length + 1) (nI (fsum fs + ops.length))) r93), (mwL L w6), wQQ q)) 1 rfl ?_
                      refine tv_top (show (nI ((fs.length + 1) + 1)) - 1 = nI (fs.length + 1) from nI_sub (a := ((fs.length + 1) + 1)) (b := 1) (by omega)) ?_
                      refine tv_b (pc' := 306) (ls' := [some (.ref 80), some (.int (nI fs.length)), some (.int 1), some (.int 19)]) (st' := [.int 19, .int (nI (fs.length + 1)), .ref 91]) (h' := (n, sl, wKK kk, (mrI I t6 0 (-1) 0 (nI (ce0 + out.length)) (nI ((fs.length + 1) + 1)) (nI ((fs.length) + 1)) (nI (fsum fs + ops.length)) od (pa_wr c87 (800 * N + ce0) (out.map menc)) (upd r88 (fs.length + 1) 3) (upd r89 (fs.length + 1) 0) (upd (upd r90 fs.length 0) (fs.length + 1) 1) r91 (upd r92 (fs.length + 1) (nI (fsum fs + ops.length))) r93), (mwL L w6), wQQ q)) 1 rfl ?_
                      refine tv_iasN (k := (fs.length + 1)) rfl (rfl) (⟨by omega, by omega⟩) ?_
                      refine tv_hI mrI_w_r91 ?_
                      refine tv_b (pc' := 308) (ls' := [some (.ref 80), some (.int (nI fs.length)), some (.int 1), some (.int 19)]) (st' := [.int 0]) (h' := (n, sl, wKK kk, (mrI I t6 0 (-1) 0 (nI (ce0 + out.length)) (nI ((fs.length + 1) + 1)) (nI ((fs.length) + 1)) (nI (fsum fs + ops.length)) od (pa_wr c87 (800 * N + ce0) (out.map menc)) (upd r88 (fs.length + 1) 3) (upd r89 (fs.length + 1) 0) (upd (upd r90 fs.length 0) (fs.length + 1) 1) (upd r91 (fs.length + 1) 19) (upd r92 (fs.length + 1) (nI (fsum fs + ops.length))) r93), (mwL L w6), wQQ q)) 1 rfl ?_
                      have e : pa_stP tx T p (kd, ph, bg, pr, ops) fs out = _ := stP_mm (Or.inl rfl) c230
                      rw [pa_nr_r hr5, if_pos c271, if_neg h8, pa_nr_r hr6] at e
                      have hg0 := pa_ed_gt (b := tx) (n := T) (p := p) (by omega)
                      have hg := pa_ed_gt (b := tx) (n := T) (p := p5) (by omega)
                      refine tv_rz rfl (by first | exact Or.inl rfl | exact Or.inr rfl) ⟨_, _, _, rfl, rfl, ?_⟩
                      rw [e]
                      refine ⟨rfl, rfl, ⟨_, _, _, _, _, _, _, rfl, ht6, frR_new3 (t := 19) (frR_bg hfr) (Or.inl rfl)⟩, ?_⟩
                      unfold mrJ; simp only [fsum, List.length_cons, List.length_append, List.length_nil, Bool.false_eq_true, if_false, if_true]; omega
            · refine tv_b (pc' := 218) (ls' := [some (.ref 80), some (.int (nI fs.length)), some (.int 1), none]) (st' := [.int 2, .ref 80]) (h' := (n, sl, wKK kk, (mrI I tk 0 (-1) 0 (nI (ce0 + out.length)) (nI (fs.length + 1)) (nI (fs.length)) (nI (fsum fs + ops.length)) od (pa_wr c87 (800 * N + ce0) (out.map menc)) r88 r89 (upd r90 fs.length 0) r91 r92 r93), (mwL L w), wQQ q)) 2 rfl ?_
              refine tv_cv [.int 2] [] rfl rfl (by omega) rfl (Nat.le_of_ble_eq_true rfl) (Nat.le_of_ble_eq_true rfl) (Or.inr (Or.inr rfl)) (tv_mr_opens hR (by omega) (by omega) (by omega) ht) ?_
              rintro rv9 h9 ⟨rfl, ⟨h8, rfl⟩ | ⟨h8, f7, tf7, w7, hr7, hf7, rfl⟩ | ⟨h8, p7, t7, w7, hr7, hq7, hp7, ht7, rfl⟩⟩
              · refine tv_b (pc' := 222) (ls' := [some (.ref 80), some (.int (nI fs.length)), some (.int 1), none]) (st' := [.int 0]) (h' := (n, sl, wKK kk, (mrI I tk 5 (nI (pa_sk tx T p)) 0 (nI (ce0 + out.length)) (nI (fs.length + 1)) (nI (fs.length)) (nI (fsum fs + ops.length)) od (pa_wr c87 (800 * N + ce0) (out.map menc)) r88 r89 (upd r90 fs.length 0) r91 r92 r93), (mwL L w), wQQ q)) 1 rfl ?_
                refine tv_rz rfl (by first | exact Or.inl rfl | exact Or.inr rfl) ⟨_, _, _, rfl, rfl, ?_⟩
                have e : pa_stP tx T p (kd, ph, bg, pr, ops) fs out = _ := stP_op c213
                rw [if_pos h8] at e
                rw [e]
                exact ⟨by first | exact Or.inl rfl | exact Or.inr rfl, ⟨by decide, by decide, by first | omega | exact pa_sk8 (by omega) hT8⟩, ⟨_, _, _, _, _, _, _, _, _, _, _, _, _, _, rfl, fun j hj => by first | rfl | (simp only [upd_n (show j ≠ 800 * N + (ce0 + out.length) by omega), pa_wr_b (show j < 800 * N + ce0 by omega)]) | exact pa_wr_b (by omega)⟩⟩
              · refine tv_b (pc' := 222) (ls' := [some (.ref 80), some (.int (nI fs.length)), some (.int 1), none]) (st' := [.int 0]) (h' := (n, sl, wKK kk, (mrI I tf7 1 (nI f7) 0 (nI (ce0 + out.length)) (nI ((fs.length + 1) + 1)) (nI ((fs.length) + 1)) (nI (fsum fs + ops.length)) od (pa_wr c87 (800 * N + ce0) (out.map menc)) (upd r88 (fs.length + 1) 2) (upd r89 (fs.length + 1) 0) (upd (upd r90 fs.length 0) (fs.length + 1) 1) r91 (upd r92 (fs.length + 1) (nI (fsum fs + ops.length))) r93), (mwL L w7), wQQ q)) 1 rfl ?_
                refine tv_rz rfl (by first | exact Or.inl rfl | exact Or.inr rfl) ⟨_, _, _, rfl, rfl, ?_⟩
                have e : pa_stP tx T p (kd, ph, bg, pr, ops) fs out = _ := stP_op c213
                rw [if_neg h8, pa_nr_l hr7] at e
                rw [e]
                exact ⟨by first | exact Or.inl rfl | exact Or.inr rfl, ⟨by decide, by decide, by first | omega | exact pa_sk8 (by omega) hT8⟩, ⟨_, _, _, _, _, _, _, _, _, _, _, _, _, _, rfl, fun j hj => by first | rfl | (simp only [upd_n (show j ≠ 800 * N + (ce0 + out.length) by omega), pa_wr_b (show j < 800 * N + ce0 by omega)]) | exact pa_wr_b (by omega)⟩⟩
              · have hd7 := pa_tk_lt (b := tx) (n := T) p7
                refine tv_b (pc' := 222) (ls' := [some (.ref 80), some (.int (nI fs.length)), some (.int 1), none]) (st' := [.int 0]) (h' := (n, sl, wKK kk, (mrI I t7 0 (-1) 0 (nI (ce0 + out.length)) (nI ((fs.length + 1) + 1)) (nI ((fs.length) + 1)) (nI (fsum fs + ops.length)) od (pa_wr c87 (800 * N + ce0) (out.map menc)) (upd r88 (fs.length + 1) 2) (upd r89 (fs.length + 1) 0) (upd (upd r90 fs.length 0) (fs.length + 1) 1) r91 (upd r92 (fs.length + 1) (nI (fsum fs + ops.length))) r93), (mwL L w7), wQQ q)) 1 rfl ?_
                have e : pa_stP tx T p (kd, ph, bg, pr, ops) fs out = _ := stP_op c213
                rw [if_neg h8, pa_nr_r hr7] at e
                have hg := pa_ed_gt (b := tx) (n := T) (p := p) (by omega)
                refine tv_rz rfl (by first | exact Or.inl rfl | exact Or.inr rfl) ⟨_, _, _, rfl, rfl, ?_⟩
                rw [e]
                refine ⟨rfl, rfl, ⟨_, _, _, _, _, _, _, rfl, ht7, frR_new (k := 2) (frR_bg hfr) (by decide) (by decide)⟩, ?_⟩
                unfold mrJ; simp only [fsum, List.length_cons, List.length_append, List.length_nil, Bool.false_eq_true, if_false, if_true]; omega
          · refine tv_b (pc' := 132) (ls' := [some (.ref 80), some (.int (nI fs.length)), some (.int 1), none]) (st' := [.ref 80]) (h' := (n, sl, wKK kk, (mrI I tk 0 (-1) 0 (nI (ce0 + out.length)) (nI (fs.length + 1)) (nI (fs.length)) (nI (fsum fs + ops.length)) od (pa_wr c87 (800 * N + ce0) (out.map menc)) r88 r89 (upd r90 fs.length 0) r91 r92 r93), (mwL L w), wQQ q)) 1 rfl ?_
            refine tv_cv [] [] rfl rfl (by omega) rfl (Nat.le_of_ble_eq_true rfl) (Nat.le_of_ble_eq_true rfl) (Or.inr (Or.inr rfl)) (tv_mr_nx hR (by omega) ht) ?_
            rintro rv9 h9 ⟨rfl, ⟨f8, tf8, w8, hr8, hf8, rfl⟩ | ⟨p8, t8, w8, hr8, hq8, hp8, ht8, rfl⟩⟩
            · refine tv_b (pc' := (if (tf8 3) = 2 then 152 else 143)) (ls' := [some (.ref 80), some (.int (nI fs.length)), some (.int 1), none]) (st' := []) (h' := (n, sl, wKK kk, (mrI I tf8 1 (nI f8) 0 (nI (ce0 + out.length)) (nI (fs.length + 1)) (nI (fs.length)) (nI (fsum fs + ops.length)) od (pa_wr c87 (800 * N + ce0) (out.map menc)) r88 r89 (upd r90 fs.length 0) r91 r92 r93), (mwL L w8), wQQ q)) 4 rfl ?_
              refine tv_if (fun c140 => ?_) (fun c140 => ?_)
              · refine tv_b (pc' := 206) (ls' := [some (.ref 80), some (.int (nI fs.length)), some (.int 1), none]) (st' := [.int 1]) (h' := (n, sl, wKK kk, (mrI I tf8 1 (nI f8) 0 (nI (ce0 + out.length)) (nI (fs.length + 1)) (nI (fs.length)) (nI (fsum fs + ops.length)) od (pa_wr c87 (800 * N + ce0) (out.map menc)) r88 r89 (upd r90 fs.length 0) r91 r92 r93), (mwL L w8), wQQ q)) 10 rfl ?_
                refine tv_rz rfl (by first | exact Or.inl rfl | exact Or.inr rfl) ⟨_, _, _, rfl, rfl, ?_⟩
                have e : pa_stP tx T p (kd, ph, bg, pr, ops) fs out = _ := stP_ld c128
                rw [pa_nr_l hr8] at e
                rw [e]
                exact ⟨by first | exact Or.inl rfl | exact Or.inr rfl, ⟨by decide, by decide, by first | omega | exact pa_sk8 (by omega) hT8⟩, ⟨_, _, _, _, _, _, _, _, _, _, _, _, _, _, rfl, fun j hj => by first | rfl | (simp only [upd_n (show j ≠ 800 * N + (ce0 + out.length) by omega), pa_wr_b (show j < 800 * N + ce0 by omega)]) | exact pa_wr_b (by omega)⟩⟩
              · refine tv_b (pc' := 149) (ls' := [some (.ref 80), some (.int (nI fs.length)), some (.int 1), none]) (st' := [.int (tf8 4), .int 1, .ref 80]) (h' := (n, sl, wKK kk, (mrI I tf8 1 (nI f8) 0 (nI (ce0 + out.length)) (nI (fs.length + 1)) (nI (fs.length)) (nI (fsum fs + ops.length)) od (pa_wr c87 (800 * N + ce0) (out.map menc)) r88 r89 (upd r90 fs.length 0) r91 r92 r93), (mwL L w8), wQQ q)) 4 rfl ?_
                refine tv_cvE [.int 1, .int (tf8 4)] [] rfl rfl (by omega) rfl (Nat.le_of_ble_eq_true rfl) (Nat.le_of_ble_eq_true rfl) (Or.inr (Or.inr rfl)) (ev_mr_blameF (by decide)) ?_
                refine tv_b (pc' := 206) (ls' := [some (.ref 80), some (.int (nI fs.length)), some (.int 1), none]) (st' := [.int 1]) (h' := (n, sl, wKK kk, (mrI I tf8 1 (nI f8) 0 (nI (ce0 + out.length)) (nI (fs.length + 1)) (nI (fs.length)) (nI (fsum fs + ops.length)) od (pa_wr c87 (800 * N + ce0) (out.map menc)) r88 r89 (upd r90 fs.length 0) r91 r92 r93), (mwL L w8), wQQ q)) 10 rfl ?_
                refine tv_rz rfl (by first | exact Or.inl rfl | exact Or.inr rfl) ⟨_, _, _, rfl, rfl, ?_⟩
                have e : pa_stP tx T p (kd, ph, bg, pr, ops) fs out = _ := stP_ld c128
                rw [pa_nr_l hr8] at e
                rw [e]
                exact ⟨by first | exact Or.inl rfl | exact Or.inr rfl, ⟨by decide, by decide, by first | omega | exact pa_sk8 (by omega) hT8⟩, ⟨_, _, _, _, _, _, _, _, _, _, _, _, _, _, rfl, fun j hj => by first | rfl | (simp only [upd_n (show j ≠ 800 * N + (ce0 + out.length) by omega), pa_wr_b (show j < 800 * N + ce0 by omega)]) | exact pa_wr_b (by omega)⟩⟩
            · have hd8 := pa_tk_lt (b := tx) (n := T) p8
              have hx8 := (pa_ed_le (b := tx) (n := T) (p := p) (by omega)).2
              refine tv_b (pc' := (if (t8 3) = 2 then 152 else 143)) (ls' := [some (.ref 80), some (.int (nI fs.length)), some (.int 1), none]) (st' := []) (h' := (n, sl, wKK kk, (mrI I t8 0 (-1) 0 (nI (ce0 + out.length)) (nI (fs.length + 1)) (nI (fs.length)) (nI (fsum fs + ops.length)) od (pa_wr c87 (800 * N + ce0) (out.map menc)) r88 r89 (upd r90 fs.length 0) r91 r92 r93), (mwL L w8), wQQ q)) 4 rfl ?_
              refine tv_if (fun c140 => ?_) (fun c140 => ?_)
              · refine tv_b (pc' := 159) (ls' := [some (.ref 80), some (.int (nI fs.length)), some (.int 1), none]) (st' := []) (h' := (n, sl, wKK kk, (mrI I t8 0 (-1) 0 (nI (ce0 + out.length)) (nI (fs.length + 1)) (nI (fs.length)) (nI (fsum fs + ops.length)) od (pa_wr c87 (800 * N + ce0) (out.map menc)) r88 r89 (upd r90 fs.length 0) r91 r92 r93), (mwL L w8), wQQ q)) 3 rfl ?_
                have h21 := (mr_num ht8).mp c140
                have hnl := pa_nm_lt (pa_nx_lf hr8) h21
                have hgL := pa_ed_gt (b := tx) (n := T) (p := p) (by omega)
                refine tv_b (pc' := 163) (ls' := [some (.ref 80), some (.int (nI fs.length)), some (.int 1), none]) (st' := [.int (t8 6)]) (h' := (n, sl, wKK kk, (mrI I t8 0 (-1) 0 (nI (ce0 + out.length)) (nI (fs.length + 1)) (nI (fs.length)) (nI (fsum fs + ops.length)) od (pa_wr c87 (800 * N + ce0) (out.map menc)) r88 r89 (upd r90 fs.length 0) r91 r92 r93), (mwL L w8), wQQ q)) 2 rfl ?_
                refine tv_top (mr_numv ht8 h21) ?_
                refine tv_b (pc' := (if (nI (pa_nm tx T p8)) ≤ 15 then 177 else 168)) (ls' := [some (.ref 80), some (.int (nI fs.length)), some (.int 1), none]) (st' := []) (h' := (n, sl, wKK kk, (mrI I t8 0 (-1) 0 (nI (ce0 + out.length)) (nI (fs.length + 1)) (nI (fs.length)) (nI (fsum fs + ops.length)) od (pa_wr c87 (800 * N + ce0) (out.map menc)) r88 r89 (upd r90 fs.length 0) r91 r92 r93), (mwL L w8), wQQ q)) 2 rfl ?_
                refine tv_ifq (nI_leI (a := (pa_nm tx T p8)) (b := 15) (by omega) (by omega)) (fun c165 => ?_) (fun c165 => ?_)
                · refine tv_b (pc' := 191) (ls' := [some (.ref 80), some (.int (nI fs.length)), some (.int 1), none]) (st' := [.int (t8 6), .int 8, .ref 80]) (h' := (n, sl, wKK kk, (mrI I t8 0 (-1) 0 (nI (ce0 + out.length)) (nI (fs.length + 1)) (nI (fs.length)) (nI (fsum fs + ops.length)) od (pa_wr c87 (800 * N + ce0) (out.map menc)) r88 r89 (upd r90 fs.length 0) r91 r92 r93), (mwL L w8), wQQ q)) 7 rfl ?_
                  refine tv_top (mr_numv ht8 h21) ?_
                  have hgA := pa_ed_gt (b := tx) (n := T) (p := p8) (by omega)
                  refine tv_cvE [.int 8, .int (nI (pa_nm tx T p8))] [] rfl rfl (by omega) rfl (Nat.le_of_ble_eq_true rfl) (Nat.le_of_ble_eq_true rfl) (Or.inr (Or.inr rfl)) (ev_mr_add (x := 8) (v := (pa_nm tx T p8)) hN (by omega) (by omega) (by omega)) ?_
                  refine tv_b (pc' := 202) (ls' := [some (.ref 80), some (.int (nI fs.length)), some (.int 1), none]) (st' := [.ref 80]) (h' := (n, sl, wKK kk, (mrI I t8 0 (-1) 0 (nI ((ce0 + out.length) + 1)) (nI (fs.length + 1)) (nI (fs.length)) (nI (fsum fs + ops.length)) od (upd (pa_wr c87 (800 * N + ce0) (out.map menc)) (800 * N + (ce0 + out.length)) (nI (8 * 16777216 + (pa_nm tx T p8)))) r88 r89 (upd r90 fs.length 0) r91 r92 r93), (mwL L w8), wQQ q)) 4 rfl ?_
                  refine tv_cv [] [] rfl rfl (by omega) rfl (Nat.le_of_ble_eq_true rfl) (Nat.le_of_ble_eq_true rfl) (Or.inr (Or.inr rfl)) (tv_mr_nx hR (by omega) ht8) ?_
                  rintro rv9 h9 ⟨rfl, ⟨f9, tf9, w9, hr9, hf9, rfl⟩ | ⟨p9, t9, w9, hr9, hq9, hp9, ht9, rfl⟩⟩
                  · refine tv_b (pc' := 206) (ls' := [some (.ref 80), some (.int (nI fs.length)), some (.int 1), none]) (st' := [.int 1]) (h' := (n, sl, wKK kk, (mrI I tf9 1 (nI f9) 0 (nI ((ce0 + out.length) + 1)) (nI (fs.length + 1)) (nI (fs.length)) (nI (fsum fs + ops.length)) od (upd (pa_wr c87 (800 * N + ce0) (out.map menc)) (800 * N + (ce0 + out.length)) (nI (8 * 16777216 + (pa_nm tx T p8)))) r88 r89 (upd r90 fs.length 0) r91 r92 r93), (mwL L w9), wQQ q)) 1 rfl ?_
                    refine tv_rz rfl (by first | exact Or.inl rfl | exact Or.inr rfl) ⟨_, _, _, rfl, rfl, ?_⟩
                    have e : pa_stP tx T p (kd, ph, bg, pr, ops) fs out = _ := stP_ld c128
                    rw [pa_nr_r hr8, if_pos h21, if_neg (by omega), pa_nr_l hr9] at e
                    rw [e]
                    exact ⟨by first | exact Or.inl rfl | exact Or.inr rfl, ⟨by decide, by decide, by first | omega | exact pa_sk8 (by omega) hT8⟩, ⟨_, _, _, _, _, _, _, _, _, _, _, _, _, _, rfl, fun j hj => by first | rfl | (simp only [upd_n (show j ≠ 800 * N + (ce0 + out.length) by omega), pa_wr_b (show j < 800 * N + ce0 by omega)]) | exact pa_wr_b (by omega)⟩⟩
                  · have hd9 := pa_tk_lt (b := tx) (n := T) p9
                    have hx9 := (pa_ed_le (b := tx) (n := T) (p := p8) (by omega)).2
                    refine tv_b (pc' := 206) (ls' := [some (.ref 80), some (.int (nI fs.length)), some (.int 1), none]) (st' := [.int 1]) (h' := (n, sl, wKK kk, (mrI I t9 0 (-1) 0 (nI ((ce0 + out.length) + 1)) (nI (fs.length + 1)) (nI (fs.length)) (nI (fsum fs + ops.length)) od (upd (pa_wr c87 (800 * N + ce0) (out.map menc)) (800 * N + (ce0 + out.length)) (nI (8 * 16777216 + (pa_nm tx T p8)))) r88 r89 (upd r90 fs.length 0) r91 r92 r93), (mwL L w9), wQQ q)) 1 rfl ?_
                    have e : pa_stP tx T p (kd, ph, bg, pr, ops) fs out = _ := stP_ld c128
                    rw [pa_nr_r hr8, if_pos h21, if_neg (by omega), pa_nr_r hr9] at e
                    have hg0 := pa_ed_gt (b := tx) (n := T) (p := p) (by omega)
                    have hg := pa_ed_gt (b := tx) (n := T) (p := p8) (by omega)
                    refine tv_rz rfl (by first | exact Or.inl rfl | exact Or.inr rfl) ⟨_, _, _, rfl, rfl, ?_⟩
                    rw [e]
                    rw [mr_wr]
                    refine ⟨rfl, rfl, ⟨_, _, _, _, _, _, _, by rw [List.length_append]; rfl, ht9, frR_bg hfr⟩, ?_⟩
                    unfold mrJ; simp only [fsum, List.length_cons, List.length_append, List.length_nil, Bool.false_eq_true, if_false, if_true]; omega
                · refine tv_b (pc' := 174) (ls' := [some (.ref 80), some (.int (nI fs.length)), some (.int 1), none]) (st' := [.int (t8 4), .int 4, .ref 80]) (h' := (n, sl, wKK kk, (mrI I t8 0 (-1) 0 (nI (ce0 + out.length)) (nI (fs.length + 1)) (nI (fs.length)) (nI (fsum fs + ops.length)) od (pa_wr c87 (800 * N + ce0) (out.map menc)) r88 r89 (upd r90 fs.length 0) r91 r92 r93), (mwL L w8), wQQ q)) 4 rfl ?_
                  refine tv_top (ht8.1) ?_
                  refine tv_cvE [.int 4, .int (nI (pa_sk tx T p8))] [] rfl rfl (by omega) rfl (Nat.le_of_ble_eq_true rfl) (Nat.le_of_ble_eq_true rfl) (Or.inr (Or.inr rfl)) (ev_mr_blame0) ?_
                  refine tv_b (pc' := 206) (ls' := [some (.ref 80), some (.int (nI fs.length)), some (.int 1), none]) (st' := [.int 1]) (h' := (n, sl, wKK kk, (mrI I t8 4 (nI (pa_sk tx T p8)) 0 (nI (ce0 + out.length)) (nI (fs.length + 1)) (nI (fs.length)) (nI (fsum fs + ops.length)) od (pa_wr c87 (800 * N + ce0) (out.map menc)) r88 r89 (upd r90 fs.length 0) r91 r92 r93), (mwL L w8), wQQ q)) 7 rfl ?_
                  refine tv_rz rfl (by first | exact Or.inl rfl | exact Or.inr rfl) ⟨_, _, _, rfl, rfl, ?_⟩
                  have e : pa_stP tx T p (kd, ph, bg, pr, ops) fs out = _ := stP_ld c128
                  rw [pa_nr_r hr8, if_pos h21, if_pos (by omega)] at e
                  rw [e]
                  exact ⟨by first | exact Or.inl rfl | exact Or.inr rfl, ⟨by decide, by decide, by first | omega | exact pa_sk8 (by omega) hT8⟩, ⟨_, _, _, _, _, _, _, _, _, _, _, _, _, _, rfl, fun j hj => by first | rfl | (simp only [upd_n (show j ≠ 800 * N + (ce0 + out.length) by omega), pa_wr_b (show j < 800 * N + ce0 by omega)]) | exact pa_wr_b (by omega)⟩⟩
              · refine tv_b (pc' := 149) (ls' := [some (.ref 80), some (.int (nI fs.length)), some (.int 1), none]) (st' := [.int (t8 4), .int 1, .ref 80]) (h' := (n, sl, wKK kk, (mrI I t8 0 (-1) 0 (nI (ce0 + out.length)) (nI (fs.length + 1)) (nI (fs.length)) (nI (fsum fs + ops.length)) od (pa_wr c87 (800 * N + ce0) (out.map menc)) r88 r89 (upd r90 fs.length 0) r91 r92 r93), (mwL L w8), wQQ q)) 4 rfl ?_
                refine tv_top (ht8.1) ?_
                refine tv_cvE [.int 1, .int (nI (pa_sk tx T p8))] [] rfl rfl (by omega) rfl (Nat.le_of_ble_eq_true rfl) (Nat.le_of_ble_eq_true rfl) (Or.inr (Or.inr rfl)) (ev_mr_blame0) ?_
                refine tv_b (pc' := 206) (ls' := [some (.ref 80), some (.int (nI fs.length)), some (.int 1), none]) (st' := [.int 1]) (h' := (n, sl, wKK kk, (mrI I t8 1 (nI (pa_sk tx T p8)) 0 (nI (ce0 + out.length)) (nI (fs.length + 1)) (nI (fs.length)) (nI (fsum fs + ops.length)) od (pa_wr c87 (800 * N + ce0) (out.map menc)) r88 r89 (upd r90 fs.length 0) r91 r92 r93), (mwL L w8), wQQ q)) 10 rfl ?_
                refine tv_rz rfl (by first | exact Or.inl rfl | exact Or.inr rfl) ⟨_, _, _, rfl, rfl, ?_⟩
                have e : pa_stP tx T p (kd, ph, bg, pr, ops) fs out = _ := stP_ld c128
                have hn21 : ¬ pa_tk tx T p8 = 21 := fun q => c140 ((mr_num ht8).mpr q)
                rw [pa_nr_r hr8, if_neg hn21] at e
                rw [e]
                exact ⟨by first | exact Or.inl rfl | exact Or.inr rfl, ⟨by decide, by decide, by first | omega | exact pa_sk8 (by omega) hT8⟩, ⟨_, _, _, _, _, _, _, _, _, _, _, _, _, _, rfl, fun j hj => by first | rfl | (simp only [upd_n (show j ≠ 800 * N + (ce0 + out.length) by omega), pa_wr_b (show j < 800 * N + ce0 by omega)]) | exact pa_wr_b (by omega)⟩⟩
        · refine tv_b (pc' := 105) (ls' := [some (.ref 80), some (.int (nI fs.length)), some (.int 1), none]) (st' := [.int 0, .int 9, .ref 80]) (h' := (n, sl, wKK kk, (mrI I tk 0 (-1) 0 (nI (ce0 + out.length)) (nI (fs.length + 1)) (nI (fs.length)) (nI (fsum fs + ops.length)) od (pa_wr c87 (800 * N + ce0) (out.map menc)) r88 r89 (upd r90 fs.length 0) r91 r92 r93), (mwL L w), wQQ q)) 3 rfl ?_
          have hgA := pa_ed_gt (b := tx) (n := T) (p := p) (by omega)
          refine tv_cvE [.int 9, .int 0] [] rfl rfl (by omega) rfl (Nat.le_of_ble_eq_true rfl) (Nat.le_of_ble_eq_true rfl) (Or.inr (Or.inr rfl)) (ev_mr_add (x := 9) (v := 0) hN (by omega) (by omega) (by omega)) ?_
          refine tv_b (pc' := 114) (ls' := [some (.ref 80), some (.int (nI fs.length)), some (.int 1), none]) (st' := [.int 2, .int (nI fs.length), .ref 89]) (h' := (n, sl, wKK kk, (mrI I tk 0 (-1) 0 (nI ((ce0 + out.length) + 1)) (nI (fs.length + 1)) (nI (fs.length)) (nI (fsum fs + ops.length)) od (upd (pa_wr c87 (800 * N + ce0) (out.map menc)) (800 * N + (ce0 + out.length)) (nI (9 * 16777216 + 0))) r88 r89 (upd r90 fs.length 0) r91 r92 r93), (mwL L w), wQQ q)) 4 rfl ?_
          refine tv_iasN (k := fs.length) rfl (rfl) (⟨by omega, by omega⟩) ?_
          refine tv_hI mrI_w_r89 ?_
          refine tv_b (pc' := 116) (ls' := [some (.ref 80), some (.int (nI fs.length)), some (.int 1), none]) (st' := [.ref 80]) (h' := (n, sl, wKK kk, (mrI I tk 0 (-1) 0 (nI ((ce0 + out.length) + 1)) (nI (fs.length + 1)) (nI (fs.length)) (nI (fsum fs + ops.length)) od (upd (pa_wr c87 (800 * N + ce0) (out.map menc)) (800 * N + (ce0 + out.length)) (nI (9 * 16777216 + 0))) r88 (upd r89 fs.length 2) (upd r90 fs.length 0) r91 r92 r93), (mwL L w), wQQ q)) 1 rfl ?_
          refine tv_cv [] [] rfl rfl (by omega) rfl (Nat.le_of_ble_eq_true rfl) (Nat.le_of_ble_eq_true rfl) (Or.inr (Or.inr rfl)) (tv_mr_nx hR (by omega) ht) ?_
          rintro rv9 h9 ⟨rfl, ⟨f10, tf10, w10, hr10, hf10, rfl⟩ | ⟨p10, t10, w10, hr10, hq10, hp10, ht10, rfl⟩⟩
          · refine tv_b (pc' := 120) (ls' := [some (.ref 80), some (.int (nI fs.length)), some (.int 1), none]) (st' := [.int 1]) (h' := (n, sl, wKK kk, (mrI I tf10 1 (nI f10) 0 (nI ((ce0 + out.length) + 1)) (nI (fs.length + 1)) (nI (fs.length)) (nI (fsum fs + ops.length)) od (upd (pa_wr c87 (800 * N + ce0) (out.map menc)) (800 * N + (ce0 + out.length)) (nI (9 * 16777216 + 0))) r88 (upd r89 fs.length 2) (upd r90 fs.length 0) r91 r92 r93), (mwL L w10), wQQ q)) 1 rfl ?_
            refine tv_rz rfl (by first | exact Or.inl rfl | exact Or.inr rfl) ⟨_, _, _, rfl, rfl, ?_⟩
            have e : pa_stP tx T p (kd, ph, bg, pr, ops) fs out = _ := stP_all hT c98
            rw [pa_nr_l hr10] at e
            rw [e]
            exact ⟨by first | exact Or.inl rfl | exact Or.inr rfl, ⟨by decide, by decide, by first | omega | exact pa_sk8 (by omega) hT8⟩, ⟨_, _, _, _, _, _, _, _, _, _, _, _, _, _, rfl, fun j hj => by first | rfl | (simp only [upd_n (show j ≠ 800 * N + (ce0 + out.length) by omega), pa_wr_b (show j < 800 * N + ce0 by omega)]) | exact pa_wr_b (by omega)⟩⟩
          · have hd10 := pa_tk_lt (b := tx) (n := T) p10
            have hx10 := (pa_ed_le (b := tx) (n := T) (p := p) (by omega)).2
            refine tv_b (pc' := 120) (ls' := [some (.ref 80), some (.int (nI fs.length)), some (.int 1), none]) (st' := [.int 1]) (h' := (n, sl, wKK kk, (mrI I t10 0 (-1) 0 (nI ((ce0 + out.length) + 1)) (nI (fs.length + 1)) (nI (fs.length)) (nI (fsum fs + ops.length)) od (upd (pa_wr c87 (800 * N + ce0) (out.map menc)) (800 * N + (ce0 + out.length)) (nI (9 * 16777216 + 0))) r88 (upd r89 fs.length 2) (upd r90 fs.length 0) r91 r92 r93), (mwL L w10), wQQ q)) 1 rfl ?_
            have e : pa_stP tx T p (kd, ph, bg, pr, ops) fs out = _ := stP_all hT c98
            rw [pa_nr_r hr10] at e
            have hg := pa_ed_gt (b := tx) (n := T) (p := p) (by omega)
            refine tv_rz rfl (by first | exact Or.inl rfl | exact Or.inr rfl) ⟨_, _, _, rfl, rfl, ?_⟩
            rw [e]
            rw [mr_wr]
            refine ⟨rfl, rfl, ⟨_, _, _, _, _, _, _, by rw [List.length_append]; rfl, ht10, frR_ph (x := 2) (frR_bg hfr) (by decide)⟩, ?_⟩
            unfold mrJ; simp only [fsum, List.length_cons, List.length_append, List.length_nil, Bool.false_eq_true, if_false, if_true]; omega
      · refine tv_b (pc' := 82) (ls' := [some (.ref 80), some (.int (nI fs.length)), some (.int 1), none]) (st' := [.int 5, .ref 80]) (h' := (n, sl, wKK kk, (mrI I tk 0 (-1) 0 (nI (ce0 + out.length)) (nI (fs.length + 1)) (nI (fs.length)) (nI (fsum fs + ops.length)) od (pa_wr c87 (800 * N + ce0) (out.map menc)) r88 r89 (upd r90 fs.length 0) r91 r92 r93), (mwL L w), wQQ q)) 2 rfl ?_
        refine tv_cv [.int 5] [] rfl rfl (by omega) rfl (Nat.le_of_ble_eq_true rfl) (Nat.le_of_ble_eq_true rfl) (Or.inr (Or.inr rfl)) (tv_mr_opens hR (by omega) (by omega) (by omega) ht) ?_
        rintro rv9 h9 ⟨rfl, ⟨h8, rfl⟩ | ⟨h8, f11, tf11, w11, hr11, hf11, rfl⟩ | ⟨h8, p11, t11, w11, hr11, hq11, hp11, ht11, rfl⟩⟩
        · refine tv_b (pc' := 86) (ls' := [some (.ref 80), some (.int (nI fs.length)), some (.int 1), none]) (st' := [.int 0]) (h' := (n, sl, wKK kk, (mrI I tk 5 (nI (pa_sk tx T p)) 0 (nI (ce0 + out.length)) (nI (fs.length + 1)) (nI (fs.length)) (nI (fsum fs + ops.length)) od (pa_wr c87 (800 * N + ce0) (out.map menc)) r88 r89 (upd r90 fs.length 0) r91 r92 r93), (mwL L w), wQQ q)) 1 rfl ?_
          refine tv_rz rfl (by first | exact Or.inl rfl | exact Or.inr rfl) ⟨_, _, _, rfl, rfl, ?_⟩
          have e : pa_stP tx T p (kd, ph, bg, pr, ops) fs out = _ := stP_br hT c77
          rw [if_pos h8] at e
          rw [e]
          exact ⟨by first | exact Or.inl rfl | exact Or.inr rfl, ⟨by decide, by decide, by first | omega | exact pa_sk8 (by omega) hT8⟩, ⟨_, _, _, _, _, _, _, _, _, _, _, _, _, _, rfl, fun j hj => by first | rfl | (simp only [upd_n (show j ≠ 800 * N + (ce0 + out.length) by omega), pa_wr_b (show j < 800 * N + ce0 by omega)]) | exact pa_wr_b (by omega)⟩⟩
        · refine tv_b (pc' := 86) (ls' := [some (.ref 80), some (.int (nI fs.length)), some (.int 1), none]) (st' := [.int 0]) (h' := (n, sl, wKK kk, (mrI I tf11 1 (nI f11) 0 (nI (ce0 + out.length)) (nI ((fs.length + 1) + 1)) (nI ((fs.length) + 1)) (nI (fsum fs + ops.length)) od (pa_wr c87 (800 * N + ce0) (out.map menc)) (upd r88 (fs.length + 1) 5) (upd r89 (fs.length + 1) 0) (upd (upd r90 fs.length 0) (fs.length + 1) 1) r91 (upd r92 (fs.length + 1) (nI (fsum fs + ops.length))) r93), (mwL L w11), wQQ q)) 1 rfl ?_
          refine tv_rz rfl (by first | exact Or.inl rfl | exact Or.inr rfl) ⟨_, _, _, rfl, rfl, ?_⟩
          have e : pa_stP tx T p (kd, ph, bg, pr, ops) fs out = _ := stP_br hT c77
          rw [if_neg h8, pa_nr_l hr11] at e
          rw [e]
          exact ⟨by first | exact Or.inl rfl | exact Or.inr rfl, ⟨by decide, by decide, by first | omega | exact pa_sk8 (by omega) hT8⟩, ⟨_, _, _, _, _, _, _, _, _, _, _, _, _, _, rfl, fun j hj => by first | rfl | (simp only [upd_n (show j ≠ 800 * N + (ce0 + out.length) by omega), pa_wr_b (show j < 800 * N + ce0 by omega)]) | exact pa_wr_b (by omega)⟩⟩
        · have hd11 := pa_tk_lt (b := tx) (n := T) p11
          refine tv_b (pc' := 86) (ls' := [some (.ref 80), some (.int (nI fs.length)), some (.int 1), none]) (st' := [.int 0]) (h' := (n, sl, wKK kk, (mrI I t11 0 (-1) 0 (nI (ce0 + out.length)) (nI ((fs.length + 1) + 1)) (nI ((fs.length) + 1)) (nI (fsum fs + ops.length)) od (pa_wr c87 (800 * N + ce0) (out.map menc)) (upd r88 (fs.length + 1) 5) (upd r89 (fs.length + 1) 0) (upd (upd r90 fs.length 0) (fs.length + 1) 1) r91 (upd r92 (fs.length + 1) (nI (fsum fs + ops.length))) r93), (mwL L w11), wQQ q)) 1 rfl ?_
          have e : pa_stP tx T p (kd, ph, bg, pr, ops) fs out = _ := stP_br hT c77
          rw [if_neg h8, pa_nr_r hr11] at e
          have hg := pa_ed_gt (b := tx) (n := T) (p := p) (by omega)
          refine tv_rz rfl (by first | exact Or.inl rfl | exact Or.inr rfl) ⟨_, _, _, rfl, rfl, ?_⟩
          rw [e]
          refine ⟨rfl, rfl, ⟨_, _, _, _, _, _, _, rfl, ht11, frR_new (k := 5) (frR_bg hfr) (by decide) (by decide)⟩, ?_⟩
          unfold mrJ; simp only [fsum, List.length_cons, List.length_append, List.length_nil, Bool.false_eq_true, if_false, if_true]; omega
    · refine tv_b (pc' := 51) (ls' := [some (.ref 80), some (.int (nI fs.length)), some (.int 1), none]) (st' := [.int 26, .ref 80]) (h' := (n, sl, wKK kk, (mrI I tk 0 (-1) 0 (nI (ce0 + out.length)) (nI (fs.length + 1)) (nI (fs.length)) (nI (fsum fs + ops.length)) od (pa_wr c87 (800 * N + ce0) (out.map menc)) r88 r89 r90 r91 r92 r93), (mwL L w), wQQ q)) 2 rfl ?_
      refine tv_cvE [.int 26] [] rfl rfl (by omega) rfl (Nat.le_of_ble_eq_true rfl) (Nat.le_of_ble_eq_true rfl) (Or.inr (Or.inr rfl)) (ev_mr_holds (by omega)) ?_
      refine tv_b (pc' := 55) (ls' := [some (.ref 80), some (.int (nI fs.length)), some (.int 1), none]) (st' := [.ref 80]) (h' := (n, sl, wKK kk, (mrI I tk 0 (-1) 0 (nI (ce0 + out.length)) (nI (fs.length + 1)) (nI (fs.length)) (nI ((fsum fs + ops.length) + 1)) od (pa_wr c87 (800 * N + ce0) (out.map menc)) r88 r89 r90 r91 r92 (upd r93 (fsum fs + ops.length) 26)), (mwL L w), wQQ q)) 1 rfl ?_
      refine tv_cv [] [] rfl rfl (by omega) rfl (Nat.le_of_ble_eq_true rfl) (Nat.le_of_ble_eq_true rfl) (Or.inr (Or.inr rfl)) (tv_mr_nx hR (by omega) ht) ?_
      rintro rv9 h9 ⟨rfl, ⟨f12, tf12, w12, hr12, hf12, rfl⟩ | ⟨p12, t12, w12, hr12, hq12, hp12, ht12, rfl⟩⟩
      · refine tv_b (pc' := 59) (ls' := [some (.ref 80), some (.int (nI fs.length)), some (.int 1), none]) (st' := [.int 0]) (h' := (n, sl, wKK kk, (mrI I tf12 1 (nI f12) 0 (nI (ce0 + out.length)) (nI (fs.length + 1)) (nI (fs.length)) (nI ((fsum fs + ops.length) + 1)) od (pa_wr c87 (800 * N + ce0) (out.map menc)) r88 r89 r90 r91 r92 (upd r93 (fsum fs + ops.length) 26)), (mwL L w12), wQQ q)) 1 rfl ?_
        refine tv_rz rfl (by first | exact Or.inl rfl | exact Or.inr rfl) ⟨_, _, _, rfl, rfl, ?_⟩
        have e : pa_stP tx T p (kd, ph, bg, pr, ops) fs out = _ := stP_not hT c45
        rw [pa_nr_l hr12] at e
        rw [e]
        exact ⟨by first | exact Or.inl rfl | exact Or.inr rfl, ⟨by decide, by decide, by first | omega | exact pa_sk8 (by omega) hT8⟩, ⟨_, _, _, _, _, _, _, _, _, _, _, _, _, _, rfl, fun j hj => by first | rfl | (simp only [upd_n (show j ≠ 800 * N + (ce0 + out.length) by omega), pa_wr_b (show j < 800 * N + ce0 by omega)]) | exact pa_wr_b (by omega)⟩⟩
      · have hd12 := pa_tk_lt (b := tx) (n := T) p12
        have hx12 := (pa_ed_le (b := tx) (n := T) (p := p) (by omega)).2
        refine tv_b (pc' := 59) (ls' := [some (.ref 80), some (.int (nI fs.length)), some (.int 1), none]) (st' := [.int 0]) (h' := (n, sl, wKK kk, (mrI I t12 0 (-1) 0 (nI (ce0 + out.length)) (nI (fs.length + 1)) (nI (fs.length)) (nI ((fsum fs + ops.length) + 1)) od (pa_wr c87 (800 * N + ce0) (out.map menc)) r88 r89 r90 r91 r92 (upd r93 (fsum fs + ops.length) 26)), (mwL L w12), wQQ q)) 1 rfl ?_
        have e : pa_stP tx T p (kd, ph, bg, pr, ops) fs out = _ := stP_not hT c45
        rw [pa_nr_r hr12] at e
        have hg := pa_ed_gt (b := tx) (n := T) (p := p) (by omega)
        have hg3 := pa_tk_len c45 (by decide)
        have hg4 : (pa_words.getD 9 []).length = 3 := rfl
        refine tv_rz rfl (by first | exact Or.inl rfl | exact Or.inr rfl) ⟨_, _, _, rfl, rfl, ?_⟩
        rw [e]
        refine ⟨rfl, rfl, ⟨_, _, _, _, _, _, _, rfl, ht12, frR_push hfr (by decide)⟩, ?_⟩
        unfold mrJ; simp only [fsum, List.length_cons, List.length_append, List.length_nil, Bool.false_eq_true, if_false, if_true]; omega
  · show am_T _ _ 0 [some (.ref 80), none, none, none] _ _ _
    refine tv_b (pc' := 5) (ls' := [some (.ref 80), none, none, none]) (st' := [.int 1, .int (nI (fs.length + 1))]) (h' := (n, sl, wKK kk, (mrI I tk 0 (-1) 0 (nI (ce0 + out.length)) (nI (fs.length + 1)) (nI (fs.length)) (nI (fsum fs + ops.length)) od (pa_wr c87 (800 * N + ce0) (out.map menc)) r88 r89 r90 r91 r92 r93), (mwL L w), wQQ q)) 3 rfl ?_
    refine tv_b (pc' := 6) (ls' := [some (.ref 80), none, none, none]) (st' := [.int ((nI (fs.length + 1)) - 1)]) (h' := (n, sl, wKK kk, (mrI I tk 0 (-1) 0 (nI (ce0 + out.length)) (nI (fs.length + 1)) (nI (fs.length)) (nI (fsum fs + ops.length)) od (pa_wr c87 (800 * N + ce0) (out.map menc)) r88 r89 r90 r91 r92 r93), (mwL L w), wQQ q)) 1 rfl ?_
    refine tv_top (show (nI (fs.length + 1)) - 1 = nI fs.length from nI_sub (a := (fs.length + 1)) (b := 1) (by omega)) ?_
    refine tv_b (pc' := 12) (ls' := [some (.ref 80), some (.int (nI fs.length)), none, none]) (st' := [.int (nI fs.length), .ref 88]) (h' := (n, sl, wKK kk, (mrI I tk 0 (-1) 0 (nI (ce0 + out.length)) (nI (fs.length + 1)) (nI (fs.length)) (nI (fsum fs + ops.length)) od (pa_wr c87 (800 * N + ce0) (out.map menc)) r88 r89 r90 r91 r92 r93), (mwL L w), wQQ q)) 4 rfl ?_
    refine tv_ialN (k := fs.length) rfl (rfl) (⟨by omega, by omega⟩) ?_
    refine tv_top (hfr.1) ?_
    refine tv_csE [.int (nI kd)] [] rfl rfl (by omega) rfl (Nat.le_of_ble_eq_true rfl) (Nat.le_of_ble_eq_true rfl) (ev_mr_isT hk5) ?_
    refine tv_b (pc' := (if (if pa_isT kd = true then 1 else 0) = 0 then 32 else 19)) (ls' := [some (.ref 80), some (.int (nI fs.length)), none, none]) (st' := []) (h' := (n, sl, wKK kk, (mrI I tk 0 (-1) 0 (nI (ce0 + out.length)) (nI (fs.length + 1)) (nI (fs.length)) (nI (fsum fs + ops.length)) od (pa_wr c87 (800 * N + ce0) (out.map menc)) r88 r89 r90 r91 r92 r93), (mwL L w), wQQ q)) 1 rfl ?_
    refine tv_b0 (fun c16 => ?_) (fun c16 => ?_)
    · refine tv_b (pc' := 66) (ls' := [some (.ref 80), some (.int (nI fs.length)), some (.int 0), none]) (st' := [.int 0, .int (nI fs.length), .ref 90]) (h' := (n, sl, wKK kk, (mrI I tk 0 (-1) 0 (nI (ce0 + out.length)) (nI (fs.length + 1)) (nI (fs.length)) (nI (fsum fs + ops.length)) od (pa_wr c87 (800 * N + ce0) (out.map menc)) r88 r89 r90 r91 r92 r93), (mwL L w), wQQ q)) 8 rfl ?_
      refine tv_basZN (k := fs.length) rfl (rfl) (⟨by omega, by omega⟩) ?_
      refine tv_hI mrI_w_r90 ?_
      refine tv_b (pc' := 125) (ls' := [some (.ref 80), some (.int (nI fs.length)), some (.int 0), none]) (st' := [.long 1819238756, .ref 80]) (h' := (n, sl, wKK kk, (mrI I tk 0 (-1) 0 (nI (ce0 + out.length)) (nI (fs.length + 1)) (nI (fs.length)) (nI (fsum fs + ops.length)) od (pa_wr c87 (800 * N + ce0) (out.map menc)) r88 r89 (upd r90 fs.length 0) r91 r92 r93), (mwL L w), wQQ q)) 6 rfl ?_
      refine tv_cvE [.long 1819238756] [] rfl rfl (by omega) rfl (Nat.le_of_ble_eq_true rfl) (Nat.le_of_ble_eq_true rfl) (Or.inr (Or.inr rfl)) (ev_mr_isW ht (by decide) mw_18) ?_
      refine tv_b (pc' := (if (if pa_tk tx T p = 18 then 1 else 0) = 0 then 207 else 131)) (ls' := [some (.ref 80), some (.int (nI fs.length)), some (.int 0), none]) (st' := []) (h' := (n, sl, wKK kk, (mrI I tk 0 (-1) 0 (nI (ce0 + out.length)) (nI (fs.length + 1)) (nI (fs.length)) (nI (fsum fs + ops.length)) od (pa_wr c87 (800 * N + ce0) (out.map menc)) r88 r89 (upd r90 fs.length 0) r91 r92 r93), (mwL L w), wQQ q)) 1 rfl ?_
      refine tv_b0 (fun c128 => ?_) (fun c128 => ?_)
      · refine tv_b (pc' := 210) (ls' := [some (.ref 80), some (.int (nI fs.length)), some (.int 0), none]) (st' := [.int 40, .ref 80]) (h' := (n, sl, wKK kk, (mrI I tk 0 (-1) 0 (nI (ce0 + out.length)) (nI (fs.length + 1)) (nI (fs.length)) (nI (fsum fs + ops.length)) od (pa_wr c87 (800 * N + ce0) (out.map menc)) r88 r89 (upd r90 fs.length 0) r91 r92 r93), (mwL L w), wQQ q)) 2 rfl ?_
        refine tv_cvE [.int 40] [] rfl rfl (by omega) rfl (Nat.le_of_ble_eq_true rfl) (Nat.le_of_ble_eq_true rfl) (Or.inr (Or.inr rfl)) (ev_mr_isS (c := 40) (t := 32) ht (by decide)) ?_
        refine tv_b (pc' := (if (if pa_tk tx T p = 32 then 1 else 0) = 0 then 223 else 216)) (ls' := [some (.ref 80), some (.int (nI fs.length)), some (.int 0), none]) (st' := []) (h' := (n, sl, wKK kk, (mrI I tk 0 (-1) 0 (nI (ce0 + out.length)) (nI (fs.length + 1)) (nI (fs.length)) (nI (fsum fs + ops.length)) od (pa_wr c87 (800 * N + ce0) (out.map menc)) r88 r89 (upd r90 fs.length 0) r91 r92 r93), (mwL L w), wQQ q)) 1 rfl ?_
        refine tv_b0 (fun c213 => ?_) (fun c213 => ?_)
        · refine tv_b (pc' := 227) (ls' := [some (.ref 80), some (.int (nI fs.length)), some (.int 0), none]) (st' := [.long 7170414, .ref 80]) (h' := (n, sl, wKK kk, (mrI I tk 0 (-1) 0 (nI (ce0 + out.length)) (nI (fs.length + 1)) (nI (fs.length)) (nI (fsum fs + ops.length)) od (pa_wr c87 (800 * N + ce0) (out.map menc)) r88 r89 (upd r90 fs.length 0) r91 r92 r93), (mwL L w), wQQ q)) 2 rfl ?_
          refine tv_cvE [.long 7170414] [] rfl rfl (by omega) rfl (Nat.le_of_ble_eq_true rfl) (Nat.le_of_ble_eq_true rfl) (Or.inr (Or.inr rfl)) (ev_mr_isW ht (by decide) mw_19) ?_
          refine tv_b (pc' := (if (if pa_tk tx T p = 19 then 1 else 0) = 0 then 233 else 243)) (ls' := [some (.ref 80), some (.int (nI fs.length)), some (.int 0), none]) (st' := []) (h' := (n, sl, wKK kk, (mrI I tk 0 (-1) 0 (nI (ce0 + out.length)) (nI (fs.length + 1)) (nI (fs.length)) (nI (fsum fs + ops.length)) od (pa_wr c87 (800 * N + ce0) (out.map menc)) r88 r89 (upd r90 fs.length 0) r91 r92 r93), (mwL L w), wQQ q)) 1 rfl ?_
          refine tv_b0 (fun c230 => ?_) (fun c230 => ?_)
          · refine tv_b (pc' := 237) (ls' := [some (.ref 80), some (.int (nI fs.length)), some (.int 0), none]) (st' := [.long 7168376, .ref 80]) (h' := (n, sl, wKK kk, (mrI I tk 0 (-1) 0 (nI (ce0 + out.length)) (nI (fs.length + 1)) (nI (fs.length)) (nI (fsum fs + ops.length)) od (pa_wr c87 (800 * N + ce0) (out.map menc)) r88 r89 (upd r90 fs.length 0) r91 r92 r93), (mwL L w), wQQ q)) 2 rfl ?_
            refine tv_cvE [.long 7168376] [] rfl rfl (by omega) rfl (Nat.le_of_ble_eq_true rfl) (Nat.le_of_ble_eq_true rfl) (Or.inr (Or.inr rfl)) (ev_mr_isW ht (by decide) mw_20) ?_
            refine tv_b (pc' := (if (if pa_tk tx T p = 20 then 1 else 0) = 0 then 309 else 243)) (ls' := [some (.ref 80), some (.int (nI fs.length)), some (.int 0), none]) (st' := []) (h' := (n, sl, wKK kk, (mrI I tk 0 (-1) 0 (nI (ce0 + out.length)) (nI (fs.length + 1)) (nI (fs.length)) (nI (fsum fs + ops.length)) od (pa_wr c87 (800 * N + ce0) (out.map menc)) r88 r89 (upd r90 fs.length 0) r91 r92 r93), (mwL L w), wQQ q)) 1 rfl ?_
            refine tv_b0 (fun c240 => ?_) (fun c240 => ?_)
            · refine tv_b (pc' := 310) (ls' := [some (.ref 80), some (.int (nI fs.length)), some (.int 0), none]) (st' := [.ref 80]) (h' := (n, sl, wKK kk, (mrI I tk 0 (-1) 0 (nI (ce0 + out.length)) (nI (fs.length + 1)) (nI (fs.length)) (nI (fsum fs + ops.length)) od (pa_wr c87 (800 * N + ce0) (out.map menc)) r88 r89 (upd r90 fs.length 0) r91 r92 r93), (mwL L w), wQQ q)) 1 rfl ?_
              have hml := mask_le (pa_tk tx T p)
              refine tv_cvE [] [] rfl rfl (by omega) rfl (Nat.le_of_ble_eq_true rfl) (Nat.le_of_ble_eq_true rfl) (Or.inr (Or.inr rfl)) (ev_mr_asks ht) ?_
              refine tv_b (pc' := (if (tk 3) = 2 then 322 else 334)) (ls' := [some (.ref 80), some (.int (nI fs.length)), some (.int 0), some (.int (nI (mask (pa_tk tx T p))))]) (st' := []) (h' := (n, sl, wKK kk, (mrI I tk 0 (-1) 0 (nI (ce0 + out.length)) (nI (fs.length + 1)) (nI (fs.length)) (nI (fsum fs + ops.length)) od (pa_wr c87 (800 * N + ce0) (out.map menc)) r88 r89 (upd r90 fs.length 0) r91 r92 r93), (mwL L w), wQQ q)) 5 rfl ?_
              refine tv_if (fun c319 => ?_) (fun c319 => ?_)
              · have h21 := (mr_num ht).mp c319
                have hnl := pa_nm_lt hlf h21
                refine tv_b (pc' := 328) (ls' := [some (.ref 80), some (.int (nI fs.length)), some (.int 0), some (.int (nI (mask (pa_tk tx T p))))]) (st' := [.int (tk 6), .int 0, .ref 80]) (h' := (n, sl, wKK kk, (mrI I tk 0 (-1) 0 (nI (ce0 + out.length)) (nI (fs.length + 1)) (nI (fs.length)) (nI (fsum fs + ops.length)) od (pa_wr c87 (800 * N + ce0) (out.map menc)) r88 r89 (upd r90 fs.length 0) r91 r92 r93), (mwL L w), wQQ q)) 4 rfl ?_
                refine tv_top (mr_numv ht h21) ?_
                have hgA := pa_ed_gt (b := tx) (n := T) (p := p) (by omega)
                refine tv_cvE [.int 0, .int (nI (pa_nm tx T p))] [] rfl rfl (by omega) rfl (Nat.le_of_ble_eq_true rfl) (Nat.le_of_ble_eq_true rfl) (Or.inr (Or.inr rfl)) (ev_mr_add (x := 0) (v := (pa_nm tx T p)) hN (by omega) (by omega) (by omega)) ?_
                refine tv_b (pc' := 364) (ls' := [some (.ref 80), some (.int (nI fs.length)), some (.int 0), some (.int (nI (mask (pa_tk tx T p))))]) (st' := [.ref 80]) (h' := (n, sl, wKK kk, (mrI I tk 0 (-1) 0 (nI ((ce0 + out.length) + 1)) (nI (fs.length + 1)) (nI (fs.length)) (nI (fsum fs + ops.length)) od (upd (pa_wr c87 (800 * N + ce0) (out.map menc)) (800 * N + (ce0 + out.length)) (nI (0 * 16777216 + (pa_nm tx T p)))) r88 r89 (upd r90 fs.length 0) r91 r92 r93), (mwL L w), wQQ q)) 5 rfl ?_
                refine tv_cv [] [] rfl rfl (by omega) rfl (Nat.le_of_ble_eq_true rfl) (Nat.le_of_ble_eq_true rfl) (Or.inr (Or.inr rfl)) (tv_mr_nx hR (by omega) ht) ?_
                rintro rv9 h9 ⟨rfl, ⟨f1, tf1, w1, hr1, hf1, rfl⟩ | ⟨p1, t1, w1, hr1, hq1, hp1, ht1, rfl⟩⟩
                · refine tv_b (pc' := 368) (ls' := [some (.ref 80), some (.int (nI fs.length)), some (.int 0), some (.int (nI (mask (pa_tk tx T p))))]) (st' := [.int 1]) (h' := (n, sl, wKK kk, (mrI I tf1 1 (nI f1) 0 (nI ((ce0 + out.length) + 1)) (nI (fs.length + 1)) (nI (fs.length)) (nI (fsum fs + ops.length)) od (upd (pa_wr c87 (800 * N + ce0) (out.map menc)) (800 * N + (ce0 + out.length)) (nI (0 * 16777216 + (pa_nm tx T p)))) r88 r89 (upd r90 fs.length 0) r91 r92 r93), (mwL L w1), wQQ q)) 1 rfl ?_
                  refine tv_rz rfl (by first | exact Or.inl rfl | exact Or.inr rfl) ⟨_, _, _, rfl, rfl, ?_⟩
                  have e : pa_stP tx T p (kd, ph, bg, pr, ops) fs out = _ := stP_num ((mr_num ht).mp c319)
                  rw [pa_nr_l hr1] at e
                  rw [e]
                  exact ⟨by first | exact Or.inl rfl | exact Or.inr rfl, ⟨by decide, by decide, by first | omega | exact pa_sk8 (by omega) hT8⟩, ⟨_, _, _, _, _, _, _, _, _, _, _, _, _, _, rfl, fun j hj => by first | rfl | (simp only [upd_n (show j ≠ 800 * N + (ce0 + out.length) by omega), pa_wr_b (show j < 800 * N + ce0 by omega)]) | exact pa_wr_b (by omega)⟩⟩
                · have hd1 := pa_tk_lt (b := tx) (n := T) p1
                  have hx1 := (pa_ed_le (b := tx) (n := T) (p := p) (by omega)).2
                  refine tv_b (pc' := 368) (ls' := [some (.ref 80), some (.int (nI fs.length)), some (.int 0), some (.int (nI (mask (pa_tk tx T p))))]) (st' := [.int 1]) (h' := (n, sl, wKK kk, (mrI I t1 0 (-1) 0 (nI ((ce0 + out.length) + 1)) (nI (fs.length + 1)) (nI (fs.length)) (nI (fsum fs + ops.length)) od (upd (pa_wr c87 (800 * N + ce0) (out.map menc)) (800 * N + (ce0 + out.length)) (nI (0 * 16777216 + (pa_nm tx T p)))) r88 r89 (upd r90 fs.length 0) r91 r92 r93), (mwL L w1), wQQ q)) 1 rfl ?_
                  have e : pa_stP tx T p (kd, ph, bg, pr, ops) fs out = _ := stP_num ((mr_num ht).mp c319)
                  rw [pa_nr_r hr1] at e
                  have h21 := (mr_num ht).mp c319
                  have hg := pa_ed_gt (b := tx) (n := T) (p := p) (by omega)
                  refine tv_rz rfl (by first | exact Or.inl rfl | exact Or.inr rfl) ⟨_, _, _, rfl, rfl, ?_⟩
                  rw [e]
                  rw [mr_wr]
                  refine ⟨rfl, rfl, ⟨_, _, _, _, _, _, _, by rw [List.length_append]; rfl, ht1, frR_bg hfr⟩, ?_⟩
                  unfold mrJ; simp only [fsum, List.length_cons, List.length_append, List.length_nil, Bool.false_eq_true, if_false, if_true]; omega
              · refine tv_b (pc' := (if (nI (mask (pa_tk tx T p))) ≤ 0 then 347 else 338)) (ls' := [some (.ref 80), some (.int (nI fs.length)), some (.int 0), some (.int (nI (mask (pa_tk tx T p))))]) (st' := []) (h' := (n, sl, wKK kk, (mrI I tk 0 (-1) 0 (nI (ce0 + out.length)) (nI (fs.length + 1)) (nI (fs.length)) (nI (fsum fs + ops.length)) od (pa_wr c87 (800 * N + ce0) (out.map menc)) r88 r89 (upd r90 fs.length 0) r91 r92 r93), (mwL L w), wQQ q)) 2 rfl ?_
                refine tv_ifq (nI_leI (a := (mask (pa_tk tx T p))) (b := 0) (by omega) (by omega)) (fun c335 => ?_) (fun c335 => ?_)
                · refine tv_b (pc' := 353) (ls' := [some (.ref 80), some (.int (nI fs.length)), some (.int 0), some (.int (nI (mask (pa_tk tx T p))))]) (st' := [.int (tk 4), .int 1, .ref 80]) (h' := (n, sl, wKK kk, (mrI I tk 0 (-1) 0 (nI (ce0 + out.length)) (nI (fs.length + 1)) (nI (fs.length)) (nI (fsum fs + ops.length)) od (pa_wr c87 (800 * N + ce0) (out.map menc)) r88 r89 (upd r90 fs.length 0) r91 r92 r93), (mwL L w), wQQ q)) 4 rfl ?_
                  refine tv_top (ht.1) ?_
                  refine tv_cvE [.int 1, .int (nI (pa_sk tx T p))] [] rfl rfl (by omega) rfl (Nat.le_of_ble_eq_true rfl) (Nat.le_of_ble_eq_true rfl) (Or.inr (Or.inr rfl)) (ev_mr_blame0) ?_
                  refine tv_b (pc' := 368) (ls' := [some (.ref 80), some (.int (nI fs.length)), some (.int 0), some (.int (nI (mask (pa_tk tx T p))))]) (st' := [.int 1]) (h' := (n, sl, wKK kk, (mrI I tk 1 (nI (pa_sk tx T p)) 0 (nI (ce0 + out.length)) (nI (fs.length + 1)) (nI (fs.length)) (nI (fsum fs + ops.length)) od (pa_wr c87 (800 * N + ce0) (out.map menc)) r88 r89 (upd r90 fs.length 0) r91 r92 r93), (mwL L w), wQQ q)) 4 rfl ?_
                  have hnm : pa_tk tx T p ≠ 21 := fun q => c319 ((mr_num ht).mpr q)
                  refine tv_rz rfl (by first | exact Or.inl rfl | exact Or.inr rfl) ⟨_, _, _, rfl, rfl, ?_⟩
                  have e : pa_stP tx T p (kd, ph, bg, pr, ops) fs out = _ := stP_bad (fun hTT => by first | exact absurd hTT hT | exact ⟨by omega, by omega, by omega⟩) ⟨by omega, by omega, by omega, by omega, by omega, mask_n (by omega)⟩
                  rw [e]
                  exact ⟨by first | exact Or.inl rfl | exact Or.inr rfl, ⟨by decide, by decide, by first | omega | exact pa_sk8 (by omega) hT8⟩, ⟨_, _, _, _, _, _, _, _, _, _, _, _, _, _, rfl, fun j hj => by first | rfl | (simp only [upd_n (show j ≠ 800 * N + (ce0 + out.length) by omega), pa_wr_b (show j < 800 * N + ce0 by omega)]) | exact pa_wr_b (by omega)⟩⟩
                · refine tv_b (pc' := 341) (ls' := [some (.ref 80), some (.int (nI fs.length)), some (.int 0), some (.int (nI (mask (pa_tk tx T p))))]) (st' := [.int 0, .int (nI (mask (pa_tk tx T p))), .ref 80]) (h' := (n, sl, wKK kk, (mrI I tk 0 (-1) 0 (nI (ce0 + out.length)) (nI (fs.length + 1)) (nI (fs.length)) (nI (fsum fs + ops.length)) od (pa_wr c87 (800 * N + ce0) (out.map menc)) r88 r89 (upd r90 fs.length 0) r91 r92 r93), (mwL L w), wQQ q)) 3 rfl ?_
                  have hmk := mask_y (t := pa_tk tx T p) (by omega)
                  have hgA := pa_ed_gt (b := tx) (n := T) (p := p) (by omega)
                  refine tv_cvE [.int (nI (mask (pa_tk tx T p))), .int 0] [] rfl rfl (by omega) rfl (Nat.le_of_ble_eq_true rfl) (Nat.le_of_ble_eq_true rfl) (Or.inr (Or.inr rfl)) (ev_mr_add (x := (mask (pa_tk tx T p))) (v := 0) hN (by omega) (by omega) (by omega)) ?_
                  refine tv_b (pc' := 364) (ls' := [some (.ref 80), some (.int (nI fs.length)), some (.int 0), some (.int (nI (mask (pa_tk tx T p))))]) (st' := [.ref 80]) (h' := (n, sl, wKK kk, (mrI I tk 0 (-1) 0 (nI ((ce0 + out.length) + 1)) (nI (fs.length + 1)) (nI (fs.length)) (nI (fsum fs + ops.length)) od (upd (pa_wr c87 (800 * N + ce0) (out.map menc)) (800 * N + (ce0 + out.length)) (nI ((mask (pa_tk tx T p)) * 16777216 + 0))) r88 r89 (upd r90 fs.length 0) r91 r92 r93), (mwL L w), wQQ q)) 5 rfl ?_
                  refine tv_cv [] [] rfl rfl (by omega) rfl (Nat.le_of_ble_eq_true rfl) (Nat.le_of_ble_eq_true rfl) (Or.inr (Or.inr rfl)) (tv_mr_nx hR (by omega) ht) ?_
                  rintro rv9 h9 ⟨rfl, ⟨f2, tf2, w2, hr2, hf2, rfl⟩ | ⟨p2, t2, w2, hr2, hq2, hp2, ht2, rfl⟩⟩
                  · refine tv_b (pc' := 368) (ls' := [some (.ref 80), some (.int (nI fs.length)), some (.int 0), some (.int (nI (mask (pa_tk tx T p))))]) (st' := [.int 1]) (h' := (n, sl, wKK kk, (mrI I tf2 1 (nI f2) 0 (nI ((ce0 + out.length) + 1)) (nI (fs.length + 1)) (nI (fs.length)) (nI (fsum fs + ops.length)) od (upd (pa_wr c87 (800 * N + ce0) (out.map menc)) (800 * N + (ce0 + out.length)) (nI ((mask (pa_tk tx T p)) * 16777216 + 0))) r88 r89 (upd r90 fs.length 0) r91 r92 r93), (mwL L w2), wQQ q)) 1 rfl ?_
                    refine tv_rz rfl (by first | exact Or.inl rfl | exact Or.inr rfl) ⟨_, _, _, rfl, rfl, ?_⟩
                    have e : pa_stP tx T p (kd, ph, bg, pr, ops) fs out = _ := stP_ask (mask_y (by omega)).1
                    rw [pa_nr_l hr2] at e
                    rw [e]
                    exact ⟨by first | exact Or.inl rfl | exact Or.inr rfl, ⟨by decide, by decide, by first | omega | exact pa_sk8 (by omega) hT8⟩, ⟨_, _, _, _, _, _, _, _, _, _, _, _, _, _, rfl, fun j hj => by first | rfl | (simp only [upd_n (show j ≠ 800 * N + (ce0 + out.length) by omega), pa_wr_b (show j < 800 * N + ce0 by omega)]) | exact pa_wr_b (by omega)⟩⟩
                  · have hd2 := pa_tk_lt (b := tx) (n := T) p2
                    have hx2 := (pa_ed_le (b := tx) (n := T) (p := p) (by omega)).2
                    refine tv_b (pc' := 368) (ls' := [some (.ref 80), some (.int (nI fs.length)), some (.int 0), some (.int (nI (mask (pa_tk tx T p))))]) (st' := [.int 1]) (h' := (n, sl, wKK kk, (mrI I t2 0 (-1) 0 (nI ((ce0 + out.length) + 1)) (nI (fs.length + 1)) (nI (fs.length)) (nI (fsum fs + ops.length)) od (upd (pa_wr c87 (800 * N + ce0) (out.map menc)) (800 * N + (ce0 + out.length)) (nI ((mask (pa_tk tx T p)) * 16777216 + 0))) r88 r89 (upd r90 fs.length 0) r91 r92 r93), (mwL L w2), wQQ q)) 1 rfl ?_
                    have e : pa_stP tx T p (kd, ph, bg, pr, ops) fs out = _ := stP_ask (mask_y (by omega)).1
                    rw [pa_nr_r hr2] at e
                    have hg := pa_ed_gt (b := tx) (n := T) (p := p) (by omega)
                    refine tv_rz rfl (by first | exact Or.inl rfl | exact Or.inr rfl) ⟨_, _, _, rfl, rfl, ?_⟩
                    rw [e]
                    rw [mr_wr, hmk.2]
                    refine ⟨rfl, rfl, ⟨_, _, _, _, _, _, _, by rw [List.length_append]; rfl, ht2, frR_bg hfr⟩, ?_⟩
                    unfold mrJ; simp only [fsum, List.length_cons, List.length_append, List.length_nil, Bool.false_eq_true, if_false, if_true]; omega
            · refine tv_b (pc' := 247) (ls' := [some (.ref 80), some (.int (nI fs.length)), some (.int 0), none]) (st' := [.long 7170414, .ref 80]) (h' := (n, sl, wKK kk, (mrI I tk 0 (-1) 0 (nI (ce0 + out.length)) (nI (fs.length + 1)) (nI (fs.length)) (nI (fsum fs + ops.length)) od (pa_wr c87 (800 * N + ce0) (out.map menc)) r88 r89 (upd r90 fs.length 0) r91 r92 r93), (mwL L w), wQQ q)) 2 rfl ?_
              refine tv_cvE [.long 7170414] [] rfl rfl (by omega) rfl (Nat.le_of_ble_eq_true rfl) (Nat.le_of_ble_eq_true rfl) (Or.inr (Or.inr rfl)) (ev_mr_isW ht (by decide) mw_19) ?_
              refine tv_b (pc' := (if (if pa_tk tx T p = 19 then 1 else 0) = 0 then 258 else 253)) (ls' := [some (.ref 80), some (.int (nI fs.length)), some (.int 0), none]) (st' := []) (h' := (n, sl, wKK kk, (mrI I tk 0 (-1) 0 (nI (ce0 + out.length)) (nI (fs.length + 1)) (nI (fs.length)) (nI (fsum fs + ops.length)) od (pa_wr c87 (800 * N + ce0) (out.map menc)) r88 r89 (upd r90 fs.length 0) r91 r92 r93), (mwL L w), wQQ q)) 1 rfl ?_
              refine tv_b0f (c230) ?_
              refine tv_b (pc' := 262) (ls' := [some (.ref 80), some (.int (nI fs.length)), some (.int 0), some (.int 20)]) (st' := [.ref 80]) (h' := (n, sl, wKK kk, (mrI I tk 0 (-1) 0 (nI (ce0 + out.length)) (nI (fs.length + 1)) (nI (fs.length)) (nI (fsum fs + ops.length)) od (pa_wr c87 (800 * N + ce0) (out.map menc)) r88 r89 (upd r90 fs.length 0) r91 r92 r93), (mwL L w), wQQ q)) 3 rfl ?_
              refine tv_cv [] [] rfl rfl (by omega) rfl (Nat.le_of_ble_eq_true rfl) (Nat.le_of_ble_eq_true rfl) (Or.inr (Or.inr rfl)) (tv_mr_nx hR (by omega) ht) ?_
              rintro rv9 h9 ⟨rfl, ⟨f3, tf3, w3, hr3, hf3, rfl⟩ | ⟨p3, t3, w3, hr3, hq3, hp3, ht3, rfl⟩⟩
              · refine tv_b (pc' := 268) (ls' := [some (.ref 80), some (.int (nI fs.length)), some (.int 0), some (.int 20)]) (st' := [.int 40, .ref 80]) (h' := (n, sl, wKK kk, (mrI I tf3 1 (nI f3) 0 (nI (ce0 + out.length)) (nI (fs.length + 1)) (nI (fs.length)) (nI (fsum fs + ops.length)) od (pa_wr c87 (800 * N + ce0) (out.map menc)) r88 r89 (upd r90 fs.length 0) r91 r92 r93), (mwL L w3), wQQ q)) 2 rfl ?_
                refine tv_cvE [.int 40] [] rfl rfl (by omega) rfl (Nat.le_of_ble_eq_true rfl) (Nat.le_of_ble_eq_true rfl) (Or.inr (Or.inr rfl)) (ev_m_isSign) ?_
                refine tv_b (pc' := (if (sp_m_isSign 40 (mrI I tf3 1 (nI f3) 0 (nI (ce0 + out.length)) (nI (fs.length + 1)) (nI (fs.length)) (nI (fsum fs + ops.length)) od (pa_wr c87 (800 * N + ce0) (out.map menc)) r88 r89 (upd r90 fs.length 0) r91 r92 r93) (mwL L w3)) = 0 then 274 else 283)) (ls' := [some (.ref 80), some (.int (nI fs.length)), some (.int 0), some (.int 20)]) (st' := []) (h' := (n, sl, wKK kk, (mrI I tf3 1 (nI f3) 0 (nI (ce0 + out.length)) (nI (fs.length + 1)) (nI (fs.length)) (nI (fsum fs + ops.length)) od (pa_wr c87 (800 * N + ce0) (out.map menc)) r88 r89 (upd r90 fs.length 0) r91 r92 r93), (mwL L w3), wQQ q)) 1 rfl ?_
                refine tv_if (fun c271 => ?_) (fun c271 => ?_)
                · refine tv_b (pc' := 280) (ls' := [some (.ref 80), some (.int (nI fs.length)), some (.int 0), some (.int 20)]) (st' := [.int (tf3 4), .int 1, .ref 80]) (h' := (n, sl, wKK kk, (mrI I tf3 1 (nI f3) 0 (nI (ce0 + out.length)) (nI (fs.length + 1)) (nI (fs.length)) (nI (fsum fs + ops.length)) od (pa_wr c87 (800 * N + ce0) (out.map menc)) r88 r89 (upd r90 fs.length 0) r91 r92 r93), (mwL L w3), wQQ q)) 4 rfl ?_
                  refine tv_cvE [.int 1, .int (tf3 4)] [] rfl rfl (by omega) rfl (Nat.le_of_ble_eq_true rfl) (Nat.le_of_ble_eq_true rfl) (Or.inr (Or.inr rfl)) (ev_mr_blameF (by decide)) ?_
                  refine tv_b (pc' := 285) (ls' := [some (.ref 80), some (.int (nI fs.length)), some (.int 0), some (.int 20)]) (st' := [.int 3, .ref 80]) (h' := (n, sl, wKK kk, (mrI I tf3 1 (nI f3) 0 (nI (ce0 + out.length)) (nI (fs.length + 1)) (nI (fs.length)) (nI (fsum fs + ops.length)) od (pa_wr c87 (800 * N + ce0) (out.map menc)) r88 r89 (upd r90 fs.length 0) r91 r92 r93), (mwL L w3), wQQ q)) 2 rfl ?_
                  refine tv_cvE [.int 3] [] rfl rfl (by omega) rfl (Nat.le_of_ble_eq_true rfl) (Nat.le_of_ble_eq_true rfl) (Or.inr (Or.inr rfl)) (ev_mr_opens1) ?_
                  refine tv_b (pc' := 308) (ls' := [some (.ref 80), some (.int (nI fs.length)), some (.int 0), some (.int 20)]) (st' := [.int 0]) (h' := (n, sl, wKK kk, (mrI I tf3 1 (nI f3) 0 (nI (ce0 + out.length)) (nI (fs.length + 1)) (nI (fs.length)) (nI (fsum fs + ops.length)) od (pa_wr c87 (800 * N + ce0) (out.map menc)) r88 r89 (upd r90 fs.length 0) r91 r92 r93), (mwL L w3), wQQ q)) 4 rfl ?_
                  refine tv_rz rfl (by first | exact Or.inl rfl | exact Or.inr rfl) ⟨_, _, _, rfl, rfl, ?_⟩
                  have e : pa_stP tx T p (kd, ph, bg, pr, ops) fs out = _ := stP_mm (Or.inr rfl) c240
                  rw [pa_nr_l hr3] at e
                  rw [e]
                  exact ⟨by first | exact Or.inl rfl | exact Or.inr rfl, ⟨by decide, by decide, by first | omega | exact pa_sk8 (by omega) hT8⟩, ⟨_, _, _, _, _, _, _, _, _, _, _, _, _, _, rfl, fun j hj => by first | rfl | (simp only [upd_n (show j ≠ 800 * N + (ce0 + out.length) by omega), pa_wr_b (show j < 800 * N + ce0 by omega)]) | exact pa_wr_b (by omega)⟩⟩
                · refine tv_b (pc' := 285) (ls' := [some (.ref 80), some (.int (nI fs.length)), some (.int 0), some (.int 20)]) (st' := [.int 3, .ref 80]) (h' := (n, sl, wKK kk, (mrI I tf3 1 (nI f3) 0 (nI (ce0 + out.length)) (nI (fs.length + 1)) (nI (fs.length)) (nI (fsum fs + ops.length)) od (pa_wr c87 (800 * N + ce0) (out.map menc)) r88 r89 (upd r90 fs.length 0) r91 r92 r93), (mwL L w3), wQQ q)) 2 rfl ?_
                  refine tv_cvE [.int 3] [] rfl rfl (by omega) rfl (Nat.le_of_ble_eq_true rfl) (Nat.le_of_ble_eq_true rfl) (Or.inr (Or.inr rfl)) (ev_mr_opens1) ?_
                  refine tv_b (pc' := 308) (ls' := [some (.ref 80), some (.int (nI fs.length)), some (.int 0), some (.int 20)]) (st' := [.int 0]) (h' := (n, sl, wKK kk, (mrI I tf3 1 (nI f3) 0 (nI (ce0 + out.length)) (nI (fs.length + 1)) (nI (fs.length)) (nI (fsum fs + ops.length)) od (pa_wr c87 (800 * N + ce0) (out.map menc)) r88 r89 (upd r90 fs.length 0) r91 r92 r93), (mwL L w3), wQQ q)) 4 rfl ?_
                  refine tv_rz rfl (by first | exact Or.inl rfl | exact Or.inr rfl) ⟨_, _, _, rfl, rfl, ?_⟩
                  have e : pa_stP tx T p (kd, ph, bg, pr, ops) fs out = _ := stP_mm (Or.inr rfl) c240
                  rw [pa_nr_l hr3] at e
                  rw [e]
                  exact ⟨by first | exact Or.inl rfl | exact Or.inr rfl, ⟨by decide, by decide, by first | omega | exact pa_sk8 (by omega) hT8⟩, ⟨_, _, _, _, _, _, _, _, _, _, _, _, _, _, rfl, fun j hj => by first | rfl | (simp only [upd_n (show j ≠ 800 * N + (ce0 + out.length) by omega), pa_wr_b (show j < 800 * N + ce0 by omega)]) | exact pa_wr_b (by omega)⟩⟩
              · have hd3 := pa_tk_lt (b := tx) (n := T) p3
                have hx3 := (pa_ed_le (b := tx) (n := T) (p := p) (by omega)).2
                refine tv_b (pc' := 268) (ls' := [some (.ref 80), some (.int (nI fs.length)), some (.int 0), some (.int 20)]) (st' := [.int 40, .ref 80]) (h' := (n, sl, wKK kk, (mrI I t3 0 (-1) 0 (nI (ce0 + out.length)) (nI (fs.length + 1)) (nI (fs.length)) (nI (fsum fs + ops.length)) od (pa_wr c87 (800 * N + ce0) (out.map menc)) r88 r89 (upd r90 fs.length 0) r91 r92 r93), (mwL L w3), wQQ q)) 2 rfl ?_
                refine tv_cvE [.int 40] [] rfl rfl (by omega) rfl (Nat.le_of_ble_eq_true rfl) (Nat.le_of_ble_eq_true rfl) (Or.inr (Or.inr rfl)) (ev_mr_isS (c := 40) (t := 32) ht3 (by decide)) ?_
                refine tv_b (pc' := (if (if pa_tk tx T p3 = 32 then 1 else 0) = 0 then 274 else 283)) (ls' := [some (.ref 80), some (.int (nI fs.length)), some (.int 0), some (.int 20)]) (st' := []) (h' := (n, sl, wKK kk, (mrI I t3 0 (-1) 0 (nI (ce0 + out.length)) (nI (fs.length + 1)) (nI (fs.length)) (nI (fsum fs + ops.length)) od (pa_wr c87 (800 * N + ce0) (out.map menc)) r88 r89 (upd r90 fs.length 0) r91 r92 r93), (mwL L w3), wQQ q)) 1 rfl ?_
                refine tv_b0 (fun c271 => ?_) (fun c271 => ?_)
                · refine tv_b (pc' := 280) (ls' := [some (.ref 80), some (.int (nI fs.length)), some (.int 0), some (.int 20)]) (st' := [.int (t3 4), .int 1, .ref 80]) (h' := (n, sl, wKK kk, (mrI I t3 0 (-1) 0 (nI (ce0 + out.length)) (nI (fs.length + 1)) (nI (fs.length)) (nI (fsum fs + ops.length)) od (pa_wr c87 (800 * N + ce0) (out.map menc)) r88 r89 (upd r90 fs.length 0) r91 r92 r93), (mwL L w3), wQQ q)) 4 rfl ?_
                  refine tv_top (ht3.1) ?_
                  refine tv_cvE [.int 1, .int (nI (pa_sk tx T p3))] [] rfl rfl (by omega) rfl (Nat.le_of_ble_eq_true rfl) (Nat.le_of_ble_eq_true rfl) (Or.inr (Or.inr rfl)) (ev_mr_blame0) ?_
                  refine tv_b (pc' := 285) (ls' := [some (.ref 80), some (.int (nI fs.length)), some (.int 0), some (.int 20)]) (st' := [.int 3, .ref 80]) (h' := (n, sl, wKK kk, (mrI I t3 1 (nI (pa_sk tx T p3)) 0 (nI (ce0 + out.length)) (nI (fs.length + 1)) (nI (fs.length)) (nI (fsum fs + ops.length)) od (pa_wr c87 (800 * N + ce0) (out.map menc)) r88 r89 (upd r90 fs.length 0) r91 r92 r93), (mwL L w3), wQQ q)) 2 rfl ?_
                  refine tv_cvE [.int 3] [] rfl rfl (by omega) rfl (Nat.le_of_ble_eq_true rfl) (Nat.le_of_ble_eq_true rfl) (Or.inr (Or.inr rfl)) (ev_mr_opens1) ?_
                  refine tv_b (pc' := 308) (ls' := [some (.ref 80), some (.int (nI fs.length)), some (.int 0), some (.int 20)]) (st' := [.int 0]) (h' := (n, sl, wKK kk, (mrI I t3 1 (nI (pa_sk tx T p3)) 0 (nI (ce0 + out.length)) (nI (fs.length + 1)) (nI (fs.length)) (nI (fsum fs + ops.length)) od (pa_wr c87 (800 * N + ce0) (out.map menc)) r88 r89 (upd r90 fs.length 0) r91 r92 r93), (mwL L w3), wQQ q)) 4 rfl ?_
                  refine tv_rz rfl (by first | exact Or.inl rfl | exact Or.inr rfl) ⟨_, _, _, rfl, rfl, ?_⟩
                  have e : pa_stP tx T p (kd, ph, bg, pr, ops) fs out = _ := stP_mm (Or.inr rfl) c240
                  rw [pa_nr_r hr3, if_neg c271] at e
                  rw [e]
                  exact ⟨by first | exact Or.inl rfl | exact Or.inr rfl, ⟨by decide, by decide, by first | omega | exact pa_sk8 (by omega) hT8⟩, ⟨_, _, _, _, _, _, _, _, _, _, _, _, _, _, rfl, fun j hj => by first | rfl | (simp only [upd_n (show j ≠ 800 * N + (ce0 + out.length) by omega), pa_wr_b (show j < 800 * N + ce0 by omega)]) | exact pa_wr_b (by omega)⟩⟩
                · refine tv_b (pc' := 285) (ls' := [some (.ref 80), some (.int (nI fs.length)), some (.int 0), some (.int 20)]) (st' := [.int 3, .ref 80]) (h' := (n, sl, wKK kk, (mrI I t3 0 (-1) 0 (nI (ce0 + out.length)) (nI (fs.length + 1)) (nI (fs.length)) (nI (fsum fs + ops.length)) od (pa_wr c87 (800 * N + ce0) (out.map menc)) r88 r89 (upd r90 fs.length 0) r91 r92 r93), (mwL L w3), wQQ q)) 2 rfl ?_
                  refine tv_cv [.int 3] [] rfl rfl (by omega) rfl (Nat.le_of_ble_eq_true rfl) (Nat.le_of_ble_eq_true rfl) (Or.inr (Or.inr rfl)) (tv_mr_opens hR (by omega) (by omega) (by omega) ht3) ?_
                  rintro rv9 h9 ⟨rfl, ⟨h8, rfl⟩ | ⟨h8, f4, tf4, w4, hr4, hf4, rfl⟩ | ⟨h8, p4, t4, w4, hr4, hq4, hp4, ht4, rfl⟩⟩
                  · refine tv_b (pc' := 308) (ls' := [some (.ref 80), some (.int (nI fs.length)), some (.int 0), some (.int 20)]) (st' := [.int 0]) (h' := (n, sl, wKK kk, (mrI I t3 5 (nI (pa_sk tx T p3)) 0 (nI (ce0 + out.length)) (nI (fs.length + 1)) (nI (fs.length)) (nI (fsum fs + ops.length)) od (pa_wr c87 (800 * N + ce0) (out.map menc)) r88 r89 (upd r90 fs.length 0) r91 r92 r93), (mwL L w3), wQQ q)) 4 rfl ?_
                    refine tv_rz rfl (by first | exact Or.inl rfl | exact Or.inr rfl) ⟨_, _, _, rfl, rfl, ?_⟩
                    have e : pa_stP tx T p (kd, ph, bg, pr, ops) fs out = _ := stP_mm (Or.inr rfl) c240
                    rw [pa_nr_r hr3, if_pos c271, if_pos h8] at e
                    rw [e]
                    exact ⟨by first | exact Or.inl rfl | exact Or.inr rfl, ⟨by decide, by decide, by first | omega | exact pa_sk8 (by omega) hT8⟩, ⟨_, _, _, _, _, _, _, _, _, _, _, _, _, _, rfl, fun j hj => by first | rfl | (simp only [upd_n (show j ≠ 800 * N + (ce0 + out.length) by omega), pa_wr_b (show j < 800 * N + ce0 by omega)]) | exact pa_wr_b (by omega)⟩⟩
                  · refine tv_b (pc' := 308) (ls' := [some (.ref 80), some (.int (nI fs.length)), some (.int 0), some (.int 20)]) (st' := [.int 0]) (h' := (n, sl, wKK kk, (mrI I tf4 1 (nI f4) 0 (nI (ce0 + out.length)) (nI ((fs.length + 1) + 1)) (nI ((fs.length) + 1)) (nI (fsum fs + ops.length)) od (pa_wr c87 (800 * N + ce0) (out.map menc)) (upd r88 (fs.length + 1) 3) (upd r89 (fs.length + 1) 0) (upd (upd r90 fs.length 0) (fs.length + 1) 1) r91 (upd r92 (fs.length + 1) (nI (fsum fs + ops.length))) r93), (mwL L w4), wQQ q)) 4 rfl ?_
                    refine tv_rz rfl (by first | exact Or.inl rfl | exact Or.inr rfl) ⟨_, _, _, rfl, rfl, ?_⟩
                    have e : pa_stP tx T p (kd, ph, bg, pr, ops) fs out = _ := stP_mm (Or.inr rfl) c240
                    rw [pa_nr_r hr3, if_pos c271, if_neg h8, pa_nr_l hr4] at e
                    rw [e]
                    exact ⟨by first | exact Or.inl rfl | exact Or.inr rfl, ⟨by decide, by decide, by first | omega | exact pa_sk8 (by omega) hT8⟩, ⟨_, _, _, _, _, _, _, _, _, _, _, _, _, _, rfl, fun j hj => by first | rfl | (simp only [upd_n (show j ≠ 800 * N + (ce0 + out.length) by omega), pa_wr_b (show j < 800 * N + ce0 by omega)]) | exact pa_wr_b (by omega)⟩⟩
                  · have hd4 := pa_tk_lt (b := tx) (n := T) p4
                    refine tv_b (pc' := 304) (ls' := [some (.ref 80), some (.int (nI fs.length)), some (.int 0), some (.int 20)]) (st' := [.int 1, .int (nI ((fs.length + 1) + 1)), .ref 91]) (h' := (n, sl, wKK kk, (mrI I t4 0 (-1) 0 (nI (ce0 + out.length)) (nI ((fs.length + 1) + 1)) (nI ((fs.length) + 1)) (nI (fsum fs + ops.length)) od (pa_wr c87 (800 * N + ce0) (out.map menc)) (upd r88 (fs.length + 1) 3) (upd r89 (fs.length + 1) 0) (upd (upd r90 fs.length 0) (fs.length + 1) 1) r91 (upd r92 (fs.length + 1) (nI (fsum fs + ops.length))) r93), (mwL L w4), wQQ q)) 8 rfl ?_
                    refine tv_b (pc' := 305) (ls' := [some (.ref 80), some (.int (nI fs.length)), some (.int 0), some (.int 20)]) (st' := [.int ((nI ((fs.length + 1) + 1)) - 1), .ref 91]) (h' := (n, sl, wKK kk, (mrI I t4 0 (-1) 0 (nI (ce0 + out.length)) (nI ((fs.length + 1) + 1)) (nI ((fs.length) + 1)) (nI (fsum fs + ops.length)) od (pa_wr c87 (800 * N + ce0) (out.map menc)) (upd r88 (fs.length + 1) 3) (upd r89 (fs.length + 1) 0) (upd (upd r90 fs.length 0) (fs.length + 1) 1) r91 (upd r92 (fs.length + 1) (nI (fsum fs + ops.length))) r93), (mwL L w4), wQQ q)) 1 rfl ?_
                    refine tv_top (show (nI ((fs.length + 1) + 1)) - 1 = nI (fs.length + 1) from nI_sub (a := ((fs.length + 1) + 1)) (b := 1) (by omega)) ?_
                    refine tv_b (pc' := 306) (ls' := [some (.ref 80), some (.int (nI fs.length)), some (.int 0), some (.int 20)]) (st' := [.int 20, .int (nI (fs.length + 1)), .ref 91]) (h' := (n, sl, wKK kk, (mrI I t4 0 (-1) 0 (nI (ce0 + out.length)) (nI ((fs.length + 1) + 1)) (nI ((fs.length) + 1)) (nI (fsum fs + ops.length)) od (pa_wr c87 (800 * N + ce0) (out.map menc)) (upd r88 (fs.length + 1) 3) (upd r89 (fs.length + 1) 0) (upd (upd r90 fs.length 0) (fs.length + 1) 1) r91 (upd r92 (fs.length + 1) (nI (fsum fs + ops.length))) r93), (mwL L w4), wQQ q)) 1 rfl ?_
                    refine tv_iasN (k := (fs.length + 1)) rfl (rfl) (⟨by omega, by omega⟩) ?_
                    refine tv_hI mrI_w_r91 ?_
                    refine tv_b (pc' := 308) (ls' := [some (.ref 80), some (.int (nI fs.length)), some (.int 0), some (.int 20)]) (st' := [.int 0]) (h' := (n, sl, wKK kk, (mrI I t4 0 (-1) 0 (nI (ce0 + out.length)) (nI ((fs.length + 1) + 1)) (nI ((fs.length) + 1)) (nI (fsum fs + ops.length)) od (pa_wr c87 (800 * N + ce0) (out.map menc)) (upd r88 (fs.length + 1) 3) (upd r89 (fs.length + 1) 0) (upd (upd r90 fs.length 0) (fs.length + 1) 1) (upd r91 (fs.length + 1) 20) (upd r92 (fs.length + 1) (nI (fsum fs + ops.length))) r93), (mwL L w4), wQQ q)) 1 rfl ?_
                    have e : pa_stP tx T p (kd, ph, bg, pr, ops) fs out = _ := stP_mm (Or.inr rfl) c240
                    rw [pa_nr_r hr3, if_pos c271, if_neg h8, pa_nr_r hr4] at e
                    have hg0 := pa_ed_gt (b := tx) (n := T) (p := p) (by omega)
                    have hg := pa_ed_gt (b := tx) (n := T) (p := p3) (by omega)
                    refine tv_rz rfl (by first | exact Or.inl rfl | exact Or.inr rfl) ⟨_, _, _, rfl, rfl, ?_⟩
                    rw [e]
                    refine ⟨rfl, rfl, ⟨_, _, _, _, _, _, _, rfl, ht4, frR_new3 (t := 20) (frR_bg hfr) (Or.inr rfl)⟩, ?_⟩
                    unfold mrJ; simp only [fsum, List.length_cons, List.length_append, List.length_nil, Bool.false_eq_true, if_false, if_true]; omega
          · refine tv_b (pc' := 247) (ls' := [some (.ref 80), some (.int (nI fs.length)), some (.int 0), none]) (st' := [.long 7170414, .ref 80]) (h' := (n, sl, wKK kk, (mrI I tk 0 (-1) 0 (nI (ce0 + out.length)) (nI (fs.length + 1)) (nI (fs.length)) (nI (fsum fs + ops.length)) od (pa_wr c87 (800 * N + ce0) (out.map menc)) r88 r89 (upd r90 fs.length 0) r91 r92 r93), (mwL L w), wQQ q)) 2 rfl ?_
            refine tv_cvE [.long 7170414] [] rfl rfl (by omega) rfl (Nat.le_of_ble_eq_true rfl) (Nat.le_of_ble_eq_true rfl) (Or.inr (Or.inr rfl)) (ev_mr_isW ht (by decide) mw_19) ?_
            refine tv_b (pc' := (if (if pa_tk tx T p = 19 then 1 else 0) = 0 then 258 else 253)) (ls' := [some (.ref 80), some (.int (nI fs.length)), some (.int 0), none]) (st' := []) (h' := (n, sl, wKK kk, (mrI I tk 0 (-1) 0 (nI (ce0 + out.length)) (nI (fs.length + 1)) (nI (fs.length)) (nI (fsum fs + ops.length)) od (pa_wr c87 (800 * N + ce0) (out.map menc)) r88 r89 (upd r90 fs.length 0) r91 r92 r93), (mwL L w), wQQ q)) 1 rfl ?_
            refine tv_b0t (c230) ?_
            refine tv_b (pc' := 262) (ls' := [some (.ref 80), some (.int (nI fs.length)), some (.int 0), some (.int 19)]) (st' := [.ref 80]) (h' := (n, sl, wKK kk, (mrI I tk 0 (-1) 0 (nI (ce0 + out.length)) (nI (fs.length + 1)) (nI (fs.length)) (nI (fsum fs + ops.length)) od (pa_wr c87 (800 * N + ce0) (out.map menc)) r88 r89 (upd r90 fs.length 0) r91 r92 r93), (mwL L w), wQQ q)) 4 rfl ?_
            refine tv_cv [] [] rfl rfl (by omega) rfl (Nat.le_of_ble_eq_true rfl) (Nat.le_of_ble_eq_true rfl) (Or.inr (Or.inr rfl)) (tv_mr_nx hR (by omega) ht) ?_
            rintro rv9 h9 ⟨rfl, ⟨f5, tf5, w5, hr5, hf5, rfl⟩ | ⟨p5, t5, w5, hr5, hq5, hp5, ht5, rfl⟩⟩
            · refine tv_b (pc' := 268) (ls' := [some (.ref 80), some (.int (nI fs.length)), some (.int 0), some (.int 19)]) (st' := [.int 40, .ref 80]) (h' := (n, sl, wKK kk, (mrI I tf5 1 (nI f5) 0 (nI (ce0 + out.length)) (nI (fs.length + 1)) (nI (fs.length)) (nI (fsum fs + ops.length)) od (pa_wr c87 (800 * N + ce0) (out.map menc)) r88 r89 (upd r90 fs.length 0) r91 r92 r93), (mwL L w5), wQQ q)) 2 rfl ?_
              refine tv_cvE [.int 40] [] rfl rfl (by omega) rfl (Nat.le_of_ble_eq_true rfl) (Nat.le_of_ble_eq_true rfl) (Or.inr (Or.inr rfl)) (ev_m_isSign) ?_
              refine tv_b (pc' := (if (sp_m_isSign 40 (mrI I tf5 1 (nI f5) 0 (nI (ce0 + out.length)) (nI (fs.length + 1)) (nI (fs.length)) (nI (fsum fs + ops.length)) od (pa_wr c87 (800 * N + ce0) (out.map menc)) r88 r89 (upd r90 fs.length 0) r91 r92 r93) (mwL L w5)) = 0 then 274 else 283)) (ls' := [some (.ref 80), some (.int (nI fs.length)), some (.int 0), some (.int 19)]) (st' := []) (h' := (n, sl, wKK kk, (mrI I tf5 1 (nI f5) 0 (nI (ce0 + out.length)) (nI (fs.length + 1)) (nI (fs.length)) (nI (fsum fs + ops.length)) od (pa_wr c87 (800 * N + ce0) (out.map menc)) r88 r89 (upd r90 fs.length 0) r91 r92 r93), (mwL L w5), wQQ q)) 1 rfl ?_
              refine tv_if (fun c271 => ?_) (fun c271 => ?_)
              · refine tv_b (pc' := 280) (ls' := [some (.ref 80), some (.int (nI fs.length)), some (.int 0), some (.int 19)]) (st' := [.int (tf5 4), .int 1, .ref 80]) (h' := (n, sl, wKK kk, (mrI I tf5 1 (nI f5) 0 (nI (ce0 + out.length)) (nI (fs.length + 1)) (nI (fs.length)) (nI (fsum fs + ops.length)) od (pa_wr c87 (800 * N + ce0) (out.map menc)) r88 r89 (upd r90 fs.length 0) r91 r92 r93), (mwL L w5), wQQ q)) 4 rfl ?_
                refine tv_cvE [.int 1, .int (tf5 4)] [] rfl rfl (by omega) rfl (Nat.le_of_ble_eq_true rfl) (Nat.le_of_ble_eq_true rfl) (Or.inr (Or.inr rfl)) (ev_mr_blameF (by decide)) ?_
                refine tv_b (pc' := 285) (ls' := [some (.ref 80), some (.int (nI fs.length)), some (.int 0), some (.int 19)]) (st' := [.int 3, .ref 80]) (h' := (n, sl, wKK kk, (mrI I tf5 1 (nI f5) 0 (nI (ce0 + out.length)) (nI (fs.length + 1)) (nI (fs.length)) (nI (fsum fs + ops.length)) od (pa_wr c87 (800 * N + ce0) (out.map menc)) r88 r89 (upd r90 fs.length 0) r91 r92 r93), (mwL L w5), wQQ q)) 2 rfl ?_
                refine tv_cvE [.int 3] [] rfl rfl (by omega) rfl (Nat.le_of_ble_eq_true rfl) (Nat.le_of_ble_eq_true rfl) (Or.inr (Or.inr rfl)) (ev_mr_opens1) ?_
                refine tv_b (pc' := 308) (ls' := [some (.ref 80), some (.int (nI fs.length)), some (.int 0), some (.int 19)]) (st' := [.int 0]) (h' := (n, sl, wKK kk, (mrI I tf5 1 (nI f5) 0 (nI (ce0 + out.length)) (nI (fs.length + 1)) (nI (fs.length)) (nI (fsum fs + ops.length)) od (pa_wr c87 (800 * N + ce0) (out.map menc)) r88 r89 (upd r90 fs.length 0) r91 r92 r93), (mwL L w5), wQQ q)) 4 rfl ?_
                refine tv_rz rfl (by first | exact Or.inl rfl | exact Or.inr rfl) ⟨_, _, _, rfl, rfl, ?_⟩
                have e : pa_stP tx T p (kd, ph, bg, pr, ops) fs out = _ := stP_mm (Or.inl rfl) c230
                rw [pa_nr_l hr5] at e
                rw [e]
                exact ⟨by first | exact Or.inl rfl | exact Or.inr rfl, ⟨by decide, by decide, by first | omega | exact pa_sk8 (by omega) hT8⟩, ⟨_, _, _, _, _, _, _, _, _, _, _, _, _, _, rfl, fun j hj => by first | rfl | (simp only [upd_n (show j ≠ 800 * N + (ce0 + out.length) by omega), pa_wr_b (show j < 800 * N + ce0 by omega)]) | exact pa_wr_b (by omega)⟩⟩
              · refine tv_b (pc' := 285) (ls' := [some (.ref 80), some (.int (nI fs.length)), some (.int 0), some (.int 19)]) (st' := [.int 3, .ref 80]) (h' := (n, sl, wKK kk, (mrI I tf5 1 (nI f5) 0 (nI (ce0 + out.length)) (nI (fs.length + 1)) (nI (fs.length)) (nI (fsum fs + ops.length)) od (pa_wr c87 (800 * N + ce0) (out.map menc)) r88 r89 (upd r90 fs.length 0) r91 r92 r93), (mwL L w5), wQQ q)) 2 rfl ?_
                refine tv_cvE [.int 3] [] rfl rfl (by omega) rfl (Nat.le_of_ble_eq_true rfl) (Nat.le_of_ble_eq_true rfl) (Or.inr (Or.inr rfl)) (ev_mr_opens1) ?_
                refine tv_b (pc' := 308) (ls' := [some (.ref 80), some (.int (nI fs.length)), some (.int 0), some (.int 19)]) (st' := [.int 0]) (h' := (n, sl, wKK kk, (mrI I tf5 1 (nI f5) 0 (nI (ce0 + out.length)) (nI (fs.length + 1)) (nI (fs.length)) (nI (fsum fs + ops.length)) od (pa_wr c87 (800 * N + ce0) (out.map menc)) r88 r89 (upd r90 fs.length 0) r91 r92 r93), (mwL L w5), wQQ q)) 4 rfl ?_
                refine tv_rz rfl (by first | exact Or.inl rfl | exact Or.inr rfl) ⟨_, _, _, rfl, rfl, ?_⟩
                have e : pa_stP tx T p (kd, ph, bg, pr, ops) fs out = _ := stP_mm (Or.inl rfl) c230
                rw [pa_nr_l hr5] at e
                rw [e]
                exact ⟨by first | exact Or.inl rfl | exact Or.inr rfl, ⟨by decide, by decide, by first | omega | exact pa_sk8 (by omega) hT8⟩, ⟨_, _, _, _, _, _, _, _, _, _, _, _, _, _, rfl, fun j hj => by first | rfl | (simp only [upd_n (show j ≠ 800 * N + (ce0 + out.length) by omega), pa_wr_b (show j < 800 * N + ce0 by omega)]) | exact pa_wr_b (by omega)⟩⟩
            · have hd5 := pa_tk_lt (b := tx) (n := T) p5
              have hx5 := (pa_ed_le (b := tx) (n := T) (p := p) (by omega)).2
              refine tv_b (pc' := 268) (ls' := [some (.ref 80), some (.int (nI fs.length)), some (.int 0), some (.int 19)]) (st' := [.int 40, .ref 80]) (h' := (n, sl, wKK kk, (mrI I t5 0 (-1) 0 (nI (ce0 + out.length)) (nI (fs.length + 1)) (nI (fs.length)) (nI (fsum fs + ops.length)) od (pa_wr c87 (800 * N + ce0) (out.map menc)) r88 r89 (upd r90 fs.length 0) r91 r92 r93), (mwL L w5), wQQ q)) 2 rfl ?_
              refine tv_cvE [.int 40] [] rfl rfl (by omega) rfl (Nat.le_of_ble_eq_true rfl) (Nat.le_of_ble_eq_true rfl) (Or.inr (Or.inr rfl)) (ev_mr_isS (c := 40) (t := 32) ht5 (by decide)) ?_
              refine tv_b (pc' := (if (if pa_tk tx T p5 = 32 then 1 else 0) = 0 then 274 else 283)) (ls' := [some (.ref 80), some (.int (nI fs.length)), some (.int 0), some (.int 19)]) (st' := []) (h' := (n, sl, wKK kk, (mrI I t5 0 (-1) 0 (nI (ce0 + out.length)) (nI (fs.length + 1)) (nI (fs.length)) (nI (fsum fs + ops.length)) od (pa_wr c87 (800 * N + ce0) (out.map menc)) r88 r89 (upd r90 fs.length 0) r91 r92 r93), (mwL L w5), wQQ q)) 1 rfl ?_
              refine tv_b0 (fun c271 => ?_) (fun c271 => ?_)
              · refine tv_b (pc' := 280) (ls' := [some (.ref 80), some (.int (nI fs.length)), some (.int 0), some (.int 19)]) (st' := [.int (t5 4), .int 1, .ref 80]) (h' := (n, sl, wKK kk, (mrI I t5 0 (-1) 0 (nI (ce0 + out.length)) (nI (fs.length + 1)) (nI (fs.length)) (nI (fsum fs + ops.length)) od (pa_wr c87 (800 * N + ce0) (out.map menc)) r88 r89 (upd r90 fs.length 0) r91 r92 r93), (mwL L w5), wQQ q)) 4 rfl ?_
                refine tv_top (ht5.1) ?_
                refine tv_cvE [.int 1, .int (nI (pa_sk tx T p5))] [] rfl rfl (by omega) rfl (Nat.le_of_ble_eq_true rfl) (Nat.le_of_ble_eq_true rfl) (Or.inr (Or.inr rfl)) (ev_mr_blame0) ?_
                refine tv_b (pc' := 285) (ls' := [some (.ref 80), some (.int (nI fs.length)), some (.int 0), some (.int 19)]) (st' := [.int 3, .ref 80]) (h' := (n, sl, wKK kk, (mrI I t5 1 (nI (pa_sk tx T p5)) 0 (nI (ce0 + out.length)) (nI (fs.length + 1)) (nI (fs.length)) (nI (fsum fs + ops.length)) od (pa_wr c87 (800 * N + ce0) (out.map menc)) r88 r89 (upd r90 fs.length 0) r91 r92 r93), (mwL L w5), wQQ q)) 2 rfl ?_
                refine tv_cvE [.int 3] [] rfl rfl (by omega) rfl (Nat.le_of_ble_eq_true rfl) (Nat.le_of_ble_eq_true rfl) (Or.inr (Or.inr rfl)) (ev_mr_opens1) ?_
                refine tv_b (pc' := 308) (ls' := [some (.ref 80), some (.int (nI fs.length)), some (.int 0), some (.int 19)]) (st' := [.int 0]) (h' := (n, sl, wKK kk, (mrI I t5 1 (nI (pa_sk tx T p5)) 0 (nI (ce0 + out.length)) (nI (fs.length + 1)) (nI (fs.length)) (nI (fsum fs + ops.length)) od (pa_wr c87 (800 * N + ce0) (out.map menc)) r88 r89 (upd r90 fs.length 0) r91 r92 r93), (mwL L w5), wQQ q)) 4 rfl ?_
                refine tv_rz rfl (by first | exact Or.inl rfl | exact Or.inr rfl) ⟨_, _, _, rfl, rfl, ?_⟩
                have e : pa_stP tx T p (kd, ph, bg, pr, ops) fs out = _ := stP_mm (Or.inl rfl) c230
                rw [pa_nr_r hr5, if_neg c271] at e
                rw [e]
                exact ⟨by first | exact Or.inl rfl | exact Or.inr rfl, ⟨by decide, by decide, by first | omega | exact pa_sk8 (by omega) hT8⟩, ⟨_, _, _, _, _, _, _, _, _, _, _, _, _, _, rfl, fun j hj => by first | rfl | (simp only [upd_n (show j ≠ 800 * N + (ce0 + out.length) by omega), pa_wr_b (show j < 800 * N + ce0 by omega)]) | exact pa_wr_b (by omega)⟩⟩
              · refine tv_b (pc' := 285) (ls' := [some (.ref 80), some (.int (nI fs.length)), some (.int 0), some (.int 19)]) (st' := [.int 3, .ref 80]) (h' := (n, sl, wKK kk, (mrI I t5 0 (-1) 0 (nI (ce0 + out.length)) (nI (fs.length + 1)) (nI (fs.length)) (nI (fsum fs + ops.length)) od (pa_wr c87 (800 * N + ce0) (out.map menc)) r88 r89 (upd r90 fs.length 0) r91 r92 r93), (mwL L w5), wQQ q)) 2 rfl ?_
                refine tv_cv [.int 3] [] rfl rfl (by omega) rfl (Nat.le_of_ble_eq_true rfl) (Nat.le_of_ble_eq_true rfl) (Or.inr (Or.inr rfl)) (tv_mr_opens hR (by omega) (by omega) (by omega) ht5) ?_
                rintro rv9 h9 ⟨rfl, ⟨h8, rfl⟩ | ⟨h8, f6, tf6, w6, hr6, hf6, rfl⟩ | ⟨h8, p6, t6, w6, hr6, hq6, hp6, ht6, rfl⟩⟩
                · refine tv_b (pc' := 308) (ls' := [some (.ref 80), some (.int (nI fs.length)), some (.int 0), some (.int 19)]) (st' := [.int 0]) (h' := (n, sl, wKK kk, (mrI I t5 5 (nI (pa_sk tx T p5)) 0 (nI (ce0 + out.length)) (nI (fs.length + 1)) (nI (fs.length)) (nI (fsum fs + ops.length)) od (pa_wr c87 (800 * N + ce0) (out.map menc)) r88 r89 (upd r90 fs.length 0) r91 r92 r93), (mwL L w5), wQQ q)) 4 rfl ?_
                  refine tv_rz rfl (by first | exact Or.inl rfl | exact Or.inr rfl) ⟨_, _, _, rfl, rfl, ?_⟩
                  have e : pa_stP tx T p (kd, ph, bg, pr, ops) fs out = _ := stP_mm (Or.inl rfl) c230
                  rw [pa_nr_r hr5, if_pos c271, if_pos h8] at e
                  rw [e]
                  exact ⟨by first | exact Or.inl rfl | exact Or.inr rfl, ⟨by decide, by decide, by first | omega | exact pa_sk8 (by omega) hT8⟩, ⟨_, _, _, _, _, _, _, _, _, _, _, _, _, _, rfl, fun j hj => by first | rfl | (simp only [upd_n (show j ≠ 800 * N + (ce0 + out.length) by omega), pa_wr_b (show j < 800 * N + ce0 by omega)]) | exact pa_wr_b (by omega)⟩⟩
                · refine tv_b (pc' := 308) (ls' := [some (.ref 80), some (.int (nI fs.length)), some (.int 0), some (.int 19)]) (st' := [.int 0]) (h' := (n, sl, wKK kk, (mrI I tf6 1 (nI f6) 0 (nI (ce0 + out.length)) (nI ((fs.length + 1) + 1)) (nI ((fs.length) + 1)) (nI (fsum fs + ops.length)) od (pa_wr c87 (800 * N + ce0) (out.map menc)) (upd r88 (fs.length + 1) 3) (upd r89 (fs.length + 1) 0) (upd (upd r90 fs.length 0) (fs.length + 1) 1) r91 (upd r92 (fs.length + 1) (nI (fsum fs + ops.length))) r93), (mwL L w6), wQQ q)) 4 rfl ?_
                  refine tv_rz rfl (by first | exact Or.inl rfl | exact Or.inr rfl) ⟨_, _, _, rfl, rfl, ?_⟩
                  have e : pa_stP tx T p (kd, ph, bg, pr, ops) fs out = _ := stP_mm (Or.inl rfl) c230
                  rw [pa_nr_r hr5, if_pos c271, if_neg h8, pa_nr_l hr6] at e
                  rw [e]
                  exact ⟨by first | exact Or.inl rfl | exact Or.inr rfl, ⟨by decide, by decide, by first | omega | exact pa_sk8 (by omega) hT8⟩, ⟨_, _, _, _, _, _, _, _, _, _, _, _, _, _, rfl, fun j hj => by first | rfl | (simp only [upd_n (show j ≠ 800 * N + (ce0 + out.length) by omega), pa_wr_b (show j < 800 * N + ce0 by omega)]) | exact pa_wr_b (by omega)⟩⟩
                · have hd6 := pa_tk_lt (b := tx) (n := T) p6
                  refine tv_b (pc' := 304) (ls' := [some (.ref 80), some (.int (nI fs.length)), some (.int 0), some (.int 19)]) (st' := [.int 1, .int (nI ((fs.length + 1) + 1)), .ref 91]) (h' := (n, sl, wKK kk, (mrI I t6 0 (-1) 0 (nI (ce0 + out.length)) (nI ((fs.length + 1) + 1)) (nI ((fs.length) + 1)) (nI (fsum fs + ops.length)) od (pa_wr c87 (800 * N + ce0) (out.map menc)) (upd r88 (fs.length + 1) 3) (upd r89 (fs.length + 1) 0) (upd (upd r90 fs.length 0) (fs.length + 1) 1) r91 (upd r92 (fs.length + 1) (nI (fsum fs + ops.length))) r93), (mwL L w6), wQQ q)) 8 rfl ?_
                  refine tv_b (pc' := 305) (ls' := [some (.ref 80), some (.int (nI fs.length)), some (.int 0), some (.int 19)]) (st' := [.int ((nI ((fs.length + 1) + 1)) - 1), .ref 91]) (h' := (n, sl, wKK kk, (mrI I t6 0 (-1) 0 (nI (ce0 + out.length)) (nI ((fs.length + 1) + 1)) (nI ((fs.length) + 1)) (nI (fsum fs + ops.length)) od (pa_wr c87 (800 * N + ce0) (out.map menc)) (upd r88 (fs.length + 1) 3) (upd r89 (fs.length + 1) 0) (upd (upd r90 fs.length 0) (fs.length + 1) 1) r91 (upd r92 (fs.length + 1) (nI (fsum fs + ops.length))) r93), (mwL L w6), wQQ q)) 1 rfl ?_
                  refine tv_top (show (nI ((fs.length + 1) + 1)) - 1 = nI (fs.length + 1) from nI_sub (a := ((fs.length + 1) + 1)) (b := 1) (by omega)) ?_
                  refine tv_b (pc' := 306) (ls' := [some (.ref 80), some (.int (nI fs.length)), some (.int 0), some (.int 19)]) (st' := [.int 19, .int (nI (fs.length + 1)), .ref 91]) (h' := (n, sl, wKK kk, (mrI I t6 0 (-1) 0 (nI (ce0 + out.length)) (nI ((fs.length + 1) + 1)) (nI ((fs.length) + 1)) (nI (fsum fs + ops.length)) od (pa_wr c87 (800 * N + ce0) (out.map menc)) (upd r88 (fs.length + 1) 3) (upd r89 (fs.length + 1) 0) (upd (upd r90 fs.length 0) (fs.length + 1) 1) r91 (upd r92 (fs.length + 1) (nI (fsum fs + ops.length))) r93), (mwL L w6), wQQ q)) 1 rfl ?_
                  refine tv_iasN (k := (fs.length + 1)) rfl (rfl) (⟨by omega, by omega⟩) ?_
                  refine tv_hI mrI_w_r91 ?_
                  refine tv_b (pc' := 308) (ls' := [some (.ref 80), some (.int (nI fs.length)), some (.int 0), some (.int 19)]) (st' := [.int 0]) (h' := (n, sl, wKK kk, (mrI I t6 0 (-1) 0 (nI (ce0 + out.length)) (nI ((fs.length + 1) + 1)) (nI ((fs.length) + 1)) (nI (fsum fs + ops.length)) od (pa_wr c87 (800 * N + ce0) (out.map menc)) (upd r88 (fs.length + 1) 3) (upd r89 (fs.length + 1) 0) (upd (upd r90 fs.length 0) (fs.length + 1) 1) (upd r91 (fs.length + 1) 19) (upd r92 (fs.length + 1) (nI (fsum fs + ops.length))) r93), (mwL L w6), wQQ q)) 1 rfl ?_
                  have e : pa_stP tx T p (kd, ph, bg, pr, ops) fs out = _ := stP_mm (Or.inl rfl) c230
                  rw [pa_nr_r hr5, if_pos c271, if_neg h8, pa_nr_r hr6] at e
                  have hg0 := pa_ed_gt (b := tx) (n := T) (p := p) (by omega)
                  have hg := pa_ed_gt (b := tx) (n := T) (p := p5) (by omega)
                  refine tv_rz rfl (by first | exact Or.inl rfl | exact Or.inr rfl) ⟨_, _, _, rfl, rfl, ?_⟩
                  rw [e]
                  refine ⟨rfl, rfl, ⟨_, _, _, _, _, _, _, rfl, ht6, frR_new3 (t := 19) (frR_bg hfr) (Or.inl rfl)⟩, ?_⟩
                  unfold mrJ; simp only [fsum, List.length_cons, List.length_append, List.length_nil, Bool.false_eq_true, if_false, if_true]; omega
        · refine tv_b (pc' := 218) (ls' := [some (.ref 80), some (.int (nI fs.length)), some (.int 0), none]) (st' := [.int 2, .ref 80]) (h' := (n, sl, wKK kk, (mrI I tk 0 (-1) 0 (nI (ce0 + out.length)) (nI (fs.length + 1)) (nI (fs.length)) (nI (fsum fs + ops.length)) od (pa_wr c87 (800 * N + ce0) (out.map menc)) r88 r89 (upd r90 fs.length 0) r91 r92 r93), (mwL L w), wQQ q)) 2 rfl ?_
          refine tv_cv [.int 2] [] rfl rfl (by omega) rfl (Nat.le_of_ble_eq_true rfl) (Nat.le_of_ble_eq_true rfl) (Or.inr (Or.inr rfl)) (tv_mr_opens hR (by omega) (by omega) (by omega) ht) ?_
          rintro rv9 h9 ⟨rfl, ⟨h8, rfl⟩ | ⟨h8, f7, tf7, w7, hr7, hf7, rfl⟩ | ⟨h8, p7, t7, w7, hr7, hq7, hp7, ht7, rfl⟩⟩
          · refine tv_b (pc' := 222) (ls' := [some (.ref 80), some (.int (nI fs.length)), some (.int 0), none]) (st' := [.int 0]) (h' := (n, sl, wKK kk, (mrI I tk 5 (nI (pa_sk tx T p)) 0 (nI (ce0 + out.length)) (nI (fs.length + 1)) (nI (fs.length)) (nI (fsum fs + ops.length)) od (pa_wr c87 (800 * N + ce0) (out.map menc)) r88 r89 (upd r90 fs.length 0) r91 r92 r93), (mwL L w), wQQ q)) 1 rfl ?_
            refine tv_rz rfl (by first | exact Or.inl rfl | exact Or.inr rfl) ⟨_, _, _, rfl, rfl, ?_⟩
            have e : pa_stP tx T p (kd, ph, bg, pr, ops) fs out = _ := stP_op c213
            rw [if_pos h8] at e
            rw [e]
            exact ⟨by first | exact Or.inl rfl | exact Or.inr rfl, ⟨by decide, by decide, by first | omega | exact pa_sk8 (by omega) hT8⟩, ⟨_, _, _, _, _, _, _, _, _, _, _, _, _, _, rfl, fun j hj => by first | rfl | (simp only [upd_n (show j ≠ 800 * N + (ce0 + out.length) by omega), pa_wr_b (show j < 800 * N + ce0 by omega)]) | exact pa_wr_b (by omega)⟩⟩
          · refine tv_b (pc' := 222) (ls' := [some (.ref 80), some (.int (nI fs.length)), some (.int 0), none]) (st' := [.int 0]) (h' := (n, sl, wKK kk, (mrI I tf7 1 (nI f7) 0 (nI (ce0 + out.length)) (nI ((fs.length + 1) + 1)) (nI ((fs.length) + 1)) (nI (fsum fs + ops.length)) od (pa_wr c87 (800 * N + ce0) (out.map menc)) (upd r88 (fs.length + 1) 2) (upd r89 (fs.length + 1) 0) (upd (upd r90 fs.length 0) (fs.length + 1) 1) r91 (upd r92 (fs.length + 1) (nI (fsum fs + ops.length))) r93), (mwL L w7), wQQ q)) 1 rfl ?_
            refine tv_rz rfl (by first | exact Or.inl rfl | exact Or.inr rfl) ⟨_, _, _, rfl, rfl, ?_⟩
            have e : pa_stP tx T p (kd, ph, bg, pr, ops) fs out = _ := stP_op c213
            rw [if_neg h8, pa_nr_l hr7] at e
            rw [e]
            exact ⟨by first | exact Or.inl rfl | exact Or.inr rfl, ⟨by decide, by decide, by first | omega | exact pa_sk8 (by omega) hT8⟩, ⟨_, _, _, _, _, _, _, _, _, _, _, _, _, _, rfl, fun j hj => by first | rfl | (simp only [upd_n (show j ≠ 800 * N + (ce0 + out.length) by omega), pa_wr_b (show j < 800 * N + ce0 by omega)]) | exact pa_wr_b (by omega)⟩⟩
          · have hd7 := pa_tk_lt (b := tx) (n := T) p7
            refine tv_b (pc' := 222) (ls' := [some (.ref 80), some (.int (nI fs.length)), some (.int 0), none]) (st' := [.int 0]) (h' := (n, sl, wKK kk, (mrI I t7 0 (-1) 0 (nI (ce0 + out.length)) (nI ((fs.length + 1) + 1)) (nI ((fs.length) + 1)) (nI (fsum fs + ops.length)) od (pa_wr c87 (800 * N + ce0) (out.map menc)) (upd r88 (fs.length + 1) 2) (upd r89 (fs.length + 1) 0) (upd (upd r90 fs.length 0) (fs.length + 1) 1) r91 (upd r92 (fs.length + 1) (nI (fsum fs + ops.length))) r93), (mwL L w7), wQQ q)) 1 rfl ?_
            have e : pa_stP tx T p (kd, ph, bg, pr, ops) fs out = _ := stP_op c213
            rw [if_neg h8, pa_nr_r hr7] at e
            have hg := pa_ed_gt (b := tx) (n := T) (p := p) (by omega)
            refine tv_rz rfl (by first | exact Or.inl rfl | exact Or.inr rfl) ⟨_, _, _, rfl, rfl, ?_⟩
            rw [e]
            refine ⟨rfl, rfl, ⟨_, _, _, _, _, _, _, rfl, ht7, frR_new (k := 2) (frR_bg hfr) (by decide) (by decide)⟩, ?_⟩
            unfold mrJ; simp only [fsum, List.length_cons, List.length_append, List.length_nil, Bool.false_eq_true, if_false, if_true]; omega
      · refine tv_b (pc' := 132) (ls' := [some (.ref 80), some (.int (nI fs.length)), some (.int 0), none]) (st' := [.ref 80]) (h' := (n, sl, wKK kk, (mrI I tk 0 (-1) 0 (nI (ce0 + out.length)) (nI (fs.length + 1)) (nI (fs.length)) (nI (fsum fs + ops.length)) od (pa_wr c87 (800 * N + ce0) (out.map menc)) r88 r89 (upd r90 fs.length 0) r91 r92 r93), (mwL L w), wQQ q)) 1 rfl ?_
        refine tv_cv [] [] rfl rfl (by omega) rfl (Nat.le_of_ble_eq_true rfl) (Nat.le_of_ble_eq_true rfl) (Or.inr (Or.inr rfl)) (tv_mr_nx hR (by omega) ht) ?_
        rintro rv9 h9 ⟨rfl, ⟨f8, tf8, w8, hr8, hf8, rfl⟩ | ⟨p8, t8, w8, hr8, hq8, hp8, ht8, rfl⟩⟩
        · refine tv_b (pc' := (if (tf8 3) = 2 then 152 else 143)) (ls' := [some (.ref 80), some (.int (nI fs.length)), some (.int 0), none]) (st' := []) (h' := (n, sl, wKK kk, (mrI I tf8 1 (nI f8) 0 (nI (ce0 + out.length)) (nI (fs.length + 1)) (nI (fs.length)) (nI (fsum fs + ops.length)) od (pa_wr c87 (800 * N + ce0) (out.map menc)) r88 r89 (upd r90 fs.length 0) r91 r92 r93), (mwL L w8), wQQ q)) 4 rfl ?_
          refine tv_if (fun c140 => ?_) (fun c140 => ?_)
          · refine tv_b (pc' := 206) (ls' := [some (.ref 80), some (.int (nI fs.length)), some (.int 0), none]) (st' := [.int 1]) (h' := (n, sl, wKK kk, (mrI I tf8 1 (nI f8) 0 (nI (ce0 + out.length)) (nI (fs.length + 1)) (nI (fs.length)) (nI (fsum fs + ops.length)) od (pa_wr c87 (800 * N + ce0) (out.map menc)) r88 r89 (upd r90 fs.length 0) r91 r92 r93), (mwL L w8), wQQ q)) 10 rfl ?_
            refine tv_rz rfl (by first | exact Or.inl rfl | exact Or.inr rfl) ⟨_, _, _, rfl, rfl, ?_⟩
            have e : pa_stP tx T p (kd, ph, bg, pr, ops) fs out = _ := stP_ld c128
            rw [pa_nr_l hr8] at e
            rw [e]
            exact ⟨by first | exact Or.inl rfl | exact Or.inr rfl, ⟨by decide, by decide, by first | omega | exact pa_sk8 (by omega) hT8⟩, ⟨_, _, _, _, _, _, _, _, _, _, _, _, _, _, rfl, fun j hj => by first | rfl | (simp only [upd_n (show j ≠ 800 * N + (ce0 + out.length) by omega), pa_wr_b (show j < 800 * N + ce0 by omega)]) | exact pa_wr_b (by omega)⟩⟩
          · refine tv_b (pc' := 149) (ls' := [some (.ref 80), some (.int (nI fs.length)), some (.int 0), none]) (st' := [.int (tf8 4), .int 1, .ref 80]) (h' := (n, sl, wKK kk, (mrI I tf8 1 (nI f8) 0 (nI (ce0 + out.length)) (nI (fs.length + 1)) (nI (fs.length)) (nI (fsum fs + ops.length)) od (pa_wr c87 (800 * N + ce0) (out.map menc)) r88 r89 (upd r90 fs.length 0) r91 r92 r93), (mwL L w8), wQQ q)) 4 rfl ?_
            refine tv_cvE [.int 1, .int (tf8 4)] [] rfl rfl (by omega) rfl (Nat.le_of_ble_eq_true rfl) (Nat.le_of_ble_eq_true rfl) (Or.inr (Or.inr rfl)) (ev_mr_blameF (by decide)) ?_
            refine tv_b (pc' := 206) (ls' := [some (.ref 80), some (.int (nI fs.length)), some (.int 0), none]) (st' := [.int 1]) (h' := (n, sl, wKK kk, (mrI I tf8 1 (nI f8) 0 (nI (ce0 + out.length)) (nI (fs.length + 1)) (nI (fs.length)) (nI (fsum fs + ops.length)) od (pa_wr c87 (800 * N + ce0) (out.map menc)) r88 r89 (upd r90 fs.length 0) r91 r92 r93), (mwL L w8), wQQ q)) 10 rfl ?_
            refine tv_rz rfl (by first | exact Or.inl rfl | exact Or.inr rfl) ⟨_, _, _, rfl, rfl, ?_⟩
            have e : pa_stP tx T p (kd, ph, bg, pr, ops) fs out = _ := stP_ld c128
            rw [pa_nr_l hr8] at e
            rw [e]
            exact ⟨by first | exact Or.inl rfl | exact Or.inr rfl, ⟨by decide, by decide, by first | omega | exact pa_sk8 (by omega) hT8⟩, ⟨_, _, _, _, _, _, _, _, _, _, _, _, _, _, rfl, fun j hj => by first | rfl | (simp only [upd_n (show j ≠ 800 * N + (ce0 + out.length) by omega), pa_wr_b (show j < 800 * N + ce0 by omega)]) | exact pa_wr_b (by omega)⟩⟩
        · have hd8 := pa_tk_lt (b := tx) (n := T) p8
          have hx8 := (pa_ed_le (b := tx) (n := T) (p := p) (by omega)).2
          refine tv_b (pc' := (if (t8 3) = 2 then 152 else 143)) (ls' := [some (.ref 80), some (.int (nI fs.length)), some (.int 0), none]) (st' := []) (h' := (n, sl, wKK kk, (mrI I t8 0 (-1) 0 (nI (ce0 + out.length)) (nI (fs.length + 1)) (nI (fs.length)) (nI (fsum fs + ops.length)) od (pa_wr c87 (800 * N + ce0) (out.map menc)) r88 r89 (upd r90 fs.length 0) r91 r92 r93), (mwL L w8), wQQ q)) 4 rfl ?_
          refine tv_if (fun c140 => ?_) (fun c140 => ?_)
          · refine tv_b (pc' := 159) (ls' := [some (.ref 80), some (.int (nI fs.length)), some (.int 0), none]) (st' := []) (h' := (n, sl, wKK kk, (mrI I t8 0 (-1) 0 (nI (ce0 + out.length)) (nI (fs.length + 1)) (nI (fs.length)) (nI (fsum fs + ops.length)) od (pa_wr c87 (800 * N + ce0) (out.map menc)) r88 r89 (upd r90 fs.length 0) r91 r92 r93), (mwL L w8), wQQ q)) 3 rfl ?_
            have h21 := (mr_num ht8).mp c140
            have hnl := pa_nm_lt (pa_nx_lf hr8) h21
            have hgL := pa_ed_gt (b := tx) (n := T) (p := p) (by omega)
            refine tv_b (pc' := 163) (ls' := [some (.ref 80), some (.int (nI fs.length)), some (.int 0), none]) (st' := [.int (t8 6)]) (h' := (n, sl, wKK kk, (mrI I t8 0 (-1) 0 (nI (ce0 + out.length)) (nI (fs.length + 1)) (nI (fs.length)) (nI (fsum fs + ops.length)) od (pa_wr c87 (800 * N + ce0) (out.map menc)) r88 r89 (upd r90 fs.length 0) r91 r92 r93), (mwL L w8), wQQ q)) 2 rfl ?_
            refine tv_top (mr_numv ht8 h21) ?_
            refine tv_b (pc' := (if (nI (pa_nm tx T p8)) ≤ 15 then 177 else 168)) (ls' := [some (.ref 80), some (.int (nI fs.length)), some (.int 0), none]) (st' := []) (h' := (n, sl, wKK kk, (mrI I t8 0 (-1) 0 (nI (ce0 + out.length)) (nI (fs.length + 1)) (nI (fs.length)) (nI (fsum fs + ops.length)) od (pa_wr c87 (800 * N + ce0) (out.map menc)) r88 r89 (upd r90 fs.length 0) r91 r92 r93), (mwL L w8), wQQ q)) 2 rfl ?_
            refine tv_ifq (nI_leI (a := (pa_nm tx T p8)) (b := 15) (by omega) (by omega)) (fun c165 => ?_) (fun c165 => ?_)
            · refine tv_b (pc' := 191) (ls' := [some (.ref 80), some (.int (nI fs.length)), some (.int 0), none]) (st' := [.int (t8 6), .int 8, .ref 80]) (h' := (n, sl, wKK kk, (mrI I t8 0 (-1) 0 (nI (ce0 + out.length)) (nI (fs.length + 1)) (nI (fs.length)) (nI (fsum fs + ops.length)) od (pa_wr c87 (800 * N + ce0) (out.map menc)) r88 r89 (upd r90 fs.length 0) r91 r92 r93), (mwL L w8), wQQ q)) 7 rfl ?_
              refine tv_top (mr_numv ht8 h21) ?_
              have hgA := pa_ed_gt (b := tx) (n := T) (p := p8) (by omega)
              refine tv_cvE [.int 8, .int (nI (pa_nm tx T p8))] [] rfl rfl (by omega) rfl (Nat.le_of_ble_eq_true rfl) (Nat.le_of_ble_eq_true rfl) (Or.inr (Or.inr rfl)) (ev_mr_add (x := 8) (v := (pa_nm tx T p8)) hN (by omega) (by omega) (by omega)) ?_
              refine tv_b (pc' := 202) (ls' := [some (.ref 80), some (.int (nI fs.length)), some (.int 0), none]) (st' := [.ref 80]) (h' := (n, sl, wKK kk, (mrI I t8 0 (-1) 0 (nI ((ce0 + out.length) + 1)) (nI (fs.length + 1)) (nI (fs.length)) (nI (fsum fs + ops.length)) od (upd (pa_wr c87 (800 * N + ce0) (out.map menc)) (800 * N + (ce0 + out.length)) (nI (8 * 16777216 + (pa_nm tx T p8)))) r88 r89 (upd r90 fs.length 0) r91 r92 r93), (mwL L w8), wQQ q)) 4 rfl ?_
              refine tv_cv [] [] rfl rfl (by omega) rfl (Nat.le_of_ble_eq_true rfl) (Nat.le_of_ble_eq_true rfl) (Or.inr (Or.inr rfl)) (tv_mr_nx hR (by omega) ht8) ?_
              rintro rv9 h9 ⟨rfl, ⟨f9, tf9, w9, hr9, hf9, rfl⟩ | ⟨p9, t9, w9, hr9, hq9, hp9, ht9, rfl⟩⟩
              · refine tv_b (pc' := 206) (ls' := [some (.ref 80), some (.int (nI fs.length)), some (.int 0), none]) (st' := [.int 1]) (h' := (n, sl, wKK kk, (mrI I tf9 1 (nI f9) 0 (nI ((ce0 + out.length) + 1)) (nI (fs.length + 1)) (nI (fs.length)) (nI (fsum fs + ops.length)) od (upd (pa_wr c87 (800 * N + ce0) (out.map menc)) (800 * N + (ce0 + out.length)) (nI (8 * 16777216 + (pa_nm tx T p8)))) r88 r89 (upd r90 fs.length 0) r91 r92 r93), (mwL L w9), wQQ q)) 1 rfl ?_
                refine tv_rz rfl (by first | exact Or.inl rfl | exact Or.inr rfl) ⟨_, _, _, rfl, rfl, ?_⟩
                have e : pa_stP tx T p (kd, ph, bg, pr, ops) fs out = _ := stP_ld c128
                rw [pa_nr_r hr8, if_pos h21, if_neg (by omega), pa_nr_l hr9] at e
                rw [e]
                exact ⟨by first | exact Or.inl rfl | exact Or.inr rfl, ⟨by decide, by decide, by first | omega | exact pa_sk8 (by omega) hT8⟩, ⟨_, _, _, _, _, _, _, _, _, _, _, _, _, _, rfl, fun j hj => by first | rfl | (simp only [upd_n (show j ≠ 800 * N + (ce0 + out.length) by omega), pa_wr_b (show j < 800 * N + ce0 by omega)]) | exact pa_wr_b (by omega)⟩⟩
              · have hd9 := pa_tk_lt (b := tx) (n := T) p9
                have hx9 := (pa_ed_le (b := tx) (n := T) (p := p8) (by omega)).2
                refine tv_b (pc' := 206) (ls' := [some (.ref 80), some (.int (nI fs.length)), some (.int 0), none]) (st' := [.int 1]) (h' := (n, sl, wKK kk, (mrI I t9 0 (-1) 0 (nI ((ce0 + out.length) + 1)) (nI (fs.length + 1)) (nI (fs.length)) (nI (fsum fs + ops.length)) od (upd (pa_wr c87 (800 * N + ce0) (out.map menc)) (800 * N + (ce0 + out.length)) (nI (8 * 16777216 + (pa_nm tx T p8)))) r88 r89 (upd r90 fs.length 0) r91 r92 r93), (mwL L w9), wQQ q)) 1 rfl ?_
                have e : pa_stP tx T p (kd, ph, bg, pr, ops) fs out = _ := stP_ld c128
                rw [pa_nr_r hr8, if_pos h21, if_neg (by omega), pa_nr_r hr9] at e
                have hg0 := pa_ed_gt (b := tx) (n := T) (p := p) (by omega)
                have hg := pa_ed_gt (b := tx) (n := T) (p := p8) (by omega)
                refine tv_rz rfl (by first | exact Or.inl rfl | exact Or.inr rfl) ⟨_, _, _, rfl, rfl, ?_⟩
                rw [e]
                rw [mr_wr]
                refine ⟨rfl, rfl, ⟨_, _, _, _, _, _, _, by rw [List.length_append]; rfl, ht9, frR_bg hfr⟩, ?_⟩
                unfold mrJ; simp only [fsum, List.length_cons, List.length_append, List.length_nil, Bool.false_eq_true, if_false, if_true]; omega
            · refine tv_b (pc' := 174) (ls' := [some (.ref 80), some (.int (nI fs.length)), some (.int 0), none]) (st' := [.int (t8 4), .int 4, .ref 80]) (h' := (n, sl, wKK kk, (mrI I t8 0 (-1) 0 (nI (ce0 + out.length)) (nI (fs.length + 1)) (nI (fs.length)) (nI (fsum fs + ops.length)) od (pa_wr c87 (800 * N + ce0) (out.map menc)) r88 r89 (upd r90 fs.length 0) r91 r92 r93), (mwL L w8), wQQ q)) 4 rfl ?_
              refine tv_top (ht8.1) ?_
              refine tv_cvE [.int 4, .int (nI (pa_sk tx T p8))] [] rfl rfl (by omega) rfl (Nat.le_of_ble_eq_true rfl) (Nat.le_of_ble_eq_true rfl) (Or.inr (Or.inr rfl)) (ev_mr_blame0) ?_
              refine tv_b (pc' := 206) (ls' := [some (.ref 80), some (.int (nI fs.length)), some (.int 0), none]) (st' := [.int 1]) (h' := (n, sl, wKK kk, (mrI I t8 4 (nI (pa_sk tx T p8)) 0 (nI (ce0 + out.length)) (nI (fs.length + 1)) (nI (fs.length)) (nI (fsum fs + ops.length)) od (pa_wr c87 (800 * N + ce0) (out.map menc)) r88 r89 (upd r90 fs.length 0) r91 r92 r93), (mwL L w8), wQQ q)) 7 rfl ?_
              refine tv_rz rfl (by first | exact Or.inl rfl | exact Or.inr rfl) ⟨_, _, _, rfl, rfl, ?_⟩
              have e : pa_stP tx T p (kd, ph, bg, pr, ops) fs out = _ := stP_ld c128
              rw [pa_nr_r hr8, if_pos h21, if_pos (by omega)] at e
              rw [e]
              exact ⟨by first | exact Or.inl rfl | exact Or.inr rfl, ⟨by decide, by decide, by first | omega | exact pa_sk8 (by omega) hT8⟩, ⟨_, _, _, _, _, _, _, _, _, _, _, _, _, _, rfl, fun j hj => by first | rfl | (simp only [upd_n (show j ≠ 800 * N + (ce0 + out.length) by omega), pa_wr_b (show j < 800 * N + ce0 by omega)]) | exact pa_wr_b (by omega)⟩⟩
          · refine tv_b (pc' := 149) (ls' := [some (.ref 80), some (.int (nI fs.length)), some (.int 0), none]) (st' := [.int (t8 4), .int 1, .ref 80]) (h' := (n, sl, wKK kk, (mrI I t8 0 (-1) 0 (nI (ce0 + out.length)) (nI (fs.length + 1)) (nI (fs.length)) (nI (fsum fs + ops.length)) od (pa_wr c87 (800 * N + ce0) (out.map menc)) r88 r89 (upd r90 fs.length 0) r91 r92 r93), (mwL L w8), wQQ q)) 4 rfl ?_
            refine tv_top (ht8.1) ?_
            refine tv_cvE [.int 1, .int (nI (pa_sk tx T p8))] [] rfl rfl (by omega) rfl (Nat.le_of_ble_eq_true rfl) (Nat.le_of_ble_eq_true rfl) (Or.inr (Or.inr rfl)) (ev_mr_blame0) ?_
            refine tv_b (pc' := 206) (ls' := [some (.ref 80), some (.int (nI fs.length)), some (.int 0), none]) (st' := [.int 1]) (h' := (n, sl, wKK kk, (mrI I t8 1 (nI (pa_sk tx T p8)) 0 (nI (ce0 + out.length)) (nI (fs.length + 1)) (nI (fs.length)) (nI (fsum fs + ops.length)) od (pa_wr c87 (800 * N + ce0) (out.map menc)) r88 r89 (upd r90 fs.length 0) r91 r92 r93), (mwL L w8), wQQ q)) 10 rfl ?_
            refine tv_rz rfl (by first | exact Or.inl rfl | exact Or.inr rfl) ⟨_, _, _, rfl, rfl, ?_⟩
            have e : pa_stP tx T p (kd, ph, bg, pr, ops) fs out = _ := stP_ld c128
            have hn21 : ¬ pa_tk tx T p8 = 21 := fun q => c140 ((mr_num ht8).mpr q)
            rw [pa_nr_r hr8, if_neg hn21] at e
            rw [e]
            exact ⟨by first | exact Or.inl rfl | exact Or.inr rfl, ⟨by decide, by decide, by first | omega | exact pa_sk8 (by omega) hT8⟩, ⟨_, _, _, _, _, _, _, _, _, _, _, _, _, _, rfl, fun j hj => by first | rfl | (simp only [upd_n (show j ≠ 800 * N + (ce0 + out.length) by omega), pa_wr_b (show j < 800 * N + ce0 by omega)]) | exact pa_wr_b (by omega)⟩⟩
    · refine tv_b (pc' := 24) (ls' := [some (.ref 80), some (.int (nI fs.length)), none, none]) (st' := [.int (nI fs.length), .ref 90]) (h' := (n, sl, wKK kk, (mrI I tk 0 (-1) 0 (nI (ce0 + out.length)) (nI (fs.length + 1)) (nI (fs.length)) (nI (fsum fs + ops.length)) od (pa_wr c87 (800 * N + ce0) (out.map menc)) r88 r89 r90 r91 r92 r93), (mwL L w), wQQ q)) 3 rfl ?_
      refine tv_balN (k := fs.length) rfl (rfl) (⟨by first | exact Or.inl rfl | exact Or.inr rfl, by omega, by omega⟩) ?_
      refine tv_top (hfr.2.2.2.2.1) ?_
      refine tv_b (pc' := (if (if bg = true then 1 else 0) = 0 then 32 else 28)) (ls' := [some (.ref 80), some (.int (nI fs.length)), none, none]) (st' := []) (h' := (n, sl, wKK kk, (mrI I tk 0 (-1) 0 (nI (ce0 + out.length)) (nI (fs.length + 1)) (nI (fs.length)) (nI (fsum fs + ops.length)) od (pa_wr c87 (800 * N + ce0) (out.map menc)) r88 r89 r90 r91 r92 r93), (mwL L w), wQQ q)) 1 rfl ?_
      refine tv_b0f (fun h => hT (by rw [c16, h]; rfl)) ?_
      refine tv_b (pc' := 66) (ls' := [some (.ref 80), some (.int (nI fs.length)), some (.int 0), none]) (st' := [.int 0, .int (nI fs.length), .ref 90]) (h' := (n, sl, wKK kk, (mrI I tk 0 (-1) 0 (nI (ce0 + out.length)) (nI (fs.length + 1)) (nI (fs.length)) (nI (fsum fs + ops.length)) od (pa_wr c87 (800 * N + ce0) (out.map menc)) r88 r89 r90 r91 r92 r93), (mwL L w), wQQ q)) 8 rfl ?_
      refine tv_basZN (k := fs.length) rfl (rfl) (⟨by omega, by omega⟩) ?_
      refine tv_hI mrI_w_r90 ?_
      refine tv_b (pc' := 125) (ls' := [some (.ref 80), some (.int (nI fs.length)), some (.int 0), none]) (st' := [.long 1819238756, .ref 80]) (h' := (n, sl, wKK kk, (mrI I tk 0 (-1) 0 (nI (ce0 + out.length)) (nI (fs.length + 1)) (nI (fs.length)) (nI (fsum fs + ops.length)) od (pa_wr c87 (800 * N + ce0) (out.map menc)) r88 r89 (upd r90 fs.length 0) r91 r92 r93), (mwL L w), wQQ q)) 6 rfl ?_
      refine tv_cvE [.long 1819238756] [] rfl rfl (by omega) rfl (Nat.le_of_ble_eq_true rfl) (Nat.le_of_ble_eq_true rfl) (Or.inr (Or.inr rfl)) (ev_mr_isW ht (by decide) mw_18) ?_
      refine tv_b (pc' := (if (if pa_tk tx T p = 18 then 1 else 0) = 0 then 207 else 131)) (ls' := [some (.ref 80), some (.int (nI fs.length)), some (.int 0), none]) (st' := []) (h' := (n, sl, wKK kk, (mrI I tk 0 (-1) 0 (nI (ce0 + out.length)) (nI (fs.length + 1)) (nI (fs.length)) (nI (fsum fs + ops.length)) od (pa_wr c87 (800 * N + ce0) (out.map menc)) r88 r89 (upd r90 fs.length 0) r91 r92 r93), (mwL L w), wQQ q)) 1 rfl ?_
      refine tv_b0 (fun c128 => ?_) (fun c128 => ?_)
      · refine tv_b (pc' := 210) (ls' := [some (.ref 80), some (.int (nI fs.length)), some (.int 0), none]) (st' := [.int 40, .ref 80]) (h' := (n, sl, wKK kk, (mrI I tk 0 (-1) 0 (nI (ce0 + out.length)) (nI (fs.length + 1)) (nI (fs.length)) (nI (fsum fs + ops.length)) od (pa_wr c87 (800 * N + ce0) (out.map menc)) r88 r89 (upd r90 fs.length 0) r91 r92 r93), (mwL L w), wQQ q)) 2 rfl ?_
        refine tv_cvE [.int 40] [] rfl rfl (by omega) rfl (Nat.le_of_ble_eq_true rfl) (Nat.le_of_ble_eq_true rfl) (Or.inr (Or.inr rfl)) (ev_mr_isS (c := 40) (t := 32) ht (by decide)) ?_
        refine tv_b (pc' := (if (if pa_tk tx T p = 32 then 1 else 0) = 0 then 223 else 216)) (ls' := [some (.ref 80), some (.int (nI fs.length)), some (.int 0), none]) (st' := []) (h' := (n, sl, wKK kk, (mrI I tk 0 (-1) 0 (nI (ce0 + out.length)) (nI (fs.length + 1)) (nI (fs.length)) (nI (fsum fs + ops.length)) od (pa_wr c87 (800 * N + ce0) (out.map menc)) r88 r89 (upd r90 fs.length 0) r91 r92 r93), (mwL L w), wQQ q)) 1 rfl ?_
        refine tv_b0 (fun c213 => ?_) (fun c213 => ?_)
        · refine tv_b (pc' := 227) (ls' := [some (.ref 80), some (.int (nI fs.length)), some (.int 0), none]) (st' := [.long 7170414, .ref 80]) (h' := (n, sl, wKK kk, (mrI I tk 0 (-1) 0 (nI (ce0 + out.length)) (nI (fs.length + 1)) (nI (fs.length)) (nI (fsum fs + ops.length)) od (pa_wr c87 (800 * N + ce0) (out.map menc)) r88 r89 (upd r90 fs.length 0) r91 r92 r93), (mwL L w), wQQ q)) 2 rfl ?_
          refine tv_cvE [.long 7170414] [] rfl rfl (by omega) rfl (Nat.le_of_ble_eq_true rfl) (Nat.le_of_ble_eq_true rfl) (Or.inr (Or.inr rfl)) (ev_mr_isW ht (by decide) mw_19) ?_
          refine tv_b (pc' := (if (if pa_tk tx T p = 19 then 1 else 0) = 0 then 233 else 243)) (ls' := [some (.ref 80), some (.int (nI fs.length)), some (.int 0), none]) (st' := []) (h' := (n, sl, wKK kk, (mrI I tk 0 (-1) 0 (nI (ce0 + out.length)) (nI (fs.length + 1)) (nI (fs.length)) (nI (fsum fs + ops.length)) od (pa_wr c87 (800 * N + ce0) (out.map menc)) r88 r89 (upd r90 fs.length 0) r91 r92 r93), (mwL L w), wQQ q)) 1 rfl ?_
          refine tv_b0 (fun c230 => ?_) (fun c230 => ?_)
          · refine tv_b (pc' := 237) (ls' := [some (.ref 80), some (.int (nI fs.length)), some (.int 0), none]) (st' := [.long 7168376, .ref 80]) (h' := (n, sl, wKK kk, (mrI I tk 0 (-1) 0 (nI (ce0 + out.length)) (nI (fs.length + 1)) (nI (fs.length)) (nI (fsum fs + ops.length)) od (pa_wr c87 (800 * N + ce0) (out.map menc)) r88 r89 (upd r90 fs.length 0) r91 r92 r93), (mwL L w), wQQ q)) 2 rfl ?_
            refine tv_cvE [.long 7168376] [] rfl rfl (by omega) rfl (Nat.le_of_ble_eq_true rfl) (Nat.le_of_ble_eq_true rfl) (Or.inr (Or.inr rfl)) (ev_mr_isW ht (by decide) mw_20) ?_
            refine tv_b (pc' := (if (if pa_tk tx T p = 20 then 1 else 0) = 0 then 309 else 243)) (ls' := [some (.ref 80), some (.int (nI fs.length)), some (.int 0), none]) (st' := []) (h' := (n, sl, wKK kk, (mrI I tk 0 (-1) 0 (nI (ce0 + out.length)) (nI (fs.length + 1)) (nI (fs.length)) (nI (fsum fs + ops.length)) od (pa_wr c87 (800 * N + ce0) (out.map menc)) r88 r89 (upd r90 fs.length 0) r91 r92 r93), (mwL L w), wQQ q)) 1 rfl ?_
            refine tv_b0 (fun c240 => ?_) (fun c240 => ?_)
            · refine tv_b (pc' := 310) (ls' := [some (.ref 80), some (.int (nI fs.length)), some (.int 0), none]) (st' := [.ref 80]) (h' := (n, sl, wKK kk, (mrI I tk 0 (-1) 0 (nI (ce0 + out.length)) (nI (fs.length + 1)) (nI (fs.length)) (nI (fsum fs + ops.length)) od (pa_wr c87 (800 * N + ce0) (out.map menc)) r88 r89 (upd r90 fs.length 0) r91 r92 r93), (mwL L w), wQQ q)) 1 rfl ?_
              have hml := mask_le (pa_tk tx T p)
              refine tv_cvE [] [] rfl rfl (by omega) rfl (Nat.le_of_ble_eq_true rfl) (Nat.le_of_ble_eq_true rfl) (Or.inr (Or.inr rfl)) (ev_mr_asks ht) ?_
              refine tv_b (pc' := (if (tk 3) = 2 then 322 else 334)) (ls' := [some (.ref 80), some (.int (nI fs.length)), some (.int 0), some (.int (nI (mask (pa_tk tx T p))))]) (st' := []) (h' := (n, sl, wKK kk, (mrI I tk 0 (-1) 0 (nI (ce0 + out.length)) (nI (fs.length + 1)) (nI (fs.length)) (nI (fsum fs + ops.length)) od (pa_wr c87 (800 * N + ce0) (out.map menc)) r88 r89 (upd r90 fs.length 0) r91 r92 r93), (mwL L w), wQQ q)) 5 rfl ?_
              refine tv_if (fun c319 => ?_) (fun c319 => ?_)
              · have h21 := (mr_num ht).mp c319
                have hnl := pa_nm_lt hlf h21
                refine tv_b (pc' := 328) (ls' := [some (.ref 80), some (.int (nI fs.length)), some (.int 0), some (.int (nI (mask (pa_tk tx T p))))]) (st' := [.int (tk 6), .int 0, .ref 80]) (h' := (n, sl, wKK kk, (mrI I tk 0 (-1) 0 (nI (ce0 + out.length)) (nI (fs.length + 1)) (nI (fs.length)) (nI (fsum fs + ops.length)) od (pa_wr c87 (800 * N + ce0) (out.map menc)) r88 r89 (upd r90 fs.length 0) r91 r92 r93), (mwL L w), wQQ q)) 4 rfl ?_
                refine tv_top (mr_numv ht h21) ?_
                have hgA := pa_ed_gt (b := tx) (n := T) (p := p) (by omega)
                refine tv_cvE [.int 0, .int (nI (pa_nm tx T p))] [] rfl rfl (by omega) rfl (Nat.le_of_ble_eq_true rfl) (Nat.le_of_ble_eq_true rfl) (Or.inr (Or.inr rfl)) (ev_mr_add (x := 0) (v := (pa_nm tx T p)) hN (by omega) (by omega) (by omega)) ?_
                refine tv_b (pc' := 364) (ls' := [some (.ref 80), some (.int (nI fs.length)), some (.int 0), some (.int (nI (mask (pa_tk tx T p))))]) (st' := [.ref 80]) (h' := (n, sl, wKK kk, (mrI I tk 0 (-1) 0 (nI ((ce0 + out.length) + 1)) (nI (fs.length + 1)) (nI (fs.length)) (nI (fsum fs + ops.length)) od (upd (pa_wr c87 (800 * N + ce0) (out.map menc)) (800 * N + (ce0 + out.length)) (nI (0 * 16777216 + (pa_nm tx T p)))) r88 r89 (upd r90 fs.length 0) r91 r92 r93), (mwL L w), wQQ q)) 5 rfl ?_
                refine tv_cv [] [] rfl rfl (by omega) rfl (Nat.le_of_ble_eq_true rfl) (Nat.le_of_ble_eq_true rfl) (Or.inr (Or.inr rfl)) (tv_mr_nx hR (by omega) ht) ?_
                rintro rv9 h9 ⟨rfl, ⟨f10, tf10, w10, hr10, hf10, rfl⟩ | ⟨p10, t10, w10, hr10, hq10, hp10, ht10, rfl⟩⟩
                · refine tv_b (pc' := 368) (ls' := [some (.ref 80), some (.int (nI fs.length)), some (.int 0), some (.int (nI (mask (pa_tk tx T p))))]) (st' := [.int 1]) (h' := (n, sl, wKK kk, (mrI I tf10 1 (nI f10) 0 (nI ((ce0 + out.length) + 1)) (nI (fs.length + 1)) (nI (fs.length)) (nI (fsum fs + ops.length)) od (upd (pa_wr c87 (800 * N + ce0) (out.map menc)) (800 * N + (ce0 + out.length)) (nI (0 * 16777216 + (pa_nm tx T p)))) r88 r89 (upd r90 fs.length 0) r91 r92 r93), (mwL L w10), wQQ q)) 1 rfl ?_
                  refine tv_rz rfl (by first | exact Or.inl rfl | exact Or.inr rfl) ⟨_, _, _, rfl, rfl, ?_⟩
                  have e : pa_stP tx T p (kd, ph, bg, pr, ops) fs out = _ := stP_num ((mr_num ht).mp c319)
                  rw [pa_nr_l hr10] at e
                  rw [e]
                  exact ⟨by first | exact Or.inl rfl | exact Or.inr rfl, ⟨by decide, by decide, by first | omega | exact pa_sk8 (by omega) hT8⟩, ⟨_, _, _, _, _, _, _, _, _, _, _, _, _, _, rfl, fun j hj => by first | rfl | (simp only [upd_n (show j ≠ 800 * N + (ce0 + out.length) by omega), pa_wr_b (show j < 800 * N + ce0 by omega)]) | exact pa_wr_b (by omega)⟩⟩
                · have hd10 := pa_tk_lt (b := tx) (n := T) p10
                  have hx10 := (pa_ed_le (b := tx) (n := T) (p := p) (by omega)).2
                  refine tv_b (pc' := 368) (ls' := [some (.ref 80), some (.int (nI fs.length)), some (.int 0), some (.int (nI (mask (pa_tk tx T p))))]) (st' := [.int 1]) (h' := (n, sl, wKK kk, (mrI I t10 0 (-1) 0 (nI ((ce0 + out.length) + 1)) (nI (fs.length + 1)) (nI (fs.length)) (nI (fsum fs + ops.length)) od (upd (pa_wr c87 (800 * N + ce0) (out.map menc)) (800 * N + (ce0 + out.length)) (nI (0 * 16777216 + (pa_nm tx T p)))) r88 r89 (upd r90 fs.length 0) r91 r92 r93), (mwL L w10), wQQ q)) 1 rfl ?_
                  have e : pa_stP tx T p (kd, ph, bg, pr, ops) fs out = _ := stP_num ((mr_num ht).mp c319)
                  rw [pa_nr_r hr10] at e
                  have h21 := (mr_num ht).mp c319
                  have hg := pa_ed_gt (b := tx) (n := T) (p := p) (by omega)
                  refine tv_rz rfl (by first | exact Or.inl rfl | exact Or.inr rfl) ⟨_, _, _, rfl, rfl, ?_⟩
                  rw [e]
                  rw [mr_wr]
                  refine ⟨rfl, rfl, ⟨_, _, _, _, _, _, _, by rw [List.length_append]; rfl, ht10, frR_bg hfr⟩, ?_⟩
                  unfold mrJ; simp only [fsum, List.length_cons, List.length_append, List.length_nil, Bool.false_eq_true, if_false, if_true]; omega
              · refine tv_b (pc' := (if (nI (mask (pa_tk tx T p))) ≤ 0 then 347 else 338)) (ls' := [some (.ref 80), some (.int (nI fs.length)), some (.int 0), some (.int (nI (mask (pa_tk tx T p))))]) (st' := []) (h' := (n, sl, wKK kk, (mrI I tk 0 (-1) 0 (nI (ce0 + out.length)) (nI (fs.length + 1)) (nI (fs.length)) (nI (fsum fs + ops.length)) od (pa_wr c87 (800 * N + ce0) (out.map menc)) r88 r89 (upd r90 fs.length 0) r91 r92 r93), (mwL L w), wQQ q)) 2 rfl ?_
                refine tv_ifq (nI_leI (a := (mask (pa_tk tx T p))) (b := 0) (by omega) (by omega)) (fun c335 => ?_) (fun c335 => ?_)
                · refine tv_b (pc' := 353) (ls' := [some (.ref 80), some (.int (nI fs.length)), some (.int 0), some (.int (nI (mask (pa_tk tx T p))))]) (st' := [.int (tk 4), .int 1, .ref 80]) (h' := (n, sl, wKK kk, (mrI I tk 0 (-1) 0 (nI (ce0 + out.length)) (nI (fs.length + 1)) (nI (fs.length)) (nI (fsum fs + ops.length)) od (pa_wr c87 (800 * N + ce0) (out.map menc)) r88 r89 (upd r90 fs.length 0) r91 r92 r93), (mwL L w), wQQ q)) 4 rfl ?_
                  refine tv_top (ht.1) ?_
                  refine tv_cvE [.int 1, .int (nI (pa_sk tx T p))] [] rfl rfl (by omega) rfl (Nat.le_of_ble_eq_true rfl) (Nat.le_of_ble_eq_true rfl) (Or.inr (Or.inr rfl)) (ev_mr_blame0) ?_
                  refine tv_b (pc' := 368) (ls' := [some (.ref 80), some (.int (nI fs.length)), some (.int 0), some (.int (nI (mask (pa_tk tx T p))))]) (st' := [.int 1]) (h' := (n, sl, wKK kk, (mrI I tk 1 (nI (pa_sk tx T p)) 0 (nI (ce0 + out.length)) (nI (fs.length + 1)) (nI (fs.length)) (nI (fsum fs + ops.length)) od (pa_wr c87 (800 * N + ce0) (out.map menc)) r88 r89 (upd r90 fs.length 0) r91 r92 r93), (mwL L w), wQQ q)) 4 rfl ?_
                  have hnm : pa_tk tx T p ≠ 21 := fun q => c319 ((mr_num ht).mpr q)
                  refine tv_rz rfl (by first | exact Or.inl rfl | exact Or.inr rfl) ⟨_, _, _, rfl, rfl, ?_⟩
                  have e : pa_stP tx T p (kd, ph, bg, pr, ops) fs out = _ := stP_bad (fun hTT => by first | exact absurd hTT hT | exact ⟨by omega, by omega, by omega⟩) ⟨by omega, by omega, by omega, by omega, by omega, mask_n (by omega)⟩
                  rw [e]
                  exact ⟨by first | exact Or.inl rfl | exact Or.inr rfl, ⟨by decide, by decide, by first | omega | exact pa_sk8 (by omega) hT8⟩, ⟨_, _, _, _, _, _, _, _, _, _, _, _, _, _, rfl, fun j hj => by first | rfl | (simp only [upd_n (show j ≠ 800 * N + (ce0 + out.length) by omega), pa_wr_b (show j < 800 * N + ce0 by omega)]) | exact pa_wr_b (by omega)⟩⟩
                · refine tv_b (pc' := 341) (ls' := [some (.ref 80), some (.int (nI fs.length)), some (.int 0), some (.int (nI (mask (pa_tk tx T p))))]) (st' := [.int 0, .int (nI (mask (pa_tk tx T p))), .ref 80]) (h' := (n, sl, wKK kk, (mrI I tk 0 (-1) 0 (nI (ce0 + out.length)) (nI (fs.length + 1)) (nI (fs.length)) (nI (fsum fs + ops.length)) od (pa_wr c87 (800 * N + ce0) (out.map menc)) r88 r89 (upd r90 fs.length 0) r91 r92 r93), (mwL L w), wQQ q)) 3 rfl ?_
                  have hmk := mask_y (t := pa_tk tx T p) (by omega)
                  have hgA := pa_ed_gt (b := tx) (n := T) (p := p) (by omega)
                  refine tv_cvE [.int (nI (mask (pa_tk tx T p))), .int 0] [] rfl rfl (by omega) rfl (Nat.le_of_ble_eq_true rfl) (Nat.le_of_ble_eq_true rfl) (Or.inr (Or.inr rfl)) (ev_mr_add (x := (mask (pa_tk tx T p))) (v := 0) hN (by omega) (by omega) (by omega)) ?_
                  refine tv_b (pc' := 364) (ls' := [some (.ref 80), some (.int (nI fs.length)), some (.int 0), some (.int (nI (mask (pa_tk tx T p))))]) (st' := [.ref 80]) (h' := (n, sl, wKK kk, (mrI I tk 0 (-1) 0 (nI ((ce0 + out.length) + 1)) (nI (fs.length + 1)) (nI (fs.length)) (nI (fsum fs + ops.length)) od (upd (pa_wr c87 (800 * N + ce0) (out.map menc)) (800 * N + (ce0 + out.length)) (nI ((mask (pa_tk tx T p)) * 16777216 + 0))) r88 r89 (upd r90 fs.length 0) r91 r92 r93), (mwL L w), wQQ q)) 5 rfl ?_
                  refine tv_cv [] [] rfl rfl (by omega) rfl (Nat.le_of_ble_eq_true rfl) (Nat.le_of_ble_eq_true rfl) (Or.inr (Or.inr rfl)) (tv_mr_nx hR (by omega) ht) ?_
                  rintro rv9 h9 ⟨rfl, ⟨f11, tf11, w11, hr11, hf11, rfl⟩ | ⟨p11, t11, w11, hr11, hq11, hp11, ht11, rfl⟩⟩
                  · refine tv_b (pc' := 368) (ls' := [some (.ref 80), some (.int (nI fs.length)), some (.int 0), some (.int (nI (mask (pa_tk tx T p))))]) (st' := [.int 1]) (h' := (n, sl, wKK kk, (mrI I tf11 1 (nI f11) 0 (nI ((ce0 + out.length) + 1)) (nI (fs.length + 1)) (nI (fs.length)) (nI (fsum fs + ops.length)) od (upd (pa_wr c87 (800 * N + ce0) (out.map menc)) (800 * N + (ce0 + out.length)) (nI ((mask (pa_tk tx T p)) * 16777216 + 0))) r88 r89 (upd r90 fs.length 0) r91 r92 r93), (mwL L w11), wQQ q)) 1 rfl ?_
                    refine tv_rz rfl (by first | exact Or.inl rfl | exact Or.inr rfl) ⟨_, _, _, rfl, rfl, ?_⟩
                    have e : pa_stP tx T p (kd, ph, bg, pr, ops) fs out = _ := stP_ask (mask_y (by omega)).1
                    rw [pa_nr_l hr11] at e
                    rw [e]
                    exact ⟨by first | exact Or.inl rfl | exact Or.inr rfl, ⟨by decide, by decide, by first | omega | exact pa_sk8 (by omega) hT8⟩, ⟨_, _, _, _, _, _, _, _, _, _, _, _, _, _, rfl, fun j hj => by first | rfl | (simp only [upd_n (show j ≠ 800 * N + (ce0 + out.length) by omega), pa_wr_b (show j < 800 * N + ce0 by omega)]) | exact pa_wr_b (by omega)⟩⟩
                  · have hd11 := pa_tk_lt (b := tx) (n := T) p11
                    have hx11 := (pa_ed_le (b := tx) (n := T) (p := p) (by omega)).2
                    refine tv_b (pc' := 368) (ls' := [some (.ref 80), some (.int (nI fs.length)), some (.int 0), some (.int (nI (mask (pa_tk tx T p))))]) (st' := [.int 1]) (h' := (n, sl, wKK kk, (mrI I t11 0 (-1) 0 (nI ((ce0 + out.length) + 1)) (nI (fs.length + 1)) (nI (fs.length)) (nI (fsum fs + ops.length)) od (upd (pa_wr c87 (800 * N + ce0) (out.map menc)) (800 * N + (ce0 + out.length)) (nI ((mask (pa_tk tx T p)) * 16777216 + 0))) r88 r89 (upd r90 fs.length 0) r91 r92 r93), (mwL L w11), wQQ q)) 1 rfl ?_
                    have e : pa_stP tx T p (kd, ph, bg, pr, ops) fs out = _ := stP_ask (mask_y (by omega)).1
                    rw [pa_nr_r hr11] at e
                    have hg := pa_ed_gt (b := tx) (n := T) (p := p) (by omega)
                    refine tv_rz rfl (by first | exact Or.inl rfl | exact Or.inr rfl) ⟨_, _, _, rfl, rfl, ?_⟩
                    rw [e]
                    rw [mr_wr, hmk.2]
                    refine ⟨rfl, rfl, ⟨_, _, _, _, _, _, _, by rw [List.length_append]; rfl, ht11, frR_bg hfr⟩, ?_⟩
                    unfold mrJ; simp only [fsum, List.length_cons, List.length_append, List.length_nil, Bool.false_eq_true, if_false, if_true]; omega
            · refine tv_b (pc' := 247) (ls' := [some (.ref 80), some (.int (nI fs.length)), some (.int 0), none]) (st' := [.long 7170414, .ref 80]) (h' := (n, sl, wKK kk, (mrI I tk 0 (-1) 0 (nI (ce0 + out.length)) (nI (fs.length + 1)) (nI (fs.length)) (nI (fsum fs + ops.length)) od (pa_wr c87 (800 * N + ce0) (out.map menc)) r88 r89 (upd r90 fs.length 0) r91 r92 r93), (mwL L w), wQQ q)) 2 rfl ?_
              refine tv_cvE [.long 7170414] [] rfl rfl (by omega) rfl (Nat.le_of_ble_eq_true rfl) (Nat.le_of_ble_eq_true rfl) (Or.inr (Or.inr rfl)) (ev_mr_isW ht (by decide) mw_19) ?_
              refine tv_b (pc' := (if (if pa_tk tx T p = 19 then 1 else 0) = 0 then 258 else 253)) (ls' := [some (.ref 80), some (.int (nI fs.length)), some (.int 0), none]) (st' := []) (h' := (n, sl, wKK kk, (mrI I tk 0 (-1) 0 (nI (ce0 + out.length)) (nI (fs.length + 1)) (nI (fs.length)) (nI (fsum fs + ops.length)) od (pa_wr c87 (800 * N + ce0) (out.map menc)) r88 r89 (upd r90 fs.length 0) r91 r92 r93), (mwL L w), wQQ q)) 1 rfl ?_
              refine tv_b0f (c230) ?_
              refine tv_b (pc' := 262) (ls' := [some (.ref 80), some (.int (nI fs.length)), some (.int 0), some (.int 20)]) (st' := [.ref 80]) (h' := (n, sl, wKK kk, (mrI I tk 0 (-1) 0 (nI (ce0 + out.length)) (nI (fs.length + 1)) (nI (fs.length)) (nI (fsum fs + ops.length)) od (pa_wr c87 (800 * N + ce0) (out.map menc)) r88 r89 (upd r90 fs.length 0) r91 r92 r93), (mwL L w), wQQ q)) 3 rfl ?_
              refine tv_cv [] [] rfl rfl (by omega) rfl (Nat.le_of_ble_eq_true rfl) (Nat.le_of_ble_eq_true rfl) (Or.inr (Or.inr rfl)) (tv_mr_nx hR (by omega) ht) ?_
              rintro rv9 h9 ⟨rfl, ⟨f12, tf12, w12, hr12, hf12, rfl⟩ | ⟨p12, t12, w12, hr12, hq12, hp12, ht12, rfl⟩⟩
              · refine tv_b (pc' := 268) (ls' := [some (.ref 80), some (.int (nI fs.length)), some (.int 0), some (.int 20)]) (st' := [.int 40, .ref 80]) (h' := (n, sl, wKK kk, (mrI I tf12 1 (nI f12) 0 (nI (ce0 + out.length)) (nI (fs.length + 1)) (nI (fs.length)) (nI (fsum fs + ops.length)) od (pa_wr c87 (800 * N + ce0) (out.map menc)) r88 r89 (upd r90 fs.length 0) r91 r92 r93), (mwL L w12), wQQ q)) 2 rfl ?_
                refine tv_cvE [.int 40] [] rfl rfl (by omega) rfl (Nat.le_of_ble_eq_true rfl) (Nat.le_of_ble_eq_true rfl) (Or.inr (Or.inr rfl)) (ev_m_isSign) ?_
                refine tv_b (pc' := (if (sp_m_isSign 40 (mrI I tf12 1 (nI f12) 0 (nI (ce0 + out.length)) (nI (fs.length + 1)) (nI (fs.length)) (nI (fsum fs + ops.length)) od (pa_wr c87 (800 * N + ce0) (out.map menc)) r88 r89 (upd r90 fs.length 0) r91 r92 r93) (mwL L w12)) = 0 then 274 else 283)) (ls' := [some (.ref 80), some (.int (nI fs.length)), some (.int 0), some (.int 20)]) (st' := []) (h' := (n, sl, wKK kk, (mrI I tf12 1 (nI f12) 0 (nI (ce0 + out.length)) (nI (fs.length + 1)) (nI (fs.length)) (nI (fsum fs + ops.length)) od (pa_wr c87 (800 * N + ce0) (out.map menc)) r88 r89 (upd r90 fs.length 0) r91 r92 r93), (mwL L w12), wQQ q)) 1 rfl ?_
                refine tv_if (fun c271 => ?_) (fun c271 => ?_)
                · refine tv_b (pc' := 280) (ls' := [some (.ref 80), some (.int (nI fs.length)), some (.int 0), some (.int 20)]) (st' := [.int (tf12 4), .int 1, .ref 80]) (h' := (n, sl, wKK kk, (mrI I tf12 1 (nI f12) 0 (nI (ce0 + out.length)) (nI (fs.length + 1)) (nI (fs.length)) (nI (fsum fs + ops.length)) od (pa_wr c87 (800 * N + ce0) (out.map menc)) r88 r89 (upd r90 fs.length 0) r91 r92 r93), (mwL L w12), wQQ q)) 4 rfl ?_
                  refine tv_cvE [.int 1, .int (tf12 4)] [] rfl rfl (by omega) rfl (Nat.le_of_ble_eq_true rfl) (Nat.le_of_ble_eq_true rfl) (Or.inr (Or.inr rfl)) (ev_mr_blameF (by decide)) ?_
                  refine tv_b (pc' := 285) (ls' := [some (.ref 80), some (.int (nI fs.length)), some (.int 0), some (.int 20)]) (st' := [.int 3, .ref 80]) (h' := (n, sl, wKK kk, (mrI I tf12 1 (nI f12) 0 (nI (ce0 + out.length)) (nI (fs.length + 1)) (nI (fs.length)) (nI (fsum fs + ops.length)) od (pa_wr c87 (800 * N + ce0) (out.map menc)) r88 r89 (upd r90 fs.length 0) r91 r92 r93), (mwL L w12), wQQ q)) 2 rfl ?_
                  refine tv_cvE [.int 3] [] rfl rfl (by omega) rfl (Nat.le_of_ble_eq_true rfl) (Nat.le_of_ble_eq_true rfl) (Or.inr (Or.inr rfl)) (ev_mr_opens1) ?_
                  refine tv_b (pc' := 308) (ls' := [some (.ref 80), some (.int (nI fs.length)), some (.int 0), some (.int 20)]) (st' := [.int 0]) (h' := (n, sl, wKK kk, (mrI I tf12 1 (nI f12) 0 (nI (ce0 + out.length)) (nI (fs.length + 1)) (nI (fs.length)) (nI (fsum fs + ops.length)) od (pa_wr c87 (800 * N + ce0) (out.map menc)) r88 r89 (upd r90 fs.length 0) r91 r92 r93), (mwL L w12), wQQ q)) 4 rfl ?_
                  refine tv_rz rfl (by first | exact Or.inl rfl | exact Or.inr rfl) ⟨_, _, _, rfl, rfl, ?_⟩
                  have e : pa_stP tx T p (kd, ph, bg, pr, ops) fs out = _ := stP_mm (Or.inr rfl) c240
                  rw [pa_nr_l hr12] at e
                  rw [e]
                  exact ⟨by first | exact Or.inl rfl | exact Or.inr rfl, ⟨by decide, by decide, by first | omega | exact pa_sk8 (by omega) hT8⟩, ⟨_, _, _, _, _, _, _, _, _, _, _, _, _, _, rfl, fun j hj => by first | rfl | (simp only [upd_n (show j ≠ 800 * N + (ce0 + out.length) by omega), pa_wr_b (show j < 800 * N + ce0 by omega)]) | exact pa_wr_b (by omega)⟩⟩
                · refine tv_b (pc' := 285) (ls' := [some (.ref 80), some (.int (nI fs.length)), some (.int 0), some (.int 20)]) (st' := [.int 3, .ref 80]) (h' := (n, sl, wKK kk, (mrI I tf12 1 (nI f12) 0 (nI (ce0 + out.length)) (nI (fs.length + 1)) (nI (fs.length)) (nI (fsum fs + ops.length)) od (pa_wr c87 (800 * N + ce0) (out.map menc)) r88 r89 (upd r90 fs.length 0) r91 r92 r93), (mwL L w12), wQQ q)) 2 rfl ?_
                  refine tv_cvE [.int 3] [] rfl rfl (by omega) rfl (Nat.le_of_ble_eq_true rfl) (Nat.le_of_ble_eq_true rfl) (Or.inr (Or.inr rfl)) (ev_mr_opens1) ?_
                  refine tv_b (pc' := 308) (ls' := [some (.ref 80), some (.int (nI fs.length)), some (.int 0), some (.int 20)]) (st' := [.int 0]) (h' := (n, sl, wKK kk, (mrI I tf12 1 (nI f12) 0 (nI (ce0 + out.length)) (nI (fs.length + 1)) (nI (fs.length)) (nI (fsum fs + ops.length)) od (pa_wr c87 (800 * N + ce0) (out.map menc)) r88 r89 (upd r90 fs.length 0) r91 r92 r93), (mwL L w12), wQQ q)) 4 rfl ?_
                  refine tv_rz rfl (by first | exact Or.inl rfl | exact Or.inr rfl) ⟨_, _, _, rfl, rfl, ?_⟩
                  have e : pa_stP tx T p (kd, ph, bg, pr, ops) fs out = _ := stP_mm (Or.inr rfl) c240
                  rw [pa_nr_l hr12] at e
                  rw [e]
                  exact ⟨by first | exact Or.inl rfl | exact Or.inr rfl, ⟨by decide, by decide, by first | omega | exact pa_sk8 (by omega) hT8⟩, ⟨_, _, _, _, _, _, _, _, _, _, _, _, _, _, rfl, fun j hj => by first | rfl | (simp only [upd_n (show j ≠ 800 * N + (ce0 + out.length) by omega), pa_wr_b (show j < 800 * N + ce0 by omega)]) | exact pa_wr_b (by omega)⟩⟩
              · have hd12 := pa_tk_lt (b := tx) (n := T) p12
                have hx12 := (pa_ed_le (b := tx) (n := T) (p := p) (by omega)).2
                refine tv_b (pc' := 268) (ls' := [some (.ref 80), some (.int (nI fs.length)), some (.int 0), some (.int 20)]) (st' := [.int 40, .ref 80]) (h' := (n, sl, wKK kk, (mrI I t12 0 (-1) 0 (nI (ce0 + out.length)) (nI (fs.length + 1)) (nI (fs.length)) (nI (fsum fs + ops.length)) od (pa_wr c87 (800 * N + ce0) (out.map menc)) r88 r89 (upd r90 fs.length 0) r91 r92 r93), (mwL L w12), wQQ q)) 2 rfl ?_
                refine tv_cvE [.int 40] [] rfl rfl (by omega) rfl (Nat.le_of_ble_eq_true rfl) (Nat.le_of_ble_eq_true rfl) (Or.inr (Or.inr rfl)) (ev_mr_isS (c := 40) (t := 32) ht12 (by decide)) ?_
                refine tv_b (pc' := (if (if pa_tk tx T p12 = 32 then 1 else 0) = 0 then 274 else 283)) (ls' := [some (.ref 80), some (.int (nI fs.length)), some (.int 0), some (.int 20)]) (st' := []) (h' := (n, sl, wKK kk, (mrI I t12 0 (-1) 0 (nI (ce0 + out.length)) (nI (fs.length + 1)) (nI (fs.length)) (nI (fsum fs + ops.length)) od (pa_wr c87 (800 * N + ce0) (out.map menc)) r88 r89 (upd r90 fs.length 0) r91 r92 r93), (mwL L w12), wQQ q)) 1 rfl ?_
                refine tv_b0 (fun c271 => ?_) (fun c271 => ?_)
                · refine tv_b (pc' := 280) (ls' := [some (.ref 80), some (.int (nI fs.length)), some (.int 0), some (.int 20)]) (st' := [.int (t12 4), .int 1, .ref 80]) (h' := (n, sl, wKK kk, (mrI I t12 0 (-1) 0 (nI (ce0 + out.length)) (nI (fs.length + 1)) (nI (fs.length)) (nI (fsum fs + ops.length)) od (pa_wr c87 (800 * N + ce0) (out.map menc)) r88 r89 (upd r90 fs.length 0) r91 r92 r93), (mwL L w12), wQQ q)) 4 rfl ?_
                  refine tv_top (ht12.1) ?_
                  refine tv_cvE [.int 1, .int (nI (pa_sk tx T p12))] [] rfl rfl (by omega) rfl (Nat.le_of_ble_eq_true rfl) (Nat.le_of_ble_eq_true rfl) (Or.inr (Or.inr rfl)) (ev_mr_blame0) ?_
                  refine tv_b (pc' := 285) (ls' := [some (.ref 80), some (.int (nI fs.length)), some (.int 0), some (.int 20)]) (st' := [.int 3, .ref 80]) (h' := (n, sl, wKK kk, (mrI I t12 1 (nI (pa_sk tx T p12)) 0 (nI (ce0 + out.length)) (nI (fs.length + 1)) (nI (fs.length)) (nI (fsum fs + ops.length)) od (pa_wr c87 (800 * N + ce0) (out.map menc)) r88 r89 (upd r90 fs.length 0) r91 r92 r93), (mwL L w12), wQQ q)) 2 rfl ?_
                  refine tv_cvE [.int 3] [] rfl rfl (by omega) rfl (Nat.le_of_ble_eq_true rfl) (Nat.le_of_ble_eq_true rfl) (Or.inr (Or.inr rfl)) (ev_mr_opens1) ?_
                  refine tv_b (pc' := 308) (ls' := [some (.ref 80), some (.int (nI fs.length)), some (.int 0), some (.int 20)]) (st' := [.int 0]) (h' := (n, sl, wKK kk, (mrI I t12 1 (nI (pa_sk tx T p12)) 0 (nI (ce0 + out.length)) (nI (fs.length + 1)) (nI (fs.length)) (nI (fsum fs + ops.length)) od (pa_wr c87 (800 * N + ce0) (out.map menc)) r88 r89 (upd r90 fs.length 0) r91 r92 r93), (mwL L w12), wQQ q)) 4 rfl ?_
                  refine tv_rz rfl (by first | exact Or.inl rfl | exact Or.inr rfl) ⟨_, _, _, rfl, rfl, ?_⟩
                  have e : pa_stP tx T p (kd, ph, bg, pr, ops) fs out = _ := stP_mm (Or.inr rfl) c240
                  rw [pa_nr_r hr12, if_neg c271] at e
                  rw [e]
                  exact ⟨by first | exact Or.inl rfl | exact Or.inr rfl, ⟨by decide, by decide, by first | omega | exact pa_sk8 (by omega) hT8⟩, ⟨_, _, _, _, _, _, _, _, _, _, _, _, _, _, rfl, fun j hj => by first | rfl | (simp only [upd_n (show j ≠ 800 * N + (ce0 + out.length) by omega), pa_wr_b (show j < 800 * N + ce0 by omega)]) | exact pa_wr_b (by omega)⟩⟩
                · refine tv_b (pc' := 285) (ls' := [some (.ref 80), some (.int (nI fs.length)), some (.int 0), some (.int 20)]) (st' := [.int 3, .ref 80]) (h' := (n, sl, wKK kk, (mrI I t12 0 (-1) 0 (nI (ce0 + out.length)) (nI (fs.length + 1)) (nI (fs.length)) (nI (fsum fs + ops.length)) od (pa_wr c87 (800 * N + ce0) (out.map menc)) r88 r89 (upd r90 fs.length 0) r91 r92 r93), (mwL L w12), wQQ q)) 2 rfl ?_
                  refine tv_cv [.int 3] [] rfl rfl (by omega) rfl (Nat.le_of_ble_eq_true rfl) (Nat.le_of_ble_eq_true rfl) (Or.inr (Or.inr rfl)) (tv_mr_opens hR (by omega) (by omega) (by omega) ht12) ?_
                  rintro rv9 h9 ⟨rfl, ⟨h8, rfl⟩ | ⟨h8, f13, tf13, w13, hr13, hf13, rfl⟩ | ⟨h8, p13, t13, w13, hr13, hq13, hp13, ht13, rfl⟩⟩
                  · refine tv_b (pc' := 308) (ls' := [some (.ref 80), some (.int (nI fs.length)), some (.int 0), some (.int 20)]) (st' := [.int 0]) (h' := (n, sl, wKK kk, (mrI I t12 5 (nI (pa_sk tx T p12)) 0 (nI (ce0 + out.length)) (nI (fs.length + 1)) (nI (fs.length)) (nI (fsum fs + ops.length)) od (pa_wr c87 (800 * N + ce0) (out.map menc)) r88 r89 (upd r90 fs.length 0) r91 r92 r93), (mwL L w12), wQQ q)) 4 rfl ?_
                    refine tv_rz rfl (by first | exact Or.inl rfl | exact Or.inr rfl) ⟨_, _, _, rfl, rfl, ?_⟩
                    have e : pa_stP tx T p (kd, ph, bg, pr, ops) fs out = _ := stP_mm (Or.inr rfl) c240
                    rw [pa_nr_r hr12, if_pos c271, if_pos h8] at e
                    rw [e]
                    exact ⟨by first | exact Or.inl rfl | exact Or.inr rfl, ⟨by decide, by decide, by first | omega | exact pa_sk8 (by omega) hT8⟩, ⟨_, _, _, _, _, _, _, _, _, _, _, _, _, _, rfl, fun j hj => by first | rfl | (simp only [upd_n (show j ≠ 800 * N + (ce0 + out.length) by omega), pa_wr_b (show j < 800 * N + ce0 by omega)]) | exact pa_wr_b (by omega)⟩⟩
                  · refine tv_b (pc' := 308) (ls' := [some (.ref 80), some (.int (nI fs.length)), some (.int 0), some (.int 20)]) (st' := [.int 0]) (h' := (n, sl, wKK kk, (mrI I tf13 1 (nI f13) 0 (nI (ce0 + out.length)) (nI ((fs.length + 1) + 1)) (nI ((fs.length) + 1)) (nI (fsum fs + ops.length)) od (pa_wr c87 (800 * N + ce0) (out.map menc)) (upd r88 (fs.length + 1) 3) (upd r89 (fs.length + 1) 0) (upd (upd r90 fs.length 0) (fs.length + 1) 1) r91 (upd r92 (fs.length + 1) (nI (fsum fs + ops.length))) r93), (mwL L w13), wQQ q)) 4 rfl ?_
                    refine tv_rz rfl (by first | exact Or.inl rfl | exact Or.inr rfl) ⟨_, _, _, rfl, rfl, ?_⟩
                    have e : pa_stP tx T p (kd, ph, bg, pr, ops) fs out = _ := stP_mm (Or.inr rfl) c240
                    rw [pa_nr_r hr12, if_pos c271, if_neg h8, pa_nr_l hr13] at e
                    rw [e]
                    exact ⟨by first | exact Or.inl rfl | exact Or.inr rfl, ⟨by decide, by decide, by first | omega | exact pa_sk8 (by omega) hT8⟩, ⟨_, _, _, _, _, _, _, _, _, _, _, _, _, _, rfl, fun j hj => by first | rfl | (simp only [upd_n (show j ≠ 800 * N + (ce0 + out.length) by omega), pa_wr_b (show j < 800 * N + ce0 by omega)]) | exact pa_wr_b (by omega)⟩⟩
                  · have hd13 := pa_tk_lt (b := tx) (n := T) p13
                    refine tv_b (pc' := 304) (ls' := [some (.ref 80), some (.int (nI fs.length)), some (.int 0), some (.int 20)]) (st' := [.int 1, .int (nI ((fs.length + 1) + 1)), .ref 91]) (h' := (n, sl, wKK kk, (mrI I t13 0 (-1) 0 (nI (ce0 + out.length)) (nI ((fs.length + 1) + 1)) (nI ((fs.length) + 1)) (nI (fsum fs + ops.length)) od (pa_wr c87 (800 * N + ce0) (out.map menc)) (upd r88 (fs.length + 1) 3) (upd r89 (fs.length + 1) 0) (upd (upd r90 fs.length 0) (fs.length + 1) 1) r91 (upd r92 (fs.length + 1) (nI (fsum fs + ops.length))) r93), (mwL L w13), wQQ q)) 8 rfl ?_
                    refine tv_b (pc' := 305) (ls' := [some (.ref 80), some (.int (nI fs.length)), some (.int 0), some (.int 20)]) (st' := [.int ((nI ((fs.length + 1) + 1)) - 1), .ref 91]) (h' := (n, sl, wKK kk, (mrI I t13 0 (-1) 0 (nI (ce0 + out.length)) (nI ((fs.length + 1) + 1)) (nI ((fs.length) + 1)) (nI (fsum fs + ops.length)) od (pa_wr c87 (800 * N + ce0) (out.map menc)) (upd r88 (fs.length + 1) 3) (upd r89 (fs.length + 1) 0) (upd (upd r90 fs.length 0) (fs.length + 1) 1) r91 (upd r92 (fs.length + 1) (nI (fsum fs + ops.length))) r93), (mwL L w13), wQQ q)) 1 rfl ?_
                    refine tv_top (show (nI ((fs.length + 1) + 1)) - 1 = nI (fs.length + 1) from nI_sub (a := ((fs.length + 1) + 1)) (b := 1) (by omega)) ?_
                    refine tv_b (pc' := 306) (ls' := [some (.ref 80), some (.int (nI fs.length)), some (.int 0), some (.int 20)]) (st' := [.int 20, .int (nI (fs.length + 1)), .ref 91]) (h' := (n, sl, wKK kk, (mrI I t13 0 (-1) 0 (nI (ce0 + out.length)) (nI ((fs.length + 1) + 1)) (nI ((fs.length) + 1)) (nI (fsum fs + ops.length)) od (pa_wr c87 (800 * N + ce0) (out.map menc)) (upd r88 (fs.length + 1) 3) (upd r89 (fs.length + 1) 0) (upd (upd r90 fs.length 0) (fs.length + 1) 1) r91 (upd r92 (fs.length + 1) (nI (fsum fs + ops.length))) r93), (mwL L w13), wQQ q)) 1 rfl ?_
                    refine tv_iasN (k := (fs.length + 1)) rfl (rfl) (⟨by omega, by omega⟩) ?_
                    refine tv_hI mrI_w_r91 ?_
                    refine tv_b (pc' := 308) (ls' := [some (.ref 80), some (.int (nI fs.length)), some (.int 0), some (.int 20)]) (st' := [.int 0]) (h' := (n, sl, wKK kk, (mrI I t13 0 (-1) 0 (nI (ce0 + out.length)) (nI ((fs.length + 1) + 1)) (nI ((fs.length) + 1)) (nI (fsum fs + ops.length)) od (pa_wr c87 (800 * N + ce0) (out.map menc)) (upd r88 (fs.length + 1) 3) (upd r89 (fs.length + 1) 0) (upd (upd r90 fs.length 0) (fs.length + 1) 1) (upd r91 (fs.length + 1) 20) (upd r92 (fs.length + 1) (nI (fsum fs + ops.length))) r93), (mwL L w13), wQQ q)) 1 rfl ?_
                    have e : pa_stP tx T p (kd, ph, bg, pr, ops) fs out = _ := stP_mm (Or.inr rfl) c240
                    rw [pa_nr_r hr12, if_pos c271, if_neg h8, pa_nr_r hr13] at e
                    have hg0 := pa_ed_gt (b := tx) (n := T) (p := p) (by omega)
                    have hg := pa_ed_gt (b := tx) (n := T) (p := p12) (by omega)
                    refine tv_rz rfl (by first | exact Or.inl rfl | exact Or.inr rfl) ⟨_, _, _, rfl, rfl, ?_⟩
                    rw [e]
                    refine ⟨rfl, rfl, ⟨_, _, _, _, _, _, _, rfl, ht13, frR_new3 (t := 20) (frR_bg hfr) (Or.inr rfl)⟩, ?_⟩
                    unfold mrJ; simp only [fsum, List.length_cons, List.length_append, List.length_nil, Bool.false_eq_true, if_false, if_true]; omega
          · refine tv_b (pc' := 247) (ls' := [some (.ref 80), some (.int (nI fs.length)), some (.int 0), none]) (st' := [.long 7170414, .ref 80]) (h' := (n, sl, wKK kk, (mrI I tk 0 (-1) 0 (nI (ce0 + out.length)) (nI (fs.length + 1)) (nI (fs.length)) (nI (fsum fs + ops.length)) od (pa_wr c87 (800 * N + ce0) (out.map menc)) r88 r89 (upd r90 fs.length 0) r91 r92 r93), (mwL L w), wQQ q)) 2 rfl ?_
            refine tv_cvE [.long 7170414] [] rfl rfl (by omega) rfl (Nat.le_of_ble_eq_true rfl) (Nat.le_of_ble_eq_true rfl) (Or.inr (Or.inr rfl)) (ev_mr_isW ht (by decide) mw_19) ?_
            refine tv_b (pc' := (if (if pa_tk tx T p = 19 then 1 else 0) = 0 then 258 else 253)) (ls' := [some (.ref 80), some (.int (nI fs.length)), some (.int 0), none]) (st' := []) (h' := (n, sl, wKK kk, (mrI I tk 0 (-1) 0 (nI (ce0 + out.length)) (nI (fs.length + 1)) (nI (fs.length)) (nI (fsum fs + ops.length)) od (pa_wr c87 (800 * N + ce0) (out.map menc)) r88 r89 (upd r90 fs.length 0) r91 r92 r93), (mwL L w), wQQ q)) 1 rfl ?_
            refine tv_b0t (c230) ?_
            refine tv_b (pc' := 262) (ls' := [some (.ref 80), some (.int (nI fs.length)), some (.int 0), some (.int 19)]) (st' := [.ref 80]) (h' := (n, sl, wKK kk, (mrI I tk 0 (-1) 0 (nI (ce0 + out.length)) (nI (fs.length + 1)) (nI (fs.length)) (nI (fsum fs + ops.length)) od (pa_wr c87 (800 * N + ce0) (out.map menc)) r88 r89 (upd r90 fs.length 0) r91 r92 r93), (mwL L w), wQQ q)) 4 rfl ?_
            refine tv_cv [] [] rfl rfl (by omega) rfl (Nat.le_of_ble_eq_true rfl) (Nat.le_of_ble_eq_true rfl) (Or.inr (Or.inr rfl)) (tv_mr_nx hR (by omega) ht) ?_
            rintro rv9 h9 ⟨rfl, ⟨f14, tf14, w14, hr14, hf14, rfl⟩ | ⟨p14, t14, w14, hr14, hq14, hp14, ht14, rfl⟩⟩
            · refine tv_b (pc' := 268) (ls' := [some (.ref 80), some (.int (nI fs.length)), some (.int 0), some (.int 19)]) (st' := [.int 40, .ref 80]) (h' := (n, sl, wKK kk, (mrI I tf14 1 (nI f14) 0 (nI (ce0 + out.length)) (nI (fs.length + 1)) (nI (fs.length)) (nI (fsum fs + ops.length)) od (pa_wr c87 (800 * N + ce0) (out.map menc)) r88 r89 (upd r90 fs.length 0) r91 r92 r93), (mwL L w14), wQQ q)) 2 rfl ?_
              refine tv_cvE [.int 40] [] rfl rfl (by omega) rfl (Nat.le_of_ble_eq_true rfl) (Nat.le_of_ble_eq_true rfl) (Or.inr (Or.inr rfl)) (ev_m_isSign) ?_
              refine tv_b (pc' := (if (sp_m_isSign 40 (mrI I tf14 1 (nI f14) 0 (nI (ce0 + out.length)) (nI (fs.length + 1)) (nI (fs.length)) (nI (fsum fs + ops.length)) od (pa_wr c87 (800 * N + ce0) (out.map menc)) r88 r89 (upd r90 fs.length 0) r91 r92 r93) (mwL L w14)) = 0 then 274 else 283)) (ls' := [some (.ref 80), some (.int (nI fs.length)), some (.int 0), some (.int 19)]) (st' := []) (h' := (n, sl, wKK kk, (mrI I tf14 1 (nI f14) 0 (nI (ce0 + out.length)) (nI (fs.length + 1)) (nI (fs.length)) (nI (fsum fs + ops.length)) od (pa_wr c87 (800 * N + ce0) (out.map menc)) r88 r89 (upd r90 fs.length 0) r91 r92 r93), (mwL L w14), wQQ q)) 1 rfl ?_
              refine tv_if (fun c271 => ?_) (fun c271 => ?_)
              · refine tv_b (pc' := 280) (ls' := [some (.ref 80), some (.int (nI fs.length)), some (.int 0), some (.int 19)]) (st' := [.int (tf14 4), .int 1, .ref 80]) (h' := (n, sl, wKK kk, (mrI I tf14 1 (nI f14) 0 (nI (ce0 + out.length)) (nI (fs.length + 1)) (nI (fs.length)) (nI (fsum fs + ops.length)) od (pa_wr c87 (800 * N + ce0) (out.map menc)) r88 r89 (upd r90 fs.length 0) r91 r92 r93), (mwL L w14), wQQ q)) 4 rfl ?_
                refine tv_cvE [.int 1, .int (tf14 4)] [] rfl rfl (by omega) rfl (Nat.le_of_ble_eq_true rfl) (Nat.le_of_ble_eq_true rfl) (Or.inr (Or.inr rfl)) (ev_mr_blameF (by decide)) ?_
                refine tv_b (pc' := 285) (ls' := [some (.ref 80), some (.int (nI fs.length)), some (.int 0), some (.int 19)]) (st' := [.int 3, .ref 80]) (h' := (n, sl, wKK kk, (mrI I tf14 1 (nI f14) 0 (nI (ce0 + out.length)) (nI (fs.length + 1)) (nI (fs.length)) (nI (fsum fs + ops.length)) od (pa_wr c87 (800 * N + ce0) (out.map menc)) r88 r89 (upd r90 fs.length 0) r91 r92 r93), (mwL L w14), wQQ q)) 2 rfl ?_
                refine tv_cvE [.int 3] [] rfl rfl (by omega) rfl (Nat.le_of_ble_eq_true rfl) (Nat.le_of_ble_eq_true rfl) (Or.inr (Or.inr rfl)) (ev_mr_opens1) ?_
                refine tv_b (pc' := 308) (ls' := [some (.ref 80), some (.int (nI fs.length)), some (.int 0), some (.int 19)]) (st' := [.int 0]) (h' := (n, sl, wKK kk, (mrI I tf14 1 (nI f14) 0 (nI (ce0 + out.length)) (nI (fs.length + 1)) (nI (fs.length)) (nI (fsum fs + ops.length)) od (pa_wr c87 (800 * N + ce0) (out.map menc)) r88 r89 (upd r90 fs.length 0) r91 r92 r93), (mwL L w14), wQQ q)) 4 rfl ?_
                refine tv_rz rfl (by first | exact Or.inl rfl | exact Or.inr rfl) ⟨_, _, _, rfl, rfl, ?_⟩
                have e : pa_stP tx T p (kd, ph, bg, pr, ops) fs out = _ := stP_mm (Or.inl rfl) c230
                rw [pa_nr_l hr14] at e
                rw [e]
                exact ⟨by first | exact Or.inl rfl | exact Or.inr rfl, ⟨by decide, by decide, by first | omega | exact pa_sk8 (by omega) hT8⟩, ⟨_, _, _, _, _, _, _, _, _, _, _, _, _, _, rfl, fun j hj => by first | rfl | (simp only [upd_n (show j ≠ 800 * N + (ce0 + out.length) by omega), pa_wr_b (show j < 800 * N + ce0 by omega)]) | exact pa_wr_b (by omega)⟩⟩
              · refine tv_b (pc' := 285) (ls' := [some (.ref 80), some (.int (nI fs.length)), some (.int 0), some (.int 19)]) (st' := [.int 3, .ref 80]) (h' := (n, sl, wKK kk, (mrI I tf14 1 (nI f14) 0 (nI (ce0 + out.length)) (nI (fs.length + 1)) (nI (fs.length)) (nI (fsum fs + ops.length)) od (pa_wr c87 (800 * N + ce0) (out.map menc)) r88 r89 (upd r90 fs.length 0) r91 r92 r93), (mwL L w14), wQQ q)) 2 rfl ?_
                refine tv_cvE [.int 3] [] rfl rfl (by omega) rfl (Nat.le_of_ble_eq_true rfl) (Nat.le_of_ble_eq_true rfl) (Or.inr (Or.inr rfl)) (ev_mr_opens1) ?_
                refine tv_b (pc' := 308) (ls' := [some (.ref 80), some (.int (nI fs.length)), some (.int 0), some (.int 19)]) (st' := [.int 0]) (h' := (n, sl, wKK kk, (mrI I tf14 1 (nI f14) 0 (nI (ce0 + out.length)) (nI (fs.length + 1)) (nI (fs.length)) (nI (fsum fs + ops.length)) od (pa_wr c87 (800 * N + ce0) (out.map menc)) r88 r89 (upd r90 fs.length 0) r91 r92 r93), (mwL L w14), wQQ q)) 4 rfl ?_
                refine tv_rz rfl (by first | exact Or.inl rfl | exact Or.inr rfl) ⟨_, _, _, rfl, rfl, ?_⟩
                have e : pa_stP tx T p (kd, ph, bg, pr, ops) fs out = _ := stP_mm (Or.inl rfl) c230
                rw [pa_nr_l hr14] at e
                rw [e]
                exact ⟨by first | exact Or.inl rfl | exact Or.inr rfl, ⟨by decide, by decide, by first | omega | exact pa_sk8 (by omega) hT8⟩, ⟨_, _, _, _, _, _, _, _, _, _, _, _, _, _, rfl, fun j hj => by first | rfl | (simp only [upd_n (show j ≠ 800 * N + (ce0 + out.length) by omega), pa_wr_b (show j < 800 * N + ce0 by omega)]) | exact pa_wr_b (by omega)⟩⟩
            · have hd14 := pa_tk_lt (b := tx) (n := T) p14
              have hx14 := (pa_ed_le (b := tx) (n := T) (p := p) (by omega)).2
              refine tv_b (pc' := 268) (ls' := [some (.ref 80), some (.int (nI fs.length)), some (.int 0), some (.int 19)]) (st' := [.int 40, .ref 80]) (h' := (n, sl, wKK kk, (mrI I t14 0 (-1) 0 (nI (ce0 + out.length)) (nI (fs.length + 1)) (nI (fs.length)) (nI (fsum fs + ops.length)) od (pa_wr c87 (800 * N + ce0) (out.map menc)) r88 r89 (upd r90 fs.length 0) r91 r92 r93), (mwL L w14), wQQ q)) 2 rfl ?_
              refine tv_cvE [.int 40] [] rfl rfl (by omega) rfl (Nat.le_of_ble_eq_true rfl) (Nat.le_of_ble_eq_true rfl) (Or.inr (Or.inr rfl)) (ev_mr_isS (c := 40) (t := 32) ht14 (by decide)) ?_
              refine tv_b (pc' := (if (if pa_tk tx T p14 = 32 then 1 else 0) = 0 then 274 else 283)) (ls' := [some (.ref 80), some (.int (nI fs.length)), some (.int 0), some (.int 19)]) (st' := []) (h' := (n, sl, wKK kk, (mrI I t14 0 (-1) 0 (nI (ce0 + out.length)) (nI (fs.length + 1)) (nI (fs.length)) (nI (fsum fs + ops.length)) od (pa_wr c87 (800 * N + ce0) (out.map menc)) r88 r89 (upd r90 fs.length 0) r91 r92 r93), (mwL L w14), wQQ q)) 1 rfl ?_
              refine tv_b0 (fun c271 => ?_) (fun c271 => ?_)
              · refine tv_b (pc' := 280) (ls' := [some (.ref 80), some (.int (nI fs.length)), some (.int 0), some (.int 19)]) (st' := [.int (t14 4), .int 1, .ref 80]) (h' := (n, sl, wKK kk, (mrI I t14 0 (-1) 0 (nI (ce0 + out.length)) (nI (fs.length + 1)) (nI (fs.length)) (nI (fsum fs + ops.length)) od (pa_wr c87 (800 * N + ce0) (out.map menc)) r88 r89 (upd r90 fs.length 0) r91 r92 r93), (mwL L w14), wQQ q)) 4 rfl ?_
                refine tv_top (ht14.1) ?_
                refine tv_cvE [.int 1, .int (nI (pa_sk tx T p14))] [] rfl rfl (by omega) rfl (Nat.le_of_ble_eq_true rfl) (Nat.le_of_ble_eq_true rfl) (Or.inr (Or.inr rfl)) (ev_mr_blame0) ?_
                refine tv_b (pc' := 285) (ls' := [some (.ref 80), some (.int (nI fs.length)), some (.int 0), some (.int 19)]) (st' := [.int 3, .ref 80]) (h' := (n, sl, wKK kk, (mrI I t14 1 (nI (pa_sk tx T p14)) 0 (nI (ce0 + out.length)) (nI (fs.length + 1)) (nI (fs.length)) (nI (fsum fs + ops.length)) od (pa_wr c87 (800 * N + ce0) (out.map menc)) r88 r89 (upd r90 fs.length 0) r91 r92 r93), (mwL L w14), wQQ q)) 2 rfl ?_
                refine tv_cvE [.int 3] [] rfl rfl (by omega) rfl (Nat.le_of_ble_eq_true rfl) (Nat.le_of_ble_eq_true rfl) (Or.inr (Or.inr rfl)) (ev_mr_opens1) ?_
                refine tv_b (pc' := 308) (ls' := [some (.ref 80), some (.int (nI fs.length)), some (.int 0), some (.int 19)]) (st' := [.int 0]) (h' := (n, sl, wKK kk, (mrI I t14 1 (nI (pa_sk tx T p14)) 0 (nI (ce0 + out.length)) (nI (fs.length + 1)) (nI (fs.length)) (nI (fsum fs + ops.length)) od (pa_wr c87 (800 * N + ce0) (out.map menc)) r88 r89 (upd r90 fs.length 0) r91 r92 r93), (mwL L w14), wQQ q)) 4 rfl ?_
                refine tv_rz rfl (by first | exact Or.inl rfl | exact Or.inr rfl) ⟨_, _, _, rfl, rfl, ?_⟩
                have e : pa_stP tx T p (kd, ph, bg, pr, ops) fs out = _ := stP_mm (Or.inl rfl) c230
                rw [pa_nr_r hr14, if_neg c271] at e
                rw [e]
                exact ⟨by first | exact Or.inl rfl | exact Or.inr rfl, ⟨by decide, by decide, by first | omega | exact pa_sk8 (by omega) hT8⟩, ⟨_, _, _, _, _, _, _, _, _, _, _, _, _, _, rfl, fun j hj => by first | rfl | (simp only [upd_n (show j ≠ 800 * N + (ce0 + out.length) by omega), pa_wr_b (show j < 800 * N + ce0 by omega)]) | exact pa_wr_b (by omega)⟩⟩
              · refine tv_b (pc' := 285) (ls' := [some (.ref 80), some (.int (nI fs.length)), some (.int 0), some (.int 19)]) (st' := [.int 3, .ref 80]) (h' := (n, sl, wKK kk, (mrI I t14 0 (-1) 0 (nI (ce0 + out.length)) (nI (fs.length + 1)) (nI (fs.length)) (nI (fsum fs + ops.length)) od (pa_wr c87 (800 * N + ce0) (out.map menc)) r88 r89 (upd r90 fs.length 0) r91 r92 r93), (mwL L w14), wQQ q)) 2 rfl ?_
                refine tv_cv [.int 3] [] rfl rfl (by omega) rfl (Nat.le_of_ble_eq_true rfl) (Nat.le_of_ble_eq_true rfl) (Or.inr (Or.inr rfl)) (tv_mr_opens hR (by omega) (by omega) (by omega) ht14) ?_
                rintro rv9 h9 ⟨rfl, ⟨h8, rfl⟩ | ⟨h8, f15, tf15, w15, hr15, hf15, rfl⟩ | ⟨h8, p15, t15, w15, hr15, hq15, hp15, ht15, rfl⟩⟩
                · refine tv_b (pc' := 308) (ls' := [some (.ref 80), some (.int (nI fs.length)), some (.int 0), some (.int 19)]) (st' := [.int 0]) (h' := (n, sl, wKK kk, (mrI I t14 5 (nI (pa_sk tx T p14)) 0 (nI (ce0 + out.length)) (nI (fs.length + 1)) (nI (fs.length)) (nI (fsum fs + ops.length)) od (pa_wr c87 (800 * N + ce0) (out.map menc)) r88 r89 (upd r90 fs.length 0) r91 r92 r93), (mwL L w14), wQQ q)) 4 rfl ?_
                  refine tv_rz rfl (by first | exact Or.inl rfl | exact Or.inr rfl) ⟨_, _, _, rfl, rfl, ?_⟩
                  have e : pa_stP tx T p (kd, ph, bg, pr, ops) fs out = _ := stP_mm (Or.inl rfl) c230
                  rw [pa_nr_r hr14, if_pos c271, if_pos h8] at e
                  rw [e]
                  exact ⟨by first | exact Or.inl rfl | exact Or.inr rfl, ⟨by decide, by decide, by first | omega | exact pa_sk8 (by omega) hT8⟩, ⟨_, _, _, _, _, _, _, _, _, _, _, _, _, _, rfl, fun j hj => by first | rfl | (simp only [upd_n (show j ≠ 800 * N + (ce0 + out.length) by omega), pa_wr_b (show j < 800 * N + ce0 by omega)]) | exact pa_wr_b (by omega)⟩⟩
                · refine tv_b (pc' := 308) (ls' := [some (.ref 80), some (.int (nI fs.length)), some (.int 0), some (.int 19)]) (st' := [.int 0]) (h' := (n, sl, wKK kk, (mrI I tf15 1 (nI f15) 0 (nI (ce0 + out.length)) (nI ((fs.length + 1) + 1)) (nI ((fs.length) + 1)) (nI (fsum fs + ops.length)) od (pa_wr c87 (800 * N + ce0) (out.map menc)) (upd r88 (fs.length + 1) 3) (upd r89 (fs.length + 1) 0) (upd (upd r90 fs.length 0) (fs.length + 1) 1) r91 (upd r92 (fs.length + 1) (nI (fsum fs + ops.length))) r93), (mwL L w15), wQQ q)) 4 rfl ?_
                  refine tv_rz rfl (by first | exact Or.inl rfl | exact Or.inr rfl) ⟨_, _, _, rfl, rfl, ?_⟩
                  have e : pa_stP tx T p (kd, ph, bg, pr, ops) fs out = _ := stP_mm (Or.inl rfl) c230
                  rw [pa_nr_r hr14, if_pos c271, if_neg h8, pa_nr_l hr15] at e
                  rw [e]
                  exact ⟨by first | exact Or.inl rfl | exact Or.inr rfl, ⟨by decide, by decide, by first | omega | exact pa_sk8 (by omega) hT8⟩, ⟨_, _, _, _, _, _, _, _, _, _, _, _, _, _, rfl, fun j hj => by first | rfl | (simp only [upd_n (show j ≠ 800 * N + (ce0 + out.length) by omega), pa_wr_b (show j < 800 * N + ce0 by omega)]) | exact pa_wr_b (by omega)⟩⟩
                · have hd15 := pa_tk_lt (b := tx) (n := T) p15
                  refine tv_b (pc' := 304) (ls' := [some (.ref 80), some (.int (nI fs.length)), some (.int 0), some (.int 19)]) (st' := [.int 1, .int (nI ((fs.length + 1) + 1)), .ref 91]) (h' := (n, sl, wKK kk, (mrI I t15 0 (-1) 0 (nI (ce0 + out.length)) (nI ((fs.length + 1) + 1)) (nI ((fs.length) + 1)) (nI (fsum fs + ops.length)) od (pa_wr c87 (800 * N + ce0) (out.map menc)) (upd r88 (fs.length + 1) 3) (upd r89 (fs.length + 1) 0) (upd (upd r90 fs.length 0) (fs.length + 1) 1) r91 (upd r92 (fs.length + 1) (nI (fsum fs + ops.length))) r93), (mwL L w15), wQQ q)) 8 rfl ?_
                  refine tv_b (pc' := 305) (ls' := [some (.ref 80), some (.int (nI fs.length)), some (.int 0), some (.int 19)]) (st' := [.int ((nI ((fs.length + 1) + 1)) - 1), .ref 91]) (h' := (n, sl, wKK kk, (mrI I t15 0 (-1) 0 (nI (ce0 + out.length)) (nI ((fs.length + 1) + 1)) (nI ((fs.length) + 1)) (nI (fsum fs + ops.length)) od (pa_wr c87 (800 * N + ce0) (out.map menc)) (upd r88 (fs.length + 1) 3) (upd r89 (fs.length + 1) 0) (upd (upd r90 fs.length 0) (fs.length + 1) 1) r91 (upd r92 (fs.length + 1) (nI (fsum fs + ops.length))) r93), (mwL L w15), wQQ q)) 1 rfl ?_
                  refine tv_top (show (nI ((fs.length + 1) + 1)) - 1 = nI (fs.length + 1) from nI_sub (a := ((fs.length + 1) + 1)) (b := 1) (by omega)) ?_
                  refine tv_b (pc' := 306) (ls' := [some (.ref 80), some (.int (nI fs.length)), some (.int 0), some (.int 19)]) (st' := [.int 19, .int (nI (fs.length + 1)), .ref 91]) (h' := (n, sl, wKK kk, (mrI I t15 0 (-1) 0 (nI (ce0 + out.length)) (nI ((fs.length + 1) + 1)) (nI ((fs.length) + 1)) (nI (fsum fs + ops.length)) od (pa_wr c87 (800 * N + ce0) (out.map menc)) (upd r88 (fs.length + 1) 3) (upd r89 (fs.length + 1) 0) (upd (upd r90 fs.length 0) (fs.length + 1) 1) r91 (upd r92 (fs.length + 1) (nI (fsum fs + ops.length))) r93), (mwL L w15), wQQ q)) 1 rfl ?_
                  refine tv_iasN (k := (fs.length + 1)) rfl (rfl) (⟨by omega, by omega⟩) ?_
                  refine tv_hI mrI_w_r91 ?_
                  refine tv_b (pc' := 308) (ls' := [some (.ref 80), some (.int (nI fs.length)), some (.int 0), some (.int 19)]) (st' := [.int 0]) (h' := (n, sl, wKK kk, (mrI I t15 0 (-1) 0 (nI (ce0 + out.length)) (nI ((fs.length + 1) + 1)) (nI ((fs.length) + 1)) (nI (fsum fs + ops.length)) od (pa_wr c87 (800 * N + ce0) (out.map menc)) (upd r88 (fs.length + 1) 3) (upd r89 (fs.length + 1) 0) (upd (upd r90 fs.length 0) (fs.length + 1) 1) (upd r91 (fs.length + 1) 19) (upd r92 (fs.length + 1) (nI (fsum fs + ops.length))) r93), (mwL L w15), wQQ q)) 1 rfl ?_
                  have e : pa_stP tx T p (kd, ph, bg, pr, ops) fs out = _ := stP_mm (Or.inl rfl) c230
                  rw [pa_nr_r hr14, if_pos c271, if_neg h8, pa_nr_r hr15] at e
                  have hg0 := pa_ed_gt (b := tx) (n := T) (p := p) (by omega)
                  have hg := pa_ed_gt (b := tx) (n := T) (p := p14) (by omega)
                  refine tv_rz rfl (by first | exact Or.inl rfl | exact Or.inr rfl) ⟨_, _, _, rfl, rfl, ?_⟩
                  rw [e]
                  refine ⟨rfl, rfl, ⟨_, _, _, _, _, _, _, rfl, ht15, frR_new3 (t := 19) (frR_bg hfr) (Or.inl rfl)⟩, ?_⟩
                  unfold mrJ; simp only [fsum, List.length_cons, List.length_append, List.length_nil, Bool.false_eq_true, if_false, if_true]; omega
        · refine tv_b (pc' := 218) (ls' := [some (.ref 80), some (.int (nI fs.length)), some (.int 0), none]) (st' := [.int 2, .ref 80]) (h' := (n, sl, wKK kk, (mrI I tk 0 (-1) 0 (nI (ce0 + out.length)) (nI (fs.length + 1)) (nI (fs.length)) (nI (fsum fs + ops.length)) od (pa_wr c87 (800 * N + ce0) (out.map menc)) r88 r89 (upd r90 fs.length 0) r91 r92 r93), (mwL L w), wQQ q)) 2 rfl ?_
          refine tv_cv [.int 2] [] rfl rfl (by omega) rfl (Nat.le_of_ble_eq_true rfl) (Nat.le_of_ble_eq_true rfl) (Or.inr (Or.inr rfl)) (tv_mr_opens hR (by omega) (by omega) (by omega) ht) ?_
          rintro rv9 h9 ⟨rfl, ⟨h8, rfl⟩ | ⟨h8, f16, tf16, w16, hr16, hf16, rfl⟩ | ⟨h8, p16, t16, w16, hr16, hq16, hp16, ht16, rfl⟩⟩
          · refine tv_b (pc' := 222) (ls' := [some (.ref 80), some (.int (nI fs.length)), some (.int 0), none]) (st' := [.int 0]) (h' := (n, sl, wKK kk, (mrI I tk 5 (nI (pa_sk tx T p)) 0 (nI (ce0 + out.length)) (nI (fs.length + 1)) (nI (fs.length)) (nI (fsum fs + ops.length)) od (pa_wr c87 (800 * N + ce0) (out.map menc)) r88 r89 (upd r90 fs.length 0) r91 r92 r93), (mwL L w), wQQ q)) 1 rfl ?_
            refine tv_rz rfl (by first | exact Or.inl rfl | exact Or.inr rfl) ⟨_, _, _, rfl, rfl, ?_⟩
            have e : pa_stP tx T p (kd, ph, bg, pr, ops) fs out = _ := stP_op c213
            rw [if_pos h8] at e
            rw [e]
            exact ⟨by first | exact Or.inl rfl | exact Or.inr rfl, ⟨by decide, by decide, by first | omega | exact pa_sk8 (by omega) hT8⟩, ⟨_, _, _, _, _, _, _, _, _, _, _, _, _, _, rfl, fun j hj => by first | rfl | (simp only [upd_n (show j ≠ 800 * N + (ce0 + out.length) by omega), pa_wr_b (show j < 800 * N + ce0 by omega)]) | exact pa_wr_b (by omega)⟩⟩
          · refine tv_b (pc' := 222) (ls' := [some (.ref 80), some (.int (nI fs.length)), some (.int 0), none]) (st' := [.int 0]) (h' := (n, sl, wKK kk, (mrI I tf16 1 (nI f16) 0 (nI (ce0 + out.length)) (nI ((fs.length + 1) + 1)) (nI ((fs.length) + 1)) (nI (fsum fs + ops.length)) od (pa_wr c87 (800 * N + ce0) (out.map menc)) (upd r88 (fs.length + 1) 2) (upd r89 (fs.length + 1) 0) (upd (upd r90 fs.length 0) (fs.length + 1) 1) r91 (upd r92 (fs.length + 1) (nI (fsum fs + ops.length))) r93), (mwL L w16), wQQ q)) 1 rfl ?_
            refine tv_rz rfl (by first | exact Or.inl rfl | exact Or.inr rfl) ⟨_, _, _, rfl, rfl, ?_⟩
            have e : pa_stP tx T p (kd, ph, bg, pr, ops) fs out = _ := stP_op c213
            rw [if_neg h8, pa_nr_l hr16] at e
            rw [e]
            exact ⟨by first | exact Or.inl rfl | exact Or.inr rfl, ⟨by decide, by decide, by first | omega | exact pa_sk8 (by omega) hT8⟩, ⟨_, _, _, _, _, _, _, _, _, _, _, _, _, _, rfl, fun j hj => by first | rfl | (simp only [upd_n (show j ≠ 800 * N + (ce0 + out.length) by omega), pa_wr_b (show j < 800 * N + ce0 by omega)]) | exact pa_wr_b (by omega)⟩⟩
          · have hd16 := pa_tk_lt (b := tx) (n := T) p16
            refine tv_b (pc' := 222) (ls' := [some (.ref 80), some (.int (nI fs.length)), some (.int 0), none]) (st' := [.int 0]) (h' := (n, sl, wKK kk, (mrI I t16 0 (-1) 0 (nI (ce0 + out.length)) (nI ((fs.length + 1) + 1)) (nI ((fs.length) + 1)) (nI (fsum fs + ops.length)) od (pa_wr c87 (800 * N + ce0) (out.map menc)) (upd r88 (fs.length + 1) 2) (upd r89 (fs.length + 1) 0) (upd (upd r90 fs.length 0) (fs.length + 1) 1) r91 (upd r92 (fs.length + 1) (nI (fsum fs + ops.length))) r93), (mwL L w16), wQQ q)) 1 rfl ?_
            have e : pa_stP tx T p (kd, ph, bg, pr, ops) fs out = _ := stP_op c213
            rw [if_neg h8, pa_nr_r hr16] at e
            have hg := pa_ed_gt (b := tx) (n := T) (p := p) (by omega)
            refine tv_rz rfl (by first | exact Or.inl rfl | exact Or.inr rfl) ⟨_, _, _, rfl, rfl, ?_⟩
            rw [e]
            refine ⟨rfl, rfl, ⟨_, _, _, _, _, _, _, rfl, ht16, frR_new (k := 2) (frR_bg hfr) (by decide) (by decide)⟩, ?_⟩
            unfold mrJ; simp only [fsum, List.length_cons, List.length_append, List.length_nil, Bool.false_eq_true, if_false, if_true]; omega
      · refine tv_b (pc' := 132) (ls' := [some (.ref 80), some (.int (nI fs.length)), some (.int 0), none]) (st' := [.ref 80]) (h' := (n, sl, wKK kk, (mrI I tk 0 (-1) 0 (nI (ce0 + out.length)) (nI (fs.length + 1)) (nI (fs.length)) (nI (fsum fs + ops.length)) od (pa_wr c87 (800 * N + ce0) (out.map menc)) r88 r89 (upd r90 fs.length 0) r91 r92 r93), (mwL L w), wQQ q)) 1 rfl ?_
        refine tv_cv [] [] rfl rfl (by omega) rfl (Nat.le_of_ble_eq_true rfl) (Nat.le_of_ble_eq_true rfl) (Or.inr (Or.inr rfl)) (tv_mr_nx hR (by omega) ht) ?_
        rintro rv9 h9 ⟨rfl, ⟨f17, tf17, w17, hr17, hf17, rfl⟩ | ⟨p17, t17, w17, hr17, hq17, hp17, ht17, rfl⟩⟩
        · refine tv_b (pc' := (if (tf17 3) = 2 then 152 else 143)) (ls' := [some (.ref 80), some (.int (nI fs.length)), some (.int 0), none]) (st' := []) (h' := (n, sl, wKK kk, (mrI I tf17 1 (nI f17) 0 (nI (ce0 + out.length)) (nI (fs.length + 1)) (nI (fs.length)) (nI (fsum fs + ops.length)) od (pa_wr c87 (800 * N + ce0) (out.map menc)) r88 r89 (upd r90 fs.length 0) r91 r92 r93), (mwL L w17), wQQ q)) 4 rfl ?_
          refine tv_if (fun c140 => ?_) (fun c140 => ?_)
          · refine tv_b (pc' := 206) (ls' := [some (.ref 80), some (.int (nI fs.length)), some (.int 0), none]) (st' := [.int 1]) (h' := (n, sl, wKK kk, (mrI I tf17 1 (nI f17) 0 (nI (ce0 + out.length)) (nI (fs.length + 1)) (nI (fs.length)) (nI (fsum fs + ops.length)) od (pa_wr c87 (800 * N + ce0) (out.map menc)) r88 r89 (upd r90 fs.length 0) r91 r92 r93), (mwL L w17), wQQ q)) 10 rfl ?_
            refine tv_rz rfl (by first | exact Or.inl rfl | exact Or.inr rfl) ⟨_, _, _, rfl, rfl, ?_⟩
            have e : pa_stP tx T p (kd, ph, bg, pr, ops) fs out = _ := stP_ld c128
            rw [pa_nr_l hr17] at e
            rw [e]
            exact ⟨by first | exact Or.inl rfl | exact Or.inr rfl, ⟨by decide, by decide, by first | omega | exact pa_sk8 (by omega) hT8⟩, ⟨_, _, _, _, _, _, _, _, _, _, _, _, _, _, rfl, fun j hj => by first | rfl | (simp only [upd_n (show j ≠ 800 * N + (ce0 + out.length) by omega), pa_wr_b (show j < 800 * N + ce0 by omega)]) | exact pa_wr_b (by omega)⟩⟩
          · refine tv_b (pc' := 149) (ls' := [some (.ref 80), some (.int (nI fs.length)), some (.int 0), none]) (st' := [.int (tf17 4), .int 1, .ref 80]) (h' := (n, sl, wKK kk, (mrI I tf17 1 (nI f17) 0 (nI (ce0 + out.length)) (nI (fs.length + 1)) (nI (fs.length)) (nI (fsum fs + ops.length)) od (pa_wr c87 (800 * N + ce0) (out.map menc)) r88 r89 (upd r90 fs.length 0) r91 r92 r93), (mwL L w17), wQQ q)) 4 rfl ?_
            refine tv_cvE [.int 1, .int (tf17 4)] [] rfl rfl (by omega) rfl (Nat.le_of_ble_eq_true rfl) (Nat.le_of_ble_eq_true rfl) (Or.inr (Or.inr rfl)) (ev_mr_blameF (by decide)) ?_
            refine tv_b (pc' := 206) (ls' := [some (.ref 80), some (.int (nI fs.length)), some (.int 0), none]) (st' := [.int 1]) (h' := (n, sl, wKK kk, (mrI I tf17 1 (nI f17) 0 (nI (ce0 + out.length)) (nI (fs.length + 1)) (nI (fs.length)) (nI (fsum fs + ops.length)) od (pa_wr c87 (800 * N + ce0) (out.map menc)) r88 r89 (upd r90 fs.length 0) r91 r92 r93), (mwL L w17), wQQ q)) 10 rfl ?_
            refine tv_rz rfl (by first | exact Or.inl rfl | exact Or.inr rfl) ⟨_, _, _, rfl, rfl, ?_⟩
            have e : pa_stP tx T p (kd, ph, bg, pr, ops) fs out = _ := stP_ld c128
            rw [pa_nr_l hr17] at e
            rw [e]
            exact ⟨by first | exact Or.inl rfl | exact Or.inr rfl, ⟨by decide, by decide, by first | omega | exact pa_sk8 (by omega) hT8⟩, ⟨_, _, _, _, _, _, _, _, _, _, _, _, _, _, rfl, fun j hj => by first | rfl | (simp only [upd_n (show j ≠ 800 * N + (ce0 + out.length) by omega), pa_wr_b (show j < 800 * N + ce0 by omega)]) | exact pa_wr_b (by omega)⟩⟩
        · have hd17 := pa_tk_lt (b := tx) (n := T) p17
          have hx17 := (pa_ed_le (b := tx) (n := T) (p := p) (by omega)).2
          refine tv_b (pc' := (if (t17 3) = 2 then 152 else 143)) (ls' := [some (.ref 80), some (.int (nI fs.length)), some (.int 0), none]) (st' := []) (h' := (n, sl, wKK kk, (mrI I t17 0 (-1) 0 (nI (ce0 + out.length)) (nI (fs.length + 1)) (nI (fs.length)) (nI (fsum fs + ops.length)) od (pa_wr c87 (800 * N + ce0) (out.map menc)) r88 r89 (upd r90 fs.length 0) r91 r92 r93), (mwL L w17), wQQ q)) 4 rfl ?_
          refine tv_if (fun c140 => ?_) (fun c140 => ?_)
          · refine tv_b (pc' := 159) (ls' := [some (.ref 80), some (.int (nI fs.length)), some (.int 0), none]) (st' := []) (h' := (n, sl, wKK kk, (mrI I t17 0 (-1) 0 (nI (ce0 + out.length)) (nI (fs.length + 1)) (nI (fs.length)) (nI (fsum fs + ops.length)) od (pa_wr c87 (800 * N + ce0) (out.map menc)) r88 r89 (upd r90 fs.length 0) r91 r92 r93), (mwL L w17), wQQ q)) 3 rfl ?_
            have h21 := (mr_num ht17).mp c140
            have hnl := pa_nm_lt (pa_nx_lf hr17) h21
            have hgL := pa_ed_gt (b := tx) (n := T) (p := p) (by omega)
            refine tv_b (pc' := 163) (ls' := [some (.ref 80), some (.int (nI fs.length)), some (.int 0), none]) (st' := [.int (t17 6)]) (h' := (n, sl, wKK kk, (mrI I t17 0 (-1) 0 (nI (ce0 + out.length)) (nI (fs.length + 1)) (nI (fs.length)) (nI (fsum fs + ops.length)) od (pa_wr c87 (800 * N + ce0) (out.map menc)) r88 r89 (upd r90 fs.length 0) r91 r92 r93), (mwL L w17), wQQ q)) 2 rfl ?_
            refine tv_top (mr_numv ht17 h21) ?_
            refine tv_b (pc' := (if (nI (pa_nm tx T p17)) ≤ 15 then 177 else 168)) (ls' := [some (.ref 80), some (.int (nI fs.length)), some (.int 0), none]) (st' := []) (h' := (n, sl, wKK kk, (mrI I t17 0 (-1) 0 (nI (ce0 + out.length)) (nI (fs.length + 1)) (nI (fs.length)) (nI (fsum fs + ops.length)) od (pa_wr c87 (800 * N + ce0) (out.map menc)) r88 r89 (upd r90 fs.length 0) r91 r92 r93), (mwL L w17), wQQ q)) 2 rfl ?_
            refine tv_ifq (nI_leI (a := (pa_nm tx T p17)) (b := 15) (by omega) (by omega)) (fun c165 => ?_) (fun c165 => ?_)
            · refine tv_b (pc' := 191) (ls' := [some (.ref 80), some (.int (nI fs.length)), some (.int 0), none]) (st' := [.int (t17 6), .int 8, .ref 80]) (h' := (n, sl, wKK kk, (mrI I t17 0 (-1) 0 (nI (ce0 + out.length)) (nI (fs.length + 1)) (nI (fs.length)) (nI (fsum fs + ops.length)) od (pa_wr c87 (800 * N + ce0) (out.map menc)) r88 r89 (upd r90 fs.length 0) r91 r92 r93), (mwL L w17), wQQ q)) 7 rfl ?_
              refine tv_top (mr_numv ht17 h21) ?_
              have hgA := pa_ed_gt (b := tx) (n := T) (p := p17) (by omega)
              refine tv_cvE [.int 8, .int (nI (pa_nm tx T p17))] [] rfl rfl (by omega) rfl (Nat.le_of_ble_eq_true rfl) (Nat.le_of_ble_eq_true rfl) (Or.inr (Or.inr rfl)) (ev_mr_add (x := 8) (v := (pa_nm tx T p17)) hN (by omega) (by omega) (by omega)) ?_
              refine tv_b (pc' := 202) (ls' := [some (.ref 80), some (.int (nI fs.length)), some (.int 0), none]) (st' := [.ref 80]) (h' := (n, sl, wKK kk, (mrI I t17 0 (-1) 0 (nI ((ce0 + out.length) + 1)) (nI (fs.length + 1)) (nI (fs.length)) (nI (fsum fs + ops.length)) od (upd (pa_wr c87 (800 * N + ce0) (out.map menc)) (800 * N + (ce0 + out.length)) (nI (8 * 16777216 + (pa_nm tx T p17)))) r88 r89 (upd r90 fs.length 0) r91 r92 r93), (mwL L w17), wQQ q)) 4 rfl ?_
              refine tv_cv [] [] rfl rfl (by omega) rfl (Nat.le_of_ble_eq_true rfl) (Nat.le_of_ble_eq_true rfl) (Or.inr (Or.inr rfl)) (tv_mr_nx hR (by omega) ht17) ?_
              rintro rv9 h9 ⟨rfl, ⟨f18, tf18, w18, hr18, hf18, rfl⟩ | ⟨p18, t18, w18, hr18, hq18, hp18, ht18, rfl⟩⟩
              · refine tv_b (pc' := 206) (ls' := [some (.ref 80), some (.int (nI fs.length)), some (.int 0), none]) (st' := [.int 1]) (h' := (n, sl, wKK kk, (mrI I tf18 1 (nI f18) 0 (nI ((ce0 + out.length) + 1)) (nI (fs.length + 1)) (nI (fs.length)) (nI (fsum fs + ops.length)) od (upd (pa_wr c87 (800 * N + ce0) (out.map menc)) (800 * N + (ce0 + out.length)) (nI (8 * 16777216 + (pa_nm tx T p17)))) r88 r89 (upd r90 fs.length 0) r91 r92 r93), (mwL L w18), wQQ q)) 1 rfl ?_
                refine tv_rz rfl (by first | exact Or.inl rfl | exact Or.inr rfl) ⟨_, _, _, rfl, rfl, ?_⟩
                have e : pa_stP tx T p (kd, ph, bg, pr, ops) fs out = _ := stP_ld c128
                rw [pa_nr_r hr17, if_pos h21, if_neg (by omega), pa_nr_l hr18] at e
                rw [e]
                exact ⟨by first | exact Or.inl rfl | exact Or.inr rfl, ⟨by decide, by decide, by first | omega | exact pa_sk8 (by omega) hT8⟩, ⟨_, _, _, _, _, _, _, _, _, _, _, _, _, _, rfl, fun j hj => by first | rfl | (simp only [upd_n (show j ≠ 800 * N + (ce0 + out.length) by omega), pa_wr_b (show j < 800 * N + ce0 by omega)]) | exact pa_wr_b (by omega)⟩⟩
              · have hd18 := pa_tk_lt (b := tx) (n := T) p18
                have hx18 := (pa_ed_le (b := tx) (n := T) (p := p17) (by omega)).2
                refine tv_b (pc' := 206) (ls' := [some (.ref 80), some (.int (nI fs.length)), some (.int 0), none]) (st' := [.int 1]) (h' := (n, sl, wKK kk, (mrI I t18 0 (-1) 0 (nI ((ce0 + out.length) + 1)) (nI (fs.length + 1)) (nI (fs.length)) (nI (fsum fs + ops.length)) od (upd (pa_wr c87 (800 * N + ce0) (out.map menc)) (800 * N + (ce0 + out.length)) (nI (8 * 16777216 + (pa_nm tx T p17)))) r88 r89 (upd r90 fs.length 0) r91 r92 r93), (mwL L w18), wQQ q)) 1 rfl ?_
                have e : pa_stP tx T p (kd, ph, bg, pr, ops) fs out = _ := stP_ld c128
                rw [pa_nr_r hr17, if_pos h21, if_neg (by omega), pa_nr_r hr18] at e
                have hg0 := pa_ed_gt (b := tx) (n := T) (p := p) (by omega)
                have hg := pa_ed_gt (b := tx) (n := T) (p := p17) (by omega)
                refine tv_rz rfl (by first | exact Or.inl rfl | exact Or.inr rfl) ⟨_, _, _, rfl, rfl, ?_⟩
                rw [e]
                rw [mr_wr]
                refine ⟨rfl, rfl, ⟨_, _, _, _, _, _, _, by rw [List.length_append]; rfl, ht18, frR_bg hfr⟩, ?_⟩
                unfold mrJ; simp only [fsum, List.length_cons, List.length_append, List.length_nil, Bool.false_eq_true, if_false, if_true]; omega
            · refine tv_b (pc' := 174) (ls' := [some (.ref 80), some (.int (nI fs.length)), some (.int 0), none]) (st' := [.int (t17 4), .int 4, .ref 80]) (h' := (n, sl, wKK kk, (mrI I t17 0 (-1) 0 (nI (ce0 + out.length)) (nI (fs.length + 1)) (nI (fs.length)) (nI (fsum fs + ops.length)) od (pa_wr c87 (800 * N + ce0) (out.map menc)) r88 r89 (upd r90 fs.length 0) r91 r92 r93), (mwL L w17), wQQ q)) 4 rfl ?_
              refine tv_top (ht17.1) ?_
              refine tv_cvE [.int 4, .int (nI (pa_sk tx T p17))] [] rfl rfl (by omega) rfl (Nat.le_of_ble_eq_true rfl) (Nat.le_of_ble_eq_true rfl) (Or.inr (Or.inr rfl)) (ev_mr_blame0) ?_
              refine tv_b (pc' := 206) (ls' := [some (.ref 80), some (.int (nI fs.length)), some (.int 0), none]) (st' := [.int 1]) (h' := (n, sl, wKK kk, (mrI I t17 4 (nI (pa_sk tx T p17)) 0 (nI (ce0 + out.length)) (nI (fs.length + 1)) (nI (fs.length)) (nI (fsum fs + ops.length)) od (pa_wr c87 (800 * N + ce0) (out.map menc)) r88 r89 (upd r90 fs.length 0) r91 r92 r93), (mwL L w17), wQQ q)) 7 rfl ?_
              refine tv_rz rfl (by first | exact Or.inl rfl | exact Or.inr rfl) ⟨_, _, _, rfl, rfl, ?_⟩
              have e : pa_stP tx T p (kd, ph, bg, pr, ops) fs out = _ := stP_ld c128
              rw [pa_nr_r hr17, if_pos h21, if_pos (by omega)] at e
              rw [e]
              exact ⟨by first | exact Or.inl rfl | exact Or.inr rfl, ⟨by decide, by decide, by first | omega | exact pa_sk8 (by omega) hT8⟩, ⟨_, _, _, _, _, _, _, _, _, _, _, _, _, _, rfl, fun j hj => by first | rfl | (simp only [upd_n (show j ≠ 800 * N + (ce0 + out.length) by omega), pa_wr_b (show j < 800 * N + ce0 by omega)]) | exact pa_wr_b (by omega)⟩⟩
          · refine tv_b (pc' := 149) (ls' := [some (.ref 80), some (.int (nI fs.length)), some (.int 0), none]) (st' := [.int (t17 4), .int 1, .ref 80]) (h' := (n, sl, wKK kk, (mrI I t17 0 (-1) 0 (nI (ce0 + out.length)) (nI (fs.length + 1)) (nI (fs.length)) (nI (fsum fs + ops.length)) od (pa_wr c87 (800 * N + ce0) (out.map menc)) r88 r89 (upd r90 fs.length 0) r91 r92 r93), (mwL L w17), wQQ q)) 4 rfl ?_
            refine tv_top (ht17.1) ?_
            refine tv_cvE [.int 1, .int (nI (pa_sk tx T p17))] [] rfl rfl (by omega) rfl (Nat.le_of_ble_eq_true rfl) (Nat.le_of_ble_eq_true rfl) (Or.inr (Or.inr rfl)) (ev_mr_blame0) ?_
            refine tv_b (pc' := 206) (ls' := [some (.ref 80), some (.int (nI fs.length)), some (.int 0), none]) (st' := [.int 1]) (h' := (n, sl, wKK kk, (mrI I t17 1 (nI (pa_sk tx T p17)) 0 (nI (ce0 + out.length)) (nI (fs.length + 1)) (nI (fs.length)) (nI (fsum fs + ops.length)) od (pa_wr c87 (800 * N + ce0) (out.map menc)) r88 r89 (upd r90 fs.length 0) r91 r92 r93), (mwL L w17), wQQ q)) 10 rfl ?_
            refine tv_rz rfl (by first | exact Or.inl rfl | exact Or.inr rfl) ⟨_, _, _, rfl, rfl, ?_⟩
            have e : pa_stP tx T p (kd, ph, bg, pr, ops) fs out = _ := stP_ld c128
            have hn21 : ¬ pa_tk tx T p17 = 21 := fun q => c140 ((mr_num ht17).mpr q)
            rw [pa_nr_r hr17, if_neg hn21] at e
            rw [e]
            exact ⟨by first | exact Or.inl rfl | exact Or.inr rfl, ⟨by decide, by decide, by first | omega | exact pa_sk8 (by omega) hT8⟩, ⟨_, _, _, _, _, _, _, _, _, _, _, _, _, _, rfl, fun j hj => by first | rfl | (simp only [upd_n (show j ≠ 800 * N + (ce0 + out.length) by omega), pa_wr_b (show j < 800 * N + ce0 by omega)]) | exact pa_wr_b (by omega)⟩⟩
