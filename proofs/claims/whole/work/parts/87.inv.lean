/-! THE GROUND UNDER OTHER ROWS OF THE REFERENCE -/
theorem ws_c {X Y : Nat → Nat → Int32} (h : rE Y X) (hf : ∀ d, gLd Y (kn Y) d = gLd X (kn X) d) : ∀ D, wsZ Y D = wsZ X D ∧ drZ Y D = drZ X D := by
  intro D
  induction D with
  | zero => exact ⟨rfl, rfl⟩
  | succ D ih =>
    refine ⟨?_, ?_⟩
    · show max (wsZ Y D) (pS Y (D + 1)).2 = max (wsZ X D) (pS X (D + 1)).2
      rw [ih.1, pS_c h]
    · show drZ Y D + gLd Y (kn Y) D = drZ X D + gLd X (kn X) D
      rw [ih.2, hf]
theorem cGr_X {n C : Nat} {kk : Nat → Nat × Nat} {q : Nat → Nat → Option Nat} {I X Y : Nat → Nat → Int32} {L : Nat → Nat → Int64} {ah : Nat → Nat} (h : rE Y X) (g : cGr n kk q I L X C ah) : cGr n kk q I L Y C ah := by
  obtain ⟨kc1, kc2, kc3⟩ := kn_c h
  have hg := g_c h (kn Y)
  have hwk := (dG_c h).2.2.2.2
  have hws := ws_c h (fun d => by rw [hg.2.2.2.1 d, kc3])
  have hr := h.1
  obtain ⟨g1, g2, ⟨b0, b4, b5, b6, b7, b8⟩, g4, ⟨R, r1, r2, r3⟩⟩ := g
  refine ⟨?_, ?_, ⟨b0, by rw [kc1]; exact b4, fun i hi => cAct_r rfl ⟨(congrFun (hr 107 (by decide) (by decide)) _).symm, (congrFun (hr 108 (by decide) (by decide)) _).symm, (congrFun (hr 109 (by decide) (by decide)) _).symm, (congrFun (hr 110 (by decide) (by decide)) _).symm, (congrFun (hr 111 (by decide) (by decide)) _).symm, (congrFun (hr 112 (by decide) (by decide)) _).symm⟩ (b5 i hi), by rw [h.2.1]; exact b6, by rw [h.2.2]; exact b7, fun i hi => by rw [kc3]; exact b8 i hi⟩, fun d hd => ?_, R, r1, r2, fun D hD => ?_⟩
  · unfold cTow
    rw [hr 94 (by decide) (by decide), hr 95 (by decide) (by decide), hr 96 (by decide) (by decide), hr 97 (by decide) (by decide), hr 98 (by decide) (by decide), hr 99 (by decide) (by decide)]
    exact g1
  · unfold cWet
    rw [hr 100 (by decide) (by decide), hr 101 (by decide) (by decide)]
    exact g2
  · obtain ⟨q1, q2, q3, q4⟩ := g4 d hd
    refine ⟨by rw [hg.1, kc3]; exact q1, by rw [hg.2.1, kc3]; exact q2, by rw [hg.2.2.2.1, kc3]; exact q3, fun c hc => by rw [hwk, kc3]; exact q4 c hc⟩
  · obtain ⟨q1, q2, q3, q4⟩ := r3 D hD
    exact ⟨by rw [pS_c h]; exact q1, by rw [(hws D).1]; exact q2, by rw [(hws D).2]; exact q3, fun c hc => by rw [pS_c h]; exact q4 c hc⟩
/-- codes stay where rows stay -/
theorem cCode_m {n n' C : Nat} {kk kk' : Nat → Nat × Nat} {q q' : Nat → Nat → Option Nat} {I I' X Y : Nat → Nat → Int32} {ah : Nat → Nat} {M : Nat → List (Nat × Nat × List Nat)} (hn : n ≤ n') (hk : ∀ j, j < n → kk' j = kk j) (hq : ∀ i, i < C → q' (ah i) 6 = q (ah i) 6) (hI : ∀ j, 131 ≤ j → j < n → kk j ≠ (0, 0) → I' j = I j) (hX : ∀ i, i < C → Y 107 (i + 1) = X 107 (i + 1)) (h : cCode n kk q I X C ah M) : cCode n' kk' q' I' Y C ah M := by
  intro i hi h4
  obtain ⟨cod, q1, q2, q3, q4, q5, q6, q7, q8⟩ := h i hi (by rw [← hX i hi]; exact h4)
  refine ⟨cod, by rw [hq i hi]; exact q1, q2, by omega, by rw [hk cod q3]; exact q4, q5, fun j hj => ?_, q7, q8⟩
  rw [hI cod q2 q3 (by rw [q4]; intro z; have := (Prod.mk.inj z).1; omega)]
  exact q6 j hj
/-- the reference's rows with an act more -/
theorem enX_ent {I : Nat → Nat → Int32} {C : Nat} {s x a b c : Int32} (hC : nC I = C) : enX I (entI I (nI (C + 1)) (upd (I 107) (C + 1) s) (upd (I 108) (C + 1) x) (upd (I 109) (C + 1) a) (upd (I 110) (C + 1) b) (upd (I 111) (C + 1) c) (upd (I 112) (C + 1) 0)) C s x a b c := by
  refine ⟨hC, rfl, rfl, fun j h1 h2 => ?_, fun n h1 h2 => ?_, upd_e, upd_e, upd_e, upd_e, upd_e, upd_e⟩
  · funext i
    unfold entI
    rw [rdI_nb (show j ≠ 80 by omega), rdI_nb (show j ≠ 107 by omega), rdI_nb (show j ≠ 108 by omega), rdI_nb (show j ≠ 109 by omega), rdI_nb (show j ≠ 110 by omega), rdI_nb (show j ≠ 111 by omega), rdI_nb (show j ≠ 112 by omega)]
    rfl
  · exact ⟨(upd_n (by omega)).symm, (upd_n (by omega)).symm, (upd_n (by omega)).symm, (upd_n (by omega)).symm, (upd_n (by omega)).symm⟩
theorem ent_v {I : Nat → Nat → Int32} {C : Nat} {s x a b c ac : Int32} : ∀ i, 1 ≤ i → i ≤ C → (entI I ac (upd (I 107) (C + 1) s) (upd (I 108) (C + 1) x) (upd (I 109) (C + 1) a) (upd (I 110) (C + 1) b) (upd (I 111) (C + 1) c) (upd (I 112) (C + 1) 0)) 112 i = I 112 i := fun i h1 h2 => upd_n (by omega)
theorem enX_B0 {X0 X : Nat → Nat → Int32} {C : Nat} {s x a b c : Int32} (hC : C < 200) (hB : wfB X0) (h : enX X0 X C s x a b c) (hv : ∀ i, 1 ≤ i → i ≤ C → X 112 i = X0 112 i) (hA : wfA X (C + 1)) : wfB X := by
  have h0 := h.1
  refine enX_B hC hB h (fun i h1 h2 => ?_) hA
  obtain ⟨w1, w2⟩ := (hB.2.2 i h1 (by omega)).1
  unfold vdN at w1 w2 ⊢
  rw [hv i h1 h2]
  exact ⟨w1, by omega⟩
theorem wfT_r {X0 X : Nat → Nat → Int32} (h : rT X0 X) (hT : wfT X0) : wfT X := by
  unfold wfT
  rw [← h 94 (by decide) (by decide), ← h 95 (by decide) (by decide), ← h 96 (by decide) (by decide), ← h 97 (by decide) (by decide), ← h 98 (by decide) (by decide), ← h 99 (by decide) (by decide), ← h 100 (by decide) (by decide)]
  exact hT
/-- a new act is well formed -/
theorem wfA_lead {X0 X : Nat → Nat → Int32} {C : Nat} {t a x c : Int32} (hC : C < 200) (h : enX X0 X C 0 x t a c) (ok : okLead t a x c) : wfA X (C + 1) := by
  have e := enX_nC hC h
  obtain ⟨_, _, _, _, _, e1, e2, e3, e4, e5, e6⟩ := h
  obtain ⟨o1, o2, o3, o4, o5⟩ := ok
  have hx := x_nI o3
  have hc := x_nI (x := c) (by omega)
  have d1 : dyN X (C + 1) = x.toInt.toNat := by unfold dyN; rw [e2]; rfl
  have d2 : thN X (C + 1) = c.toInt.toNat := by unfold thN; rw [e5]; rfl
  refine ⟨⟨by unfold vdN; rw [e6]; rfl, by unfold vdN; rw [e6]; exact Nat.zero_le _⟩, by rw [e2, d1]; exact hx, by omega, Or.inl ⟨e1, by rw [e5, d2]; exact hc, by omega, by omega, by rw [e3]; exact o1.1, by rw [e3]; exact o1.2, by rw [e4]; exact o2.1, by rw [e4]; exact o2.2⟩⟩
theorem wfA_pipe {X0 X : Nat → Nat → Int32} {C : Nat} {x c l z : Int32} (hC : C < 200) (h : enX X0 X C 1 x c l z) (ok : okPipe x c l) : wfA X (C + 1) := by
  obtain ⟨_, _, _, _, _, e1, e2, e3, e4, e5, e6⟩ := h
  obtain ⟨o1, o2, o3⟩ := ok
  have hx := x_nI o1.1
  have hc := x_nI o2.1
  have d1 : dyN X (C + 1) = x.toInt.toNat := by unfold dyN; rw [e2]; rfl
  have d2 : clN X (C + 1) = c.toInt.toNat := by unfold clN; rw [e3]; rfl
  exact ⟨⟨by unfold vdN; rw [e6]; rfl, by unfold vdN; rw [e6]; exact Nat.zero_le _⟩, by rw [e2, d1]; exact hx, by omega, Or.inr (Or.inl ⟨e1, by rw [e3, d2]; exact hc, by omega, by rw [e4]; exact o3.1, by rw [e4]; exact o3.2⟩)⟩
theorem wfA_frost {X0 X : Nat → Nat → Int32} {C : Nat} {x c y z : Int32} (hC : C < 200) (h : enX X0 X C 2 x c y z) (ok : okFrost x c) : wfA X (C + 1) := by
  obtain ⟨_, _, _, _, _, e1, e2, e3, e4, e5, e6⟩ := h
  obtain ⟨o1, o2⟩ := ok
  have hx := x_nI o1.1
  have hc := x_nI o2.1
  have d1 : dyN X (C + 1) = x.toInt.toNat := by unfold dyN; rw [e2]; rfl
  have d2 : clN X (C + 1) = c.toInt.toNat := by unfold clN; rw [e3]; rfl
  exact ⟨⟨by unfold vdN; rw [e6]; rfl, by unfold vdN; rw [e6]; exact Nat.zero_le _⟩, by rw [e2, d1]; exact hx, by omega, Or.inr (Or.inr (Or.inl ⟨e1, by rw [e3, d2]; exact hc, by omega⟩))⟩
theorem wfA_read {X0 X : Nat → Nat → Int32} {C : Nat} {g x e z : Int32} (hC : C < 200) (h : enX X0 X C 3 x g e z) (ok : okRead g x e) : wfA X (C + 1) := by
  obtain ⟨_, _, _, _, _, e1, e2, e3, e4, e5, e6⟩ := h
  obtain ⟨o1, o2, o3⟩ := ok
  have hx := x_nI o2.1
  have hc := x_nI o1.1
  have d1 : dyN X (C + 1) = x.toInt.toNat := by unfold dyN; rw [e2]; rfl
  have d2 : clN X (C + 1) = g.toInt.toNat := by unfold clN; rw [e3]; rfl
  exact ⟨⟨by unfold vdN; rw [e6]; rfl, by unfold vdN; rw [e6]; exact Nat.zero_le _⟩, by rw [e2, d1]; exact hx, by omega, Or.inr (Or.inr (Or.inr (Or.inl ⟨e1, by rw [e3, d2]; exact hc, by omega, by rw [e4]; exact o3.1, by rw [e4]; exact o3.2⟩)))⟩
theorem wfA_mand {X0 X : Nat → Nat → Int32} {C : Nat} {x a b c : Int32} (hC : C < 200) (h : enX X0 X C 4 x a b c) (ok : 0 ≤ x.toInt ∧ x.toInt < 400) : wfA X (C + 1) := by
  obtain ⟨_, _, _, _, _, e1, e2, e3, e4, e5, e6⟩ := h
  have hx := x_nI ok.1
  have d1 : dyN X (C + 1) = x.toInt.toNat := by unfold dyN; rw [e2]; rfl
  exact ⟨⟨by unfold vdN; rw [e6]; rfl, by unfold vdN; rw [e6]; exact Nat.zero_le _⟩, by rw [e2, d1]; exact hx, by omega, Or.inr (Or.inr (Or.inr (Or.inr (Or.inl e1))))⟩
theorem wfA_void {X0 X : Nat → Nat → Int32} {C : Nat} {a b c : Int32} (hC : C < 200) (h : enX X0 X C 5 0 a b c) : wfA X (C + 1) := by
  obtain ⟨_, _, _, _, _, e1, e2, e3, e4, e5, e6⟩ := h
  have d1 : dyN X (C + 1) = 0 := by unfold dyN; rw [e2]; rfl
  exact ⟨⟨by unfold vdN; rw [e6]; rfl, by unfold vdN; rw [e6]; exact Nat.zero_le _⟩, by rw [e2, d1]; rfl, by omega, Or.inr (Or.inr (Or.inr (Or.inr (Or.inr e1))))⟩
