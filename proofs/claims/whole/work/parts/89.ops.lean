/-! LEAD, PIPE, FROST, READING: both sides answer alike -/
def ojR (n sl : Nat) (kk : Nat → Nat × Nat) (I : Nat → Nat → Int32) (L : Nat → Nat → Int64) (C : Nat) (M : Nat → List (Nat × Nat × List Nat)) (h2 : am_H) : Prop := ∃ n' sl' kk' I' L' q' C' ah', h2 = (n', sl', wKK kk', I', L', wQQ q') ∧ gInv n' kk' q' I' L' C' ah' M ∧ oFr n' kk kk' I I' L L' ∧ cntF I I' C' ∧ (n ≤ n' ∧ n' ≤ n + 2 ∧ sl' ≤ sl + 820) ∧ C ≤ C'
def ojQ (D mi : Nat) (ls : am_L) (R : am_H → Prop) (rv : Option Value) (h1 : am_H) : Prop := ∃ z : Int32, rv = some (.int z) ∧ am_T D mi 0 ls [] h1 (fun rv2 h2 => rv2 = some (.int z) ∧ R h2)
theorem oFr_refl {n : Nat} {kk : Nat → Nat × Nat} {I : Nat → Nat → Int32} {L : Nat → Nat → Int64} : oFr n kk kk I I L L := ⟨fun _ _ _ => rfl, fun _ _ => rfl, fun _ _ _ => rfl, fun _ _ _ => rfl, fun _ _ _ => rfl, fun _ _ => ⟨rfl, rfl⟩⟩
theorem cntF_refl {I : Nat → Nat → Int32} {C : Nat} : cntF I I C := ⟨0, 0, Nat.le_refl _, by omega, (Int32.add_zero _).symm, (Int32.add_zero _).symm, fun _ _ _ => rfl, fun _ _ _ => ⟨rfl, rfl, rfl, rfl, rfl⟩⟩
section OP
variable {d n sl C : Nat} {kk : Nat → Nat × Nat} {q : Nat → Nat → Option Nat} {I : Nat → Nat → Int32} {L : Nat → Nat → Int64} {ah : Nat → Nat} {M : Nat → List (Nat × Nat × List Nat)}
theorem ojR_same (g : gInv n kk q I L C ah M) : ojR n sl kk I L C M (n, sl, wKK kk, I, L, wQQ q) := ⟨n, sl, kk, I, L, q, C, ah, rfl, g, oFr_refl, cntF_refl, ⟨Nat.le_refl _, by omega, by omega⟩, Nat.le_refl _⟩
theorem ojR_gar (g : gInv n kk q I L C ah M) {r : Nat → Int32} : ojR n sl kk I L C M (n + 1, sl + 9, wKK (va_up kk n (0, 0)), va_up I n r, va_up L n (fun _ => 0), wQQ (qNew q n none)) := by
  obtain ⟨gT, gB, gG, gc, gm, gn⟩ := g
  have lo : ∀ j, j ≠ n → va_up I n r j = I j := fun j hj => va_n1 hj
  have hrE : rE (va_up I n r) I := ⟨fun j j1 j2 => lo j (by omega), by rw [lo 80 (by omega)], by rw [lo 80 (by omega)]⟩
  refine ⟨n + 1, sl + 9, _, _, _, _, C, ah, rfl, ⟨wfT_c hrE gT, wfB_c hrE gB, ?_, ?_, ?_, by omega⟩, ⟨fun j _ _ => lo j (by omega), fun j _ => lo j (by omega), fun j _ _ => lo j (by omega), fun k _ _ => by rw [lo 80 (by omega)], fun j _ _ => va_n1 (by omega), fun j hj => ⟨lo j (by omega), va_n1 (by omega)⟩⟩, ⟨0, 0, Nat.le_refl _, by omega, by rw [lo 55 (by omega)]; exact (Int32.add_zero _).symm, by rw [lo 13 (by omega)]; exact (Int32.add_zero _).symm, fun _ i _ => by rw [(kn_c hrE).2.2], fun i _ _ => by rw [lo 107 (by omega), lo 108 (by omega), lo 109 (by omega), lo 110 (by omega), lo 111 (by omega)]; exact ⟨rfl, rfl, rfl, rfl, rfl⟩⟩, ⟨by omega, by omega, by omega⟩, Nat.le_refl _⟩
  · exact cGr_m (by omega) (fun j hj => va_n1 (by omega)) (va_n1 (by omega)) (fun j hj => lo j (by omega)) (fun j h1 h2 => lo j (by omega)) (fun j hj => va_n1 (by omega)) (cGr_X hrE gG)
  · refine cCode_m (by omega) (fun j hj => va_n1 (by omega)) (fun i hi => ?_) (fun j h1 h2 _ => lo j (by omega)) (fun i hi => by rw [lo 107 (by omega)]) gc
    have := gG.2.2.1.1.2.1 i hi
    show va_up q n _ (ah i) 6 = _
    rw [va_n1 (by omega)]
  · intro r r1 r2 r3
    rw [lo 107 (by omega)] at r3
    rw [(kn_c hrE).1] at r2
    rw [lo 82 (by omega), lo 83 (by omega), lo 84 (by omega), lo 85 (by omega), lo 86 (by omega), lo 87 (by omega)]
    exact gm r r1 r2 r3
theorem he_ok (hB : wfB I) : ¬ I 80 45 = 200 → ¬ (I 80 45 + 1 < 0 ∨ 201 ≤ (I 80 45 + 1).toNatClampNeg) := by
  intro h
  have h2 := hB.1.2
  rw [hB.1.1] at h ⊢
  have h3 : nC I ≠ 200 := fun z => h (by rw [z]; rfl)
  have e : nI (nC I) + 1 = nI (nC I + 1) := nI_add _ 1
  rw [e, nI_clamp (by omega)]
  rintro (z | z)
  · exact nI_pos (by omega) z
  · omega
theorem sL_enter {s x a b c : Int32} : sL_m_enter s x a b c I L = L := by unfold sL_m_enter; split <;> rfl
theorem he2 {I' : Nat → Nat → Int32} (h : I' 80 45 = nI C) (hC : C ≤ 200) : ¬ I' 80 45 = 200 → ¬ (I' 80 45 + 1 < 0 ∨ 201 ≤ (I' 80 45 + 1).toNatClampNeg) := by
  intro h0
  rw [h] at h0 ⊢
  have h3 : C ≠ 200 := fun z => h0 (by rw [z]; rfl)
  have e : nI C + 1 = nI (C + 1) := nI_add _ 1
  rw [e, nI_clamp (by omega)]
  rintro (z | z)
  · exact nI_pos (by omega) z
  · omega
theorem sL_lead {t a x c : Int32} : sL_m_lead t a x c I L = L := by
  unfold sL_m_lead
  repeat' split
  all_goals first | rfl | exact sL_enter
theorem oj_lead (g : gInv n kk q I L C ah M) {t a x c : Int32} : am_T (d + 5) 117 0 (am_ent 5 [.ref 0, .int t, .int a, .int x, .int c]) [] (n, sl, wKK kk, I, L, wQQ q) (ojQ (d + 2) 192 (am_ent 5 [.ref 80, .int t, .int a, .int x, .int c]) (ojR n sl kk I L C M)) := by
  have gT := g.1
  have gB := g.2.1
  have gG := g.2.2.1
  have gn := g.2.2.2.2.2
  have hnC : nC I = C := gG.2.2.1.2.1
  have hC200 : C ≤ 200 := by rw [← hnC]; exact gB.1.2
  have h45 : I 80 45 = nI C := by rw [gB.1.1, hnC]
  have hno : ¬ okLead t a x c → am_T (d + 2) 192 0 (am_ent 5 [.ref 80, .int t, .int a, .int x, .int c]) [] (n, sl, wKK kk, I, L, wQQ q) (fun rv2 h2 => rv2 = some (.int (-1)) ∧ ojR n sl kk I L C M h2) := fun h => by
    have e := ev_m_lead (d := d) (n := n) (sl := sl) (k := kk) (q := q) (L := L) (he_ok gB) (t := t) (a := a) (b := x) (c := c)
    rw [((mlead_v (I := I) (L := L)).2 h).1, ((mlead_v (I := I) (L := L)).2 h).2, sL_lead] at e
    exact tv_e e ⟨rfl, ojR_same g⟩
  by_cases hC : C < 200
  · have hX : vlLead t a x c → wfB (entI I (nI (C + 1)) (upd (I 107) (C + 1) 0) (upd (I 108) (C + 1) x) (upd (I 109) (C + 1) t) (upd (I 110) (C + 1) a) (upd (I 111) (C + 1) c) (upd (I 112) (C + 1) 0)) ∧ enX I (entI I (nI (C + 1)) (upd (I 107) (C + 1) 0) (upd (I 108) (C + 1) x) (upd (I 109) (C + 1) t) (upd (I 110) (C + 1) a) (upd (I 111) (C + 1) c) (upd (I 112) (C + 1) 0)) C 0 x t a c := fun v => ⟨enX_B0 hC gB (enX_ent hnC) ent_v (wfA_lead hC (enX_ent hnC) (vlLead_ok.mp v)), enX_ent hnC⟩
    refine tv_w (tv_x_lead (d := d) (sl := sl) hC gB gG gn hX ent_v) (fun rv h1 ho => ?_)
    rcases ho with ⟨hv, rfl, rfl⟩ | ⟨hv, hw⟩
    · exact ⟨-1, rfl, hno (fun q => hv (vlLead_ok.mpr q))⟩
    · obtain ⟨rfl, I', L', q', rfl, k45, k1, k2, k3⟩ := wr_fin (s := 0) (x := x) (a := t) (b := a) (c := c) (by decide) hC g rfl (hX hv).1 hw
      refine ⟨nI (C + 1), rfl, ?_⟩
      have hok := vlLead_ok.mp hv
      have e := ev_m_lead (d := d) (n := n + 1) (sl := sl + 9) (k := va_up kk n (0, 0)) (q := q') (I := I') (L := L') (he2 k45 hC200) (t := t) (a := a) (b := x) (c := c)
      rw [((mlead_v (I := I') (L := L')).1 hok).1, ((mlead_v (I := I') (L := L')).1 hok).2, sL_lead, (ent_eq k45 hC).1] at e
      exact tv_e e ⟨rfl, _, _, _, _, _, _, _, _, rfl, k1, k2, k3, ⟨by omega, by omega, by omega⟩, by omega⟩
  · have hC2 : C = 200 := by omega
    have h2 : I 55 2 = nI 200 := by rw [gG.2.2.1.2.2.2.1, h45, hC2]
    refine tv_w (tv_x_leadF (d := d) (sl := sl) (L := L) h2 gn) (fun rv h1 ho => ?_)
    rcases ho with ⟨hv, rfl, rfl⟩ | ⟨hv, rfl, rfl⟩
    · exact ⟨-1, rfl, hno (fun q => hv (vlLead_ok.mpr q))⟩
    · refine ⟨-1, rfl, ?_⟩
      have hok := vlLead_ok.mp hv
      have e45 : (va_up I n (acR 0 x c 0 t a)) 80 45 = 200 := by rw [va_n1 (show 80 ≠ n by omega), h45, hC2]; rfl
      have e := ev_m_lead (d := d) (n := n + 1) (sl := sl + 9) (k := va_up kk n (0, 0)) (q := qNew q n none) (I := va_up I n (acR 0 x c 0 t a)) (L := va_up L n (fun _ => 0)) (fun q => absurd e45 q) (t := t) (a := a) (b := x) (c := c)
      rw [((mlead_v (I := va_up I n (acR 0 x c 0 t a)) (L := va_up L n (fun _ => 0))).1 hok).1, ((mlead_v (I := va_up I n (acR 0 x c 0 t a)) (L := va_up L n (fun _ => 0))).1 hok).2, sL_lead] at e
      have f1 : sp_m_enter 0 x t a c (va_up I n (acR 0 x c 0 t a)) (va_up L n (fun _ => 0)) = -1 := if_pos e45
      have f2 : sI_m_enter 0 x t a c (va_up I n (acR 0 x c 0 t a)) (va_up L n (fun _ => 0)) = va_up I n (acR 0 x c 0 t a) := if_pos e45
      rw [f1, f2] at e
      exact tv_e e ⟨rfl, ojR_gar g⟩
theorem sL_pipe {x c l : Int32} : sL_m_pipe x c l I L = L := by
  unfold sL_m_pipe
  repeat' split
  all_goals first | rfl | exact sL_enter
theorem oj_pipe (g : gInv n kk q I L C ah M) {x c l : Int32} : am_T (d + 5) 118 0 (am_ent 4 [.ref 0, .int x, .int c, .int l]) [] (n, sl, wKK kk, I, L, wQQ q) (ojQ (d + 2) 193 (am_ent 4 [.ref 80, .int x, .int c, .int l]) (ojR n sl kk I L C M)) := by
  have gT := g.1
  have gB := g.2.1
  have gG := g.2.2.1
  have gn := g.2.2.2.2.2
  have hnC : nC I = C := gG.2.2.1.2.1
  have hC200 : C ≤ 200 := by rw [← hnC]; exact gB.1.2
  have h45 : I 80 45 = nI C := by rw [gB.1.1, hnC]
  have hno : ¬ okPipe x c l → am_T (d + 2) 193 0 (am_ent 4 [.ref 80, .int x, .int c, .int l]) [] (n, sl, wKK kk, I, L, wQQ q) (fun rv2 h2 => rv2 = some (.int (-1)) ∧ ojR n sl kk I L C M h2) := fun h => by
    have e := ev_m_pipe (d := d) (n := n) (sl := sl) (k := kk) (q := q) (L := L) (he_ok gB) (x := x) (c := c) (l := l)
    rw [((mpipe_v (I := I) (L := L)).2 h).1, ((mpipe_v (I := I) (L := L)).2 h).2, sL_pipe] at e
    exact tv_e e ⟨rfl, ojR_same g⟩
  by_cases hC : C < 200
  · have hX : vlPipe x c l → wfB (entI I (nI (C + 1)) (upd (I 107) (C + 1) 1) (upd (I 108) (C + 1) x) (upd (I 109) (C + 1) c) (upd (I 110) (C + 1) l) (upd (I 111) (C + 1) 0) (upd (I 112) (C + 1) 0)) ∧ enX I (entI I (nI (C + 1)) (upd (I 107) (C + 1) 1) (upd (I 108) (C + 1) x) (upd (I 109) (C + 1) c) (upd (I 110) (C + 1) l) (upd (I 111) (C + 1) 0) (upd (I 112) (C + 1) 0)) C 1 x c l 0 := fun v => ⟨enX_B0 hC gB (enX_ent hnC) ent_v (wfA_pipe hC (enX_ent hnC) (vlPipe_ok.mp v)), enX_ent hnC⟩
    refine tv_w (tv_x_pipe (d := d) (sl := sl) hC gB gG gn hX ent_v) (fun rv h1 ho => ?_)
    rcases ho with ⟨hv, rfl, rfl⟩ | ⟨hv, hw⟩
    · exact ⟨-1, rfl, hno (fun q => hv (vlPipe_ok.mpr q))⟩
    · obtain ⟨rfl, I', L', q', rfl, k45, k1, k2, k3⟩ := wr_fin (s := 1) (x := x) (a := c) (b := l) (c := 0) (by decide) hC g rfl (hX hv).1 hw
      refine ⟨nI (C + 1), rfl, ?_⟩
      have hok := vlPipe_ok.mp hv
      have e := ev_m_pipe (d := d) (n := n + 1) (sl := sl + 9) (k := va_up kk n (0, 0)) (q := q') (I := I') (L := L') (he2 k45 hC200) (x := x) (c := c) (l := l)
      rw [((mpipe_v (I := I') (L := L')).1 hok).1, ((mpipe_v (I := I') (L := L')).1 hok).2, sL_pipe, (ent_eq k45 hC).1] at e
      exact tv_e e ⟨rfl, _, _, _, _, _, _, _, _, rfl, k1, k2, k3, ⟨by omega, by omega, by omega⟩, by omega⟩
  · have hC2 : C = 200 := by omega
    have h2 : I 55 2 = nI 200 := by rw [gG.2.2.1.2.2.2.1, h45, hC2]
    refine tv_w (tv_x_pipeF (d := d) (sl := sl) (L := L) h2 gn) (fun rv h1 ho => ?_)
    rcases ho with ⟨hv, rfl, rfl⟩ | ⟨hv, rfl, rfl⟩
    · exact ⟨-1, rfl, hno (fun q => hv (vlPipe_ok.mpr q))⟩
    · refine ⟨-1, rfl, ?_⟩
      have hok := vlPipe_ok.mp hv
      have e45 : (va_up I n (acR 1 x x c l 0)) 80 45 = 200 := by rw [va_n1 (show 80 ≠ n by omega), h45, hC2]; rfl
      have e := ev_m_pipe (d := d) (n := n + 1) (sl := sl + 9) (k := va_up kk n (0, 0)) (q := qNew q n none) (I := va_up I n (acR 1 x x c l 0)) (L := va_up L n (fun _ => 0)) (fun q => absurd e45 q) (x := x) (c := c) (l := l)
      rw [((mpipe_v (I := va_up I n (acR 1 x x c l 0)) (L := va_up L n (fun _ => 0))).1 hok).1, ((mpipe_v (I := va_up I n (acR 1 x x c l 0)) (L := va_up L n (fun _ => 0))).1 hok).2, sL_pipe] at e
      have f1 : sp_m_enter 1 x c l 0 (va_up I n (acR 1 x x c l 0)) (va_up L n (fun _ => 0)) = -1 := if_pos e45
      have f2 : sI_m_enter 1 x c l 0 (va_up I n (acR 1 x x c l 0)) (va_up L n (fun _ => 0)) = va_up I n (acR 1 x x c l 0) := if_pos e45
      rw [f1, f2] at e
      exact tv_e e ⟨rfl, ojR_gar g⟩
theorem sL_frost {x c : Int32} : sL_m_frost x c I L = L := by
  unfold sL_m_frost
  repeat' split
  all_goals first | rfl | exact sL_enter
theorem oj_frost (g : gInv n kk q I L C ah M) {x c : Int32} : am_T (d + 5) 119 0 (am_ent 3 [.ref 0, .int x, .int c]) [] (n, sl, wKK kk, I, L, wQQ q) (ojQ (d + 2) 194 (am_ent 3 [.ref 80, .int x, .int c]) (ojR n sl kk I L C M)) := by
  have gT := g.1
  have gB := g.2.1
  have gG := g.2.2.1
  have gn := g.2.2.2.2.2
  have hnC : nC I = C := gG.2.2.1.2.1
  have hC200 : C ≤ 200 := by rw [← hnC]; exact gB.1.2
  have h45 : I 80 45 = nI C := by rw [gB.1.1, hnC]
  have hno : ¬ okFrost x c → am_T (d + 2) 194 0 (am_ent 3 [.ref 80, .int x, .int c]) [] (n, sl, wKK kk, I, L, wQQ q) (fun rv2 h2 => rv2 = some (.int (-1)) ∧ ojR n sl kk I L C M h2) := fun h => by
    have e := ev_m_frost (d := d) (n := n) (sl := sl) (k := kk) (q := q) (L := L) (he_ok gB) (x := x) (c := c)
    rw [((mfrost_v (I := I) (L := L)).2 h).1, ((mfrost_v (I := I) (L := L)).2 h).2, sL_frost] at e
    exact tv_e e ⟨rfl, ojR_same g⟩
  by_cases hC : C < 200
  · have hX : vlFrost x c → wfB (entI I (nI (C + 1)) (upd (I 107) (C + 1) 2) (upd (I 108) (C + 1) x) (upd (I 109) (C + 1) c) (upd (I 110) (C + 1) 0) (upd (I 111) (C + 1) 0) (upd (I 112) (C + 1) 0)) ∧ enX I (entI I (nI (C + 1)) (upd (I 107) (C + 1) 2) (upd (I 108) (C + 1) x) (upd (I 109) (C + 1) c) (upd (I 110) (C + 1) 0) (upd (I 111) (C + 1) 0) (upd (I 112) (C + 1) 0)) C 2 x c 0 0 := fun v => ⟨enX_B0 hC gB (enX_ent hnC) ent_v (wfA_frost hC (enX_ent hnC) (vlFrost_ok.mp v)), enX_ent hnC⟩
    refine tv_w (tv_x_frost (d := d) (sl := sl) hC gB gG gn hX ent_v) (fun rv h1 ho => ?_)
    rcases ho with ⟨hv, rfl, rfl⟩ | ⟨hv, hw⟩
    · exact ⟨-1, rfl, hno (fun q => hv (vlFrost_ok.mpr q))⟩
    · obtain ⟨rfl, I', L', q', rfl, k45, k1, k2, k3⟩ := wr_fin (s := 2) (x := x) (a := c) (b := 0) (c := 0) (by decide) hC g rfl (hX hv).1 hw
      refine ⟨nI (C + 1), rfl, ?_⟩
      have hok := vlFrost_ok.mp hv
      have e := ev_m_frost (d := d) (n := n + 1) (sl := sl + 9) (k := va_up kk n (0, 0)) (q := q') (I := I') (L := L') (he2 k45 hC200) (x := x) (c := c)
      rw [((mfrost_v (I := I') (L := L')).1 hok).1, ((mfrost_v (I := I') (L := L')).1 hok).2, sL_frost, (ent_eq k45 hC).1] at e
      exact tv_e e ⟨rfl, _, _, _, _, _, _, _, _, rfl, k1, k2, k3, ⟨by omega, by omega, by omega⟩, by omega⟩
  · have hC2 : C = 200 := by omega
    have h2 : I 55 2 = nI 200 := by rw [gG.2.2.1.2.2.2.1, h45, hC2]
    refine tv_w (tv_x_frostF (d := d) (sl := sl) (L := L) h2 gn) (fun rv h1 ho => ?_)
    rcases ho with ⟨hv, rfl, rfl⟩ | ⟨hv, rfl, rfl⟩
    · exact ⟨-1, rfl, hno (fun q => hv (vlFrost_ok.mpr q))⟩
    · refine ⟨-1, rfl, ?_⟩
      have hok := vlFrost_ok.mp hv
      have e45 : (va_up I n (acR 2 x x c 1 0)) 80 45 = 200 := by rw [va_n1 (show 80 ≠ n by omega), h45, hC2]; rfl
      have e := ev_m_frost (d := d) (n := n + 1) (sl := sl + 9) (k := va_up kk n (0, 0)) (q := qNew q n none) (I := va_up I n (acR 2 x x c 1 0)) (L := va_up L n (fun _ => 0)) (fun q => absurd e45 q) (x := x) (c := c)
      rw [((mfrost_v (I := va_up I n (acR 2 x x c 1 0)) (L := va_up L n (fun _ => 0))).1 hok).1, ((mfrost_v (I := va_up I n (acR 2 x x c 1 0)) (L := va_up L n (fun _ => 0))).1 hok).2, sL_frost] at e
      have f1 : sp_m_enter 2 x c 0 0 (va_up I n (acR 2 x x c 1 0)) (va_up L n (fun _ => 0)) = -1 := if_pos e45
      have f2 : sI_m_enter 2 x c 0 0 (va_up I n (acR 2 x x c 1 0)) (va_up L n (fun _ => 0)) = va_up I n (acR 2 x x c 1 0) := if_pos e45
      rw [f1, f2] at e
      exact tv_e e ⟨rfl, ojR_gar g⟩
theorem sL_reading {g0 x e0 : Int32} : sL_m_reading g0 x e0 I L = L := by
  unfold sL_m_reading
  repeat' split
  all_goals first | rfl | exact sL_enter
theorem oj_reading (g : gInv n kk q I L C ah M) {g0 x e0 : Int32} : am_T (d + 5) 120 0 (am_ent 4 [.ref 0, .int g0, .int x, .int e0]) [] (n, sl, wKK kk, I, L, wQQ q) (ojQ (d + 2) 195 (am_ent 4 [.ref 80, .int g0, .int x, .int e0]) (ojR n sl kk I L C M)) := by
  have gT := g.1
  have gB := g.2.1
  have gG := g.2.2.1
  have gn := g.2.2.2.2.2
  have hnC : nC I = C := gG.2.2.1.2.1
  have hC200 : C ≤ 200 := by rw [← hnC]; exact gB.1.2
  have h45 : I 80 45 = nI C := by rw [gB.1.1, hnC]
  have hno : ¬ okRead g0 x e0 → am_T (d + 2) 195 0 (am_ent 4 [.ref 80, .int g0, .int x, .int e0]) [] (n, sl, wKK kk, I, L, wQQ q) (fun rv2 h2 => rv2 = some (.int (-1)) ∧ ojR n sl kk I L C M h2) := fun h => by
    have e := ev_m_reading (d := d) (n := n) (sl := sl) (k := kk) (q := q) (L := L) (he_ok gB) (g := g0) (x := x) (e := e0)
    rw [((mread_v (I := I) (L := L)).2 h).1, ((mread_v (I := I) (L := L)).2 h).2, sL_reading] at e
    exact tv_e e ⟨rfl, ojR_same g⟩
  by_cases hC : C < 200
  · have hX : vlRead g0 x e0 → wfB (entI I (nI (C + 1)) (upd (I 107) (C + 1) 3) (upd (I 108) (C + 1) x) (upd (I 109) (C + 1) g0) (upd (I 110) (C + 1) e0) (upd (I 111) (C + 1) 0) (upd (I 112) (C + 1) 0)) ∧ enX I (entI I (nI (C + 1)) (upd (I 107) (C + 1) 3) (upd (I 108) (C + 1) x) (upd (I 109) (C + 1) g0) (upd (I 110) (C + 1) e0) (upd (I 111) (C + 1) 0) (upd (I 112) (C + 1) 0)) C 3 x g0 e0 0 := fun v => ⟨enX_B0 hC gB (enX_ent hnC) ent_v (wfA_read hC (enX_ent hnC) (vlRead_ok.mp v)), enX_ent hnC⟩
    refine tv_w (tv_x_reading (d := d) (sl := sl) hC gB gG gn hX ent_v) (fun rv h1 ho => ?_)
    rcases ho with ⟨hv, rfl, rfl⟩ | ⟨hv, hw⟩
    · exact ⟨-1, rfl, hno (fun q => hv (vlRead_ok.mpr q))⟩
    · obtain ⟨rfl, I', L', q', rfl, k45, k1, k2, k3⟩ := wr_fin (s := 3) (x := x) (a := g0) (b := e0) (c := 0) (by decide) hC g rfl (hX hv).1 hw
      refine ⟨nI (C + 1), rfl, ?_⟩
      have hok := vlRead_ok.mp hv
      have e := ev_m_reading (d := d) (n := n + 1) (sl := sl + 9) (k := va_up kk n (0, 0)) (q := q') (I := I') (L := L') (he2 k45 hC200) (g := g0) (x := x) (e := e0)
      rw [((mread_v (I := I') (L := L')).1 hok).1, ((mread_v (I := I') (L := L')).1 hok).2, sL_reading, (ent_eq k45 hC).1] at e
      exact tv_e e ⟨rfl, _, _, _, _, _, _, _, _, rfl, k1, k2, k3, ⟨by omega, by omega, by omega⟩, by omega⟩
  · have hC2 : C = 200 := by omega
    have h2 : I 55 2 = nI 200 := by rw [gG.2.2.1.2.2.2.1, h45, hC2]
    refine tv_w (tv_x_readingF (d := d) (sl := sl) (L := L) h2 gn) (fun rv h1 ho => ?_)
    rcases ho with ⟨hv, rfl, rfl⟩ | ⟨hv, rfl, rfl⟩
    · exact ⟨-1, rfl, hno (fun q => hv (vlRead_ok.mpr q))⟩
    · refine ⟨-1, rfl, ?_⟩
      have hok := vlRead_ok.mp hv
      have e45 : (va_up I n (acR 3 x x g0 e0 0)) 80 45 = 200 := by rw [va_n1 (show 80 ≠ n by omega), h45, hC2]; rfl
      have e := ev_m_reading (d := d) (n := n + 1) (sl := sl + 9) (k := va_up kk n (0, 0)) (q := qNew q n none) (I := va_up I n (acR 3 x x g0 e0 0)) (L := va_up L n (fun _ => 0)) (fun q => absurd e45 q) (g := g0) (x := x) (e := e0)
      rw [((mread_v (I := va_up I n (acR 3 x x g0 e0 0)) (L := va_up L n (fun _ => 0))).1 hok).1, ((mread_v (I := va_up I n (acR 3 x x g0 e0 0)) (L := va_up L n (fun _ => 0))).1 hok).2, sL_reading] at e
      have f1 : sp_m_enter 3 x g0 e0 0 (va_up I n (acR 3 x x g0 e0 0)) (va_up L n (fun _ => 0)) = -1 := if_pos e45
      have f2 : sI_m_enter 3 x g0 e0 0 (va_up I n (acR 3 x x g0 e0 0)) (va_up L n (fun _ => 0)) = va_up I n (acR 3 x x g0 e0 0) := if_pos e45
      rw [f1, f2] at e
      exact tv_e e ⟨rfl, ojR_gar g⟩
end OP
