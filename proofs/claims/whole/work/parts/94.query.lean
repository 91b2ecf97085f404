/-! THE DAYS REACHED, THE GROUND PLAYED -/
theorem gx_ok {I : Nat → Nat → Int32} {L : Nat → Nat → Int64} (hB : wfB I) : ∀ j, j < (sp_m_now I L).toNatClampNeg → I 107 (j + 1) = 1 ∨ I 107 (j + 1) = 2 → ¬ (16 * I 108 (j + 1) + I 109 (j + 1) < 0 ∨ 6400 ≤ (16 * I 108 (j + 1) + I 109 (j + 1)).toNatClampNeg) := by
  intro j hj h
  rw [now_cl hB] at hj
  have hn := (nNow_v hB).2
  obtain ⟨_, h1, h2, h3⟩ := hB.2.2 (j + 1) (by omega) (by omega)
  have hc : I 109 (j + 1) = nI (clN I (j + 1)) ∧ clN I (j + 1) < 16 := by
    rcases h3 with a | a | a | a | a | a
    · exfalso; rw [a.1] at h; exact h.elim (fun z => absurd z (by decide)) (fun z => absurd z (by decide))
    · exact ⟨a.2.1, a.2.2.1⟩
    · exact ⟨a.2.1, a.2.2⟩
    · exfalso; rw [a.1] at h; exact h.elim (fun z => absurd z (by decide)) (fun z => absurd z (by decide))
    · exfalso; rw [a] at h; exact h.elim (fun z => absurd z (by decide)) (fun z => absurd z (by decide))
    · exfalso; rw [a] at h; exact h.elim (fun z => absurd z (by decide)) (fun z => absurd z (by decide))
  have e : 16 * I 108 (j + 1) + I 109 (j + 1) = nI (16 * dyN I (j + 1) + clN I (j + 1)) := by
    rw [h1, hc.1, nI_j, nI_j, nI_j, show (16 : Int32) = jI 16 from rfl, jI_mul, jI_add]
    exact congrArg jI (by omega)
  rw [e, nI_clamp (by omega)]
  rintro (z | z)
  · exact nI_pos (by omega) z
  · omega
theorem gl_ok {I : Nat → Nat → Int32} {L : Nat → Nat → Int64} (hB : wfB I) : ∀ j, j < (sp_m_now I L).toNatClampNeg → I 107 (j + 1) = 0 → I 108 (j + 1) = nI (I 108 (j + 1)).toNatClampNeg ∧ I 111 (j + 1) = nI (I 111 (j + 1)).toNatClampNeg ∧ (I 108 (j + 1)).toNatClampNeg ≤ (I 111 (j + 1)).toNatClampNeg + 1 ∧ (I 111 (j + 1)).toNatClampNeg < 400 := by
  intro j hj h
  rw [now_cl hB] at hj
  have hn := (nNow_v hB).2
  obtain ⟨_, h1, h2, h3⟩ := hB.2.2 (j + 1) (by omega) (by omega)
  rcases h3 with a | a | a | a | a | a
  · exact ⟨h1, a.2.1, Nat.le_succ_of_le a.2.2.1, a.2.2.2.1⟩
  · exfalso; rw [h] at a; exact absurd a.1 (by decide)
  · exfalso; rw [h] at a; exact absurd a.1 (by decide)
  · exfalso; rw [h] at a; exact absurd a.1 (by decide)
  · exfalso; rw [h] at a; exact absurd a (by decide)
  · exfalso; rw [h] at a; exact absurd a (by decide)
/-- the rows that any call on the ground leaves -/
def oFw (n' : Nat) (kk kk' : Nat → Nat × Nat) (I I' : Nat → Nat → Int32) (L L' : Nat → Nat → Int64) : Prop := (∀ j, 57 ≤ j → j < 80 → I' j = I j) ∧ (∀ j, j < 13 → I' j = I j) ∧ (∀ j, (j = 81 ∨ (94 ≤ j ∧ j ≤ 106) ∨ 119 ≤ j) → j < 127 → I' j = I j) ∧ (∀ k, k ≠ 45 → k ≠ 46 → I' 80 k = I 80 k) ∧ (∀ j, 57 ≤ j → j < 80 → L' j = L j) ∧ (∀ j, n' ≤ j → I' j = I j ∧ kk' j = kk j)
theorem oFr_w {n' : Nat} {kk kk' : Nat → Nat × Nat} {I I' : Nat → Nat → Int32} {L L' : Nat → Nat → Int64} (h : oFr n' kk kk' I I' L L') : oFw n' kk kk' I I' L L' := ⟨h.1, h.2.1, fun j j1 j2 => h.2.2.1 j (by omega) j2, h.2.2.2.1, fun j j1 j2 => h.2.2.2.2.1 j j1 (by omega), h.2.2.2.2.2⟩
theorem oFw_t {n' : Nat} {kk : Nat → Nat × Nat} {I I' J : Nat → Nat → Int32} {L L' K : Nat → Nat → Int64} (a : oFw n' kk kk I I' L L') (b : oFw n' kk kk I' J L' K) : oFw n' kk kk I J L K := ⟨fun j j1 j2 => (b.1 j j1 j2).trans (a.1 j j1 j2), fun j j1 => (b.2.1 j j1).trans (a.2.1 j j1), fun j j1 j2 => (b.2.2.1 j j1 j2).trans (a.2.2.1 j j1 j2), fun k k1 k2 => (b.2.2.2.1 k k1 k2).trans (a.2.2.2.1 k k1 k2), fun j j1 j2 => (b.2.2.2.2.1 j j1 j2).trans (a.2.2.2.2.1 j j1 j2), fun j j1 => ⟨(b.2.2.2.2.2 j j1).1.trans (a.2.2.2.2.2 j j1).1, rfl⟩⟩
section QU
variable {n sl C : Nat} {kk : Nat → Nat × Nat} {q : Nat → Nat → Option Nat} {I : Nat → Nat → Int32} {L : Nat → Nat → Int64} {ah : Nat → Nat} {M : Nat → List (Nat × Nat × List Nat)}
theorem reach_g (g : gInv n kk q I L C ah M) {D : Nat} (hD : D ≤ 400) : gInv n kk q (sI_d_reach D I L) (sL_d_reach D I L) C ah M ∧ (∀ E, E ≤ D → cRow (sI_d_reach D I L) (sL_d_reach D I L) (sI_d_reach D I L) E) ∧ oFw n kk kk I (sI_d_reach D I L) L (sL_d_reach D I L) ∧ (∀ j, 80 ≤ j → sI_d_reach D I L j = I j) ∧ sI_d_reach D I L 55 = I 55 ∧ sI_d_reach D I L 13 12 = I 13 12 ∧ (I 13 11 = nI (I 13 11).toNatClampNeg ∧ (I 13 11).toNatClampNeg ≤ 400) ∧ (∀ E, pS (sI_d_reach D I L) E = pS I E) ∧ (∀ j, I 14 j ≤ 1000) := by
  obtain ⟨gT, gB, ⟨c1, c2, ⟨⟨b1, b2, b3⟩, b4, b5, b6, b7, b8⟩, c4, c5⟩, gc, gm, gn⟩ := g
  obtain ⟨r1, r2, r3, r4, r5, r6⟩ := reach_v c1 c2 c4 gT gB c5 hD
  have h14 : ∀ j, I 14 j ≤ 1000 := fun j => by rw [c1.1]; exact gT.2.1 j
  generalize sI_d_reach D I L = J at r1 r2 r3 r4 r5 ⊢
  generalize sL_d_reach D I L = K at r1 r2 r3 r5 ⊢
  have hlo : ∀ j, j ≠ 13 → (j < 52 ∨ 54 < j) → J j = I j := fun j j1 j2 => r3 j j1 (by omega) (by omega) (by omega)
  have hrE : rE J I := ⟨fun j j1 j2 => hlo j (by omega) (by omega), by rw [hlo 80 (by decide) (by omega)], by rw [hlo 80 (by decide) (by omega)]⟩
  have hws := ws_c hrE (fun d => by rw [(g_c hrE _).2.2.2.1 d, (kn_c hrE).2.2])
  have hah : ∀ i, i < C → 131 ≤ ah i := fun i hi => (b1 i hi).2.1
  have hcg : cGr n kk q J K I C ah := by
    refine ⟨?_, ?_, ⟨⟨b1, b2, b3⟩, b4, fun i hi => cAct_r (hlo _ (by have := hah i hi; omega) (by have := hah i hi; omega)) ⟨rfl, rfl, rfl, rfl, rfl, rfl⟩ (b5 i hi), by rw [hlo 55 (by decide) (by omega)]; exact b6, by rw [hlo 55 (by decide) (by omega)]; exact b7, fun i hi => by rw [hlo _ (by have := hah i hi; omega) (by have := hah i hi; omega)]; exact b8 i hi⟩, cSum_xy (fun d _ => sXY_r) (hlo 15 (by decide) (by omega)) (hlo 17 (by decide) (by omega)) (fun c hc => hlo _ (by omega) (by omega)) (r5 16 (by omega)) c4, r2⟩
    · unfold cTow
      rw [hlo 14 (by decide) (by omega), hlo 8 (by decide) (by omega), hlo 9 (by decide) (by omega), hlo 10 (by decide) (by omega), hlo 11 (by decide) (by omega), hlo 12 (by decide) (by omega)]
      exact c1
    · unfold cWet
      rw [hlo 2 (by decide) (by omega)]
      exact c2
  refine ⟨⟨wfT_c hrE gT, wfB_c hrE gB, cGr_X hrE hcg, cCode_m (Nat.le_refl _) (fun _ _ => rfl) (fun _ _ => rfl) (fun j j1 j2 _ => hlo j (by omega) (by omega)) (fun i hi => by rw [hlo 107 (by decide) (by omega)]) gc, fun r r1 r2 r3 => ?_, gn⟩, fun E hE => ?_, ⟨fun j j1 j2 => hlo j (by omega) (by omega), fun j j1 => hlo j (by omega) (by omega), fun j j1 j2 => hlo j (by omega) (by omega), fun k _ _ => by rw [hlo 80 (by decide) (by omega)], fun j j1 j2 => r5 j (by omega), fun j j1 => ⟨hlo j (by omega) (by omega), rfl⟩⟩, fun j j1 => hlo j (by omega) (by omega), hlo 55 (by decide) (by omega), r4 12 (by decide), r6, pS_c hrE, h14⟩
  · rw [hlo 107 (by decide) (by omega)] at r3
    rw [(kn_c hrE).1] at r2
    rw [hlo 82 (by decide) (by omega), hlo 83 (by decide) (by omega), hlo 84 (by decide) (by omega), hlo 85 (by decide) (by omega), hlo 86 (by decide) (by omega), hlo 87 (by decide) (by omega)]
    exact gm r r1 r2 r3
  · obtain ⟨q1, q2, q3, q4⟩ := r1 E hE
    exact ⟨by rw [pS_c hrE]; exact q1, by rw [(hws E).1]; exact q2, by rw [(hws E).2]; exact q3, fun c hc => by rw [pS_c hrE]; exact q4 c hc⟩
/-- the reference plays -/
theorem play_g (g : gInv n kk q I L C ah M) : gInv n kk q (sI_m_play I L) (sL_m_play I L) C ah M ∧ mPl (sI_m_play I L) (sL_m_play I L) ∧ oFw n kk kk I (sI_m_play I L) L (sL_m_play I L) ∧ (∀ j, j ≠ 117 → j ≠ 118 → sI_m_play I L j = I j) ∧ (∀ E, pS (sI_m_play I L) E = pS I E) := by
  obtain ⟨gT, gB, gG, gc, gm, gn⟩ := g
  obtain ⟨p1, p2, p3, p4, p5, p6⟩ := play_v (L := L) gT gB
  generalize sI_m_play I L = J at p1 p2 p3 p4 p5 p6 ⊢
  generalize sL_m_play I L = K at p2 p3 p4 p5 p6 ⊢
  have hlo : ∀ j, j ≠ 117 → j ≠ 118 → J j = I j := p1
  have hrE : rE J I := ⟨fun j j1 j2 => hlo j (by omega) (by omega), by rw [hlo 80 (by decide) (by decide)], by rw [hlo 80 (by decide) (by decide)]⟩
  have hk := (kn_c hrE).2.2
  have hgc := g_c hrE (kn I)
  refine ⟨⟨wfT_c hrE gT, wfB_c hrE gB, cGr_m (Nat.le_refl _) (fun _ _ => rfl) rfl (fun j hj => hlo j (by omega) (by omega)) (fun j j1 j2 => hlo j (by omega) (by omega)) (fun j hj => p5 j (by omega) (by omega) (by omega) (by omega) (by omega)) (cGr_X hrE gG), cCode_m (Nat.le_refl _) (fun _ _ => rfl) (fun _ _ => rfl) (fun j j1 j2 _ => hlo j (by omega) (by omega)) (fun i hi => by rw [hlo 107 (by decide) (by decide)]) gc, fun r r1 r2 r3 => ?_, gn⟩, ⟨fun d c hd hc => ?_, fun d hd => ?_, fun D hD => ?_⟩, ⟨fun j j1 j2 => hlo j (by omega) (by omega), fun j j1 => hlo j (by omega) (by omega), fun j j1 j2 => hlo j (by omega) (by omega), fun k _ _ => by rw [hlo 80 (by decide) (by decide)], fun j j1 j2 => p5 j (by omega) (by omega) (by omega) (by omega) (by omega), fun j j1 => ⟨hlo j (by omega) (by omega), rfl⟩⟩, p1, pS_c hrE⟩
  · rw [hlo 107 (by decide) (by decide)] at r3
    rw [(kn_c hrE).1] at r2
    rw [hlo 82 (by decide) (by decide), hlo 83 (by decide) (by decide), hlo 84 (by decide) (by decide), hlo 85 (by decide) (by decide), hlo 86 (by decide) (by decide), hlo 87 (by decide) (by decide)]
    exact gm r r1 r2 r3
  · rw [hk, hgc.2.2.1, hgc.2.2.2.2]; exact p2 d c hd hc
  · rw [hk, hgc.1, hgc.2.1]; exact p3 d hd
  · rw [pS_c hrE]; exact p4 D hD
end QU
