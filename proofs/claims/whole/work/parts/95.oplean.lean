/-! LEAN: both sides answer alike; the verdict under other rows -/
def ojW (n sl : Nat) (kk : Nat → Nat × Nat) (I : Nat → Nat → Int32) (L : Nat → Nat → Int64) (C : Nat) (M : Nat → List (Nat × Nat × List Nat)) (h2 : am_H) : Prop := ∃ n' sl' kk' I' L' q' C' ah', h2 = (n', sl', wKK kk', I', L', wQQ q') ∧ gInv n' kk' q' I' L' C' ah' M ∧ oFw n' kk kk' I I' L L' ∧ cntF I I' C' ∧ (n ≤ n' ∧ n' ≤ n + 2 ∧ sl' ≤ sl + 820) ∧ C ≤ C'
theorem ojR_w {n sl C : Nat} {kk : Nat → Nat × Nat} {I : Nat → Nat → Int32} {L : Nat → Nat → Int64} {M : Nat → List (Nat × Nat × List Nat)} {h2 : am_H} (h : ojR n sl kk I L C M h2) : ojW n sl kk I L C M h2 := by
  obtain ⟨n', sl', kk', I', L', q', C', ah', e, g, f, r⟩ := h
  exact ⟨n', sl', kk', I', L', q', C', ah', e, g, oFr_w f, r⟩
theorem ev_x_leanO {d n sl : Nat} {kk : Nat → Nat × Nat} {I : Nat → Nat → Int32} {L : Nat → Nat → Int64} {q : Nat → Nat → Option Nat} {x : Int32} (hx : sp_isWithin x.toInt64 0 400 = 0) : am_Ev (d + 1) 125 0 (am_ent 2 [.ref 0, .int x]) [] (n, sl, wKK kk, I, L, wQQ q) (some (.int (-2000000000)), (n, sl, wKK kk, I, L, wQQ q)) := by
  refine tv_ev ?_
  show am_T _ _ 0 [some (.ref 0), some (.int x)] _ _ _
  refine tv_b (pc' := 6) (ls' := [some (.ref 0), some (.int x)]) (st' := [.long 400, .long 0, .long x.toInt64]) (h' := (n, sl, wKK kk, I, L, wQQ q)) 4 rfl ?_
  refine tv_csE [.long x.toInt64, .long 0, .long 400] [] rfl rfl (by omega) rfl (Nat.le_of_ble_eq_true rfl) (Nat.le_of_ble_eq_true rfl) (ev_isWithin) ?_
  refine tv_b (pc' := (if (sp_isWithin x.toInt64 0 400) = 0 then 12 else 15)) (ls' := [some (.ref 0), some (.int x)]) (st' := []) (h' := (n, sl, wKK kk, I, L, wQQ q)) 1 rfl ?_
  refine tv_t (hx) ?_
  refine tv_b (pc' := 14) (ls' := [some (.ref 0), some (.int x)]) (st' := [.int (-2000000000)]) (h' := (n, sl, wKK kk, I, L, wQQ q)) 1 rfl ?_
  exact tv_ri rfl ⟨rfl, rfl⟩
theorem ev_m_leanO {d n sl : Nat} {kk : Nat → Nat × Nat} {I : Nat → Nat → Int32} {L : Nat → Nat → Int64} {q : Nat → Nat → Option Nat} {x : Int32} (hx : sp_m_is x 0 400 = 0) : am_Ev (d + 1) 209 0 (am_ent 2 [.ref 80, .int x]) [] (n, sl, wKK kk, I, L, wQQ q) (some (.int (-2000000000)), (n, sl, wKK kk, I, L, wQQ q)) := by
  refine tv_ev ?_
  show am_T _ _ 0 [some (.ref 80), some (.int x)] _ _ _
  refine tv_b (pc' := 5) (ls' := [some (.ref 80), some (.int x)]) (st' := [.int 400, .int 0, .int x]) (h' := (n, sl, wKK kk, I, L, wQQ q)) 3 rfl ?_
  refine tv_csE [.int x, .int 0, .int 400] [] rfl rfl (by omega) rfl (Nat.le_of_ble_eq_true rfl) (Nat.le_of_ble_eq_true rfl) (ev_m_is) ?_
  refine tv_b (pc' := (if (sp_m_is x 0 400) = 0 then 11 else 15)) (ls' := [some (.ref 80), some (.int x)]) (st' := []) (h' := (n, sl, wKK kk, I, L, wQQ q)) 1 rfl ?_
  refine tv_t (hx) ?_
  refine tv_b (pc' := 14) (ls' := [some (.ref 80), some (.int x)]) (st' := [.int (-2000000000)]) (h' := (n, sl, wKK kk, I, L, wQQ q)) 1 rfl ?_
  exact tv_ri rfl ⟨rfl, rfl⟩
theorem oj_lean {d n sl C : Nat} {kk : Nat → Nat × Nat} {q : Nat → Nat → Option Nat} {I : Nat → Nat → Int32} {L : Nat → Nat → Int64} {ah : Nat → Nat} {M : Nat → List (Nat × Nat × List Nat)} (g : gInv n kk q I L C ah M) {x : Int32} : am_T (d + 6) 125 0 (am_ent 2 [.ref 0, .int x]) [] (n, sl, wKK kk, I, L, wQQ q) (ojQ (d + 5) 209 (am_ent 2 [.ref 80, .int x]) (ojW n sl kk I L C M)) := by
  have gB := g.2.1
  have a1 : sp_isWithin x.toInt64 0 400 = 0 ↔ ¬ (0 ≤ x.toInt ∧ x.toInt ≤ 400) := ar_wi2 (a := 0) (b := 400) rfl rfl ⟨by decide, by decide⟩ ⟨by decide, by decide⟩
  have a2 : sp_m_is x 0 400 = 0 ↔ ¬ (0 ≤ x.toInt ∧ x.toInt ≤ 400) := ar_mi2 (a := 0) (b := 400) rfl rfl ⟨by decide, by decide⟩ ⟨by decide, by decide⟩
  by_cases h : sp_isWithin x.toInt64 0 400 = 0
  · exact tv_e (ev_x_leanO (d := d + 5) h) ⟨_, rfl, tv_e (ev_m_leanO (d := d + 4) (a2.mpr (a1.mp h))) ⟨rfl, ojR_w (ojR_same g)⟩⟩
  · have hr := (nn_iff a1).mp h
    rw [x_nI hr.1]
    have hD : x.toInt.toNat ≤ 400 := by omega
    generalize x.toInt.toNat = D at hD
    obtain ⟨g1, r1, f1, r80, r55, r13, ⟨k1, k2⟩, hp1, h14⟩ := reach_g g hD
    have e1 := ev_x_lean (d := d) (n := n) (sl := sl) (k := kk) (q := q) (L := L) hD k1 k2 h14
    have v1 : sp_x_lean D I L = jI (pS I D).2 := by
      unfold sp_x_lean sp_d_leanAt
      rw [if_neg (wi_0400 hD), nI_clamp (by omega), (r1 D (Nat.le_refl _)).1, hp1]
    rw [v1] at e1
    unfold sI_x_lean sL_x_lean at e1
    refine tv_e e1 ⟨_, rfl, ?_⟩
    generalize sI_d_reach D I L = J at g1 r1 f1 r80 r55 r13 hp1
    generalize sL_d_reach D I L = K at g1 r1 f1
    have gB1 := g1.2.1
    obtain ⟨hn1, hn2⟩ := now_N (L := K) gB1
    have hC2 := gB1.1.2
    obtain ⟨g2, hP, f2, p2, hp2⟩ := play_g g1
    have e2 := ev_m_lean (d := d) (n := n) (sl := sl) (k := kk) (q := q) (L := K) hD (by rw [now_cl gB1]; exact hn1) (by rw [now_cl gB1]; omega) (gx_ok gB1) (gl_ok gB1)
    have v2 : sp_m_lean D J K = jI (pS I D).2 := by
      unfold sp_m_lean
      rw [(hP.2.2 D hD).1, hp2, hp1, jL_32]
    rw [v2] at e2
    unfold sI_m_lean sL_m_lean at e2
    have hk : ∀ i, kn (sI_m_play J K) (i + 1) = kn I (i + 1) := fun i => by
      unfold kn nNow nC vdN
      rw [p2 80 (by decide) (by decide), p2 112 (by decide) (by decide), r80 80 (by decide), r80 112 (by decide)]
    exact tv_e e2 ⟨rfl, n, sl, kk, _, _, q, C, ah, rfl, g2, oFw_t f1 f2, ⟨0, 0, Nat.le_refl _, by omega, by rw [p2 55 (by decide) (by decide), r55]; exact (Int32.add_zero _).symm, by rw [p2 13 (by decide) (by decide), r13]; exact (Int32.add_zero _).symm, fun _ i _ => hk i, fun i _ _ => by rw [p2 107 (by decide) (by decide), p2 108 (by decide) (by decide), p2 109 (by decide) (by decide), p2 110 (by decide) (by decide), p2 111 (by decide) (by decide), r80 107 (by decide), r80 108 (by decide), r80 109 (by decide), r80 110 (by decide), r80 111 (by decide)]; exact ⟨rfl, rfl, rfl, rfl, rfl⟩⟩, ⟨Nat.le_refl _, by omega, by omega⟩, Nat.le_refl _⟩
