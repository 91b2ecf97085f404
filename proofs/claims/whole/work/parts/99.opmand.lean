/-! MANDATE: both sides answer alike -/
/-- the ground under another memory of the reader -/
theorem gInv_k {n C : Nat} {kk : Nat → Nat × Nat} {q : Nat → Nat → Option Nat} {I J : Nat → Nat → Int32} {L L' : Nat → Nat → Int64} {ah : Nat → Nat} {M : Nat → List (Nat × Nat × List Nat)} (g : gInv n kk q I L C ah M) (h1 : ∀ j, j < 57 → J j = I j) (h2 : ∀ j, 131 ≤ j → J j = I j) (hE : rE J I) (h82 : ∀ j, j ≠ C + 1 → J 82 j = I 82 j) (h83 : ∀ j, j < 20 * (C + 1) → J 83 j = I 83 j ∧ J 84 j = I 84 j ∧ J 85 j = I 85 j ∧ J 86 j = I 86 j) (h87 : ∀ j, j < 800 * (C + 1) → J 87 j = I 87 j) (hL : ∀ j, j < 57 → L' j = L j) : gInv n kk q J L' C ah M := by
  obtain ⟨gT, gB, gG, gc, gm, gn⟩ := g
  have hnC : nC I = C := gG.2.2.1.2.1
  refine ⟨wfT_c hE gT, wfB_c hE gB, cGr_m (Nat.le_refl _) (fun _ _ => rfl) rfl h1 (fun j j1 j2 => h2 j j1) hL (cGr_X hE gG), cCode_m (Nat.le_refl _) (fun _ _ => rfl) (fun _ _ => rfl) (fun j j1 j2 j3 => h2 j j1) (fun i hi => by rw [hE.1 107 (by decide) (by decide)]) gc, fun r r1 r2 r3 => ?_, gn⟩
  rw [hE.1 107 (by decide) (by decide)] at r3
  rw [(kn_c hE).1] at r2
  obtain ⟨m1, m2, m3, m4⟩ := gm r r1 r2 r3
  exact ⟨by rw [h82 r (by omega)]; exact m1, m2, m3, cdL_c (fun j j1 j2 => h83 j (by omega)) (fun j j1 j2 => h87 j (by omega)) (by omega) m4⟩
def ojM (n sl : Nat) (kk : Nat → Nat × Nat) (I : Nat → Nat → Int32) (C : Nat) (M : Nat → List (Nat × Nat × List Nat)) (h2 : am_H) : Prop := ∃ n' sl' kk' I' L' q' C' ah' M' tx' T', h2 = (n', sl', wKK kk', I', L', wQQ q') ∧ gInv n' kk' q' I' L' C' ah' M' ∧ rInv kk' I' tx' T' ∧ oFi I I' ∧ cntF I I' C' ∧ (n ≤ n' ∧ n' ≤ n + 2 ∧ sl' ≤ sl + 820) ∧ C ≤ C' ∧ ∀ m, m ≤ C → M' m = M m
theorem ojM_h {k n sl C : Nat} {kk : Nat → Nat × Nat} {q : Nat → Nat → Option Nat} {I : Nat → Nat → Int32} {L : Nat → Nat → Int64} {ah : Nat → Nat} {M : Nat → List (Nat × Nat × List Nat)} {h2 : am_H} (hk : k ≤ 512) (g : gInv n kk q I L C ah M) (ht : tInv I) (hu : uInv I) (hs : sInv I) (hc : cInv I) (hj : jInv (201 * k) I C M) (hn : n ≤ 131 + 2 * k) (hsl : sl ≤ 231806 + 820 * k) (h : ojM n sl kk I C M h2) : hInv (k + 1) h2 := by
  obtain ⟨n', sl', kk', I', L', q', C', ah', M', tx', T', rfl, g', hr, f, cn, ⟨b1, b2, b3⟩, b4, b5⟩ := h
  exact ⟨n', sl', kk', I', L', q', rfl, wInv_f hk g.2.1 g.2.2.1.2.2.1.2.1 ht hu hs hc hj hn hsl g' hr f cn b4 b5 b2 b3⟩
section MD
variable {n sl C : Nat} {kk : Nat → Nat × Nat} {q : Nat → Nat → Option Nat} {I J : Nat → Nat → Int32} {L L' : Nat → Nat → Int64} {ah : Nat → Nat} {M : Nat → List (Nat × Nat × List Nat)} {tx : Nat → Nat} {T : Nat}
/-- a mandate that wrote nothing -/
theorem md_keep (g : gInv n kk q I L C ah M) (r : rInv kk I tx T) (hnB : n ≤ am_B) (h1 : ∀ j, j < 57 → J j = I j) (h2 : ∀ j, 131 ≤ j → J j = I j) (hm : ∀ j, 60 ≤ j → j < 80 → J j = I j) (hE : rE J I) (h82 : ∀ j, j ≠ C + 1 → J 82 j = I 82 j) (h83 : ∀ j, j < 20 * (C + 1) → J 83 j = I 83 j ∧ J 84 j = I 84 j ∧ J 85 j = I 85 j ∧ J 86 j = I 86 j) (h87 : ∀ j, j < 800 * (C + 1) → J 87 j = I 87 j) (hL : ∀ j, j < 57 → L' j = L j) (h119 : ∀ j, 119 ≤ j → j < 127 → J j = I j) (h68 : J 80 68 = I 80 68) (h71 : J 80 71 = I 80 71) (t1 : J 57 1 = 0) (t2 : J 80 1 = 0) (t3 : J 57 12 = J 80 10) (t4 : J 57 13 = J 80 11) : ojM n sl kk I C M (n, sl, wKK kk, J, L', wQQ q) := by
  have hr := hE.1
  refine ⟨n, sl, kk, J, L', q, C, ah, M, tx, 0, rfl, gInv_k g h1 h2 hE h82 h83 h87 hL, ⟨⟨t1, Nat.zero_le _, fun i hi => absurd hi (Nat.not_lt_zero _)⟩, fun w hw => by rw [h2 (am_B + 1 + w) (by unfold am_B; omega)]; exact r.2.1 w hw, t2, fun i hi => absurd hi (Nat.not_lt_zero _), t3, t4⟩, ⟨fun j hj => h1 j (by omega), fun j j1 j2 => hm j (by omega) j2, fun k _ => by rw [hm 60 (by decide) (by decide)], fun j j1 j2 => ?_, h68, h71⟩, ⟨0, 0, Nat.le_refl _, by omega, by rw [h1 55 (by decide)]; exact (Int32.add_zero _).symm, by rw [h1 13 (by decide)]; exact (Int32.add_zero _).symm, fun _ i _ => by rw [(kn_c hE).2.2], fun i _ _ => ⟨by rw [hr 107 (by decide) (by decide)], by rw [hr 108 (by decide) (by decide)], by rw [hr 109 (by decide) (by decide)], by rw [hr 110 (by decide) (by decide)], by rw [hr 111 (by decide) (by decide)]⟩⟩, ⟨Nat.le_refl _, by omega, by omega⟩, Nat.le_refl _, fun _ _ => rfl⟩
  rcases j1 with j1 | j1
  · exact hr j (by omega) (by omega)
  · exact h119 j j1 j2
theorem mtaI_o {ta : Int32} {j : Nat} (h : j ≠ 80) : mtaI I ta j = I j := by
  funext i
  unfold mtaI
  rw [mtaI_nb h]
  rfl
theorem mtaI_8 {ta : Int32} {k : Nat} (h : k ≠ 1) : mtaI I ta 80 k = I 80 k := by
  show cond (Nat.beq k 1) ta (I 80 k) = _
  rw [mtaI_nb h]
  rfl
/-- the text goes, nothing else -/
theorem md_drop (g : gInv n kk q I L C ah M) (r : rInv kk I tx T) (hnB : n ≤ am_B) : ojM n sl kk I C M (n, sl, wKK kk, mtaI (va_up I 57 (upd (I 57) 1 0)) 0, L, wQQ q) := by
  have lo : ∀ j, j ≠ 57 → j ≠ 80 → mtaI (va_up I 57 (upd (I 57) 1 0)) 0 j = I j := fun j j1 j2 => by rw [mtaI_o j2, va_n1 j1]
  have l8 : ∀ k, k ≠ 1 → mtaI (va_up I 57 (upd (I 57) 1 0)) 0 80 k = I 80 k := fun k hk => by rw [mtaI_8 hk, va_n1 (by decide)]
  have l5 : ∀ k, k ≠ 1 → mtaI (va_up I 57 (upd (I 57) 1 0)) 0 57 k = I 57 k := fun k hk => by rw [mtaI_o (by decide), va_e1, upd_n hk]
  refine md_keep g r hnB (fun j hj => lo j (by omega) (by omega)) (fun j hj => lo j (by omega) (by omega)) (fun j j1 j2 => lo j (by omega) (by omega)) ⟨fun j j1 j2 => lo j (by omega) (by omega), l8 45 (by decide), l8 46 (by decide)⟩ (fun j _ => by rw [lo 82 (by decide) (by decide)]) (fun j _ => by rw [lo 83 (by decide) (by decide), lo 84 (by decide) (by decide), lo 85 (by decide) (by decide), lo 86 (by decide) (by decide)]; exact ⟨rfl, rfl, rfl, rfl⟩) (fun j _ => by rw [lo 87 (by decide) (by decide)]) (fun _ _ => rfl) (fun j j1 j2 => lo j (by omega) (by omega)) (l8 68 (by decide)) (l8 71 (by decide)) ?_ ?_ ?_ ?_
  · rw [mtaI_o (by decide), va_e1, upd_e]
  · rfl
  · rw [l5 12 (by decide), l8 10 (by decide)]; exact r.2.2.2.2.1
  · rw [l5 13 (by decide), l8 11 (by decide)]; exact r.2.2.2.2.2
theorem mwL_o {w : Int64} {j : Nat} (h : j ≠ 80) : mwL L w j = L j := by
  funext i
  unfold mwL
  rw [mwL_nb h]
  rfl
/-- a mandate written -/
theorem md_fin {x z : Int32} {I1 X : Nat → Nat → Int32} {L1 : Nat → Nat → Int64} {w' : Int64} {l : List (Nat × Nat × List Nat)} {I0 : Nat → Nat → Int32} {rr : Nat → Int32} {R : Nat} {qq : Nat → Nat → Option Nat} (g : gInv n kk q I L C ah M) (r : rInv kk I tx T) (hnB : n + 2 ≤ am_B) (hC : C < 200) (hp : pa_read tx T = .inr l) (hX : X = entI I (nI (C + 1)) (upd (I 107) (C + 1) 4) (upd (I 108) (C + 1) x) (upd (I 109) (C + 1) 0) (upd (I 110) (C + 1) 0) (upd (I 111) (C + 1) 0) (upd (I 112) (C + 1) 0)) (hB : wfB X) (hl : (pa_flat l).length < 800) (hM : rdM I I0 0 (-1))
    (hqq : qq = va_up (qNew (va_up q n (fun _ => none)) (n + 1) (some n)) 56 (va_up ((qNew (va_up q n (fun _ => none)) (n + 1) (some n)) 56) C (some (n + 1))))
    (cg : cGr (n + 1 + 1) (va_up (va_up kk n (20, (pa_flat l).length)) (n + 1) (0, 0)) qq I1 L1 X (C + 1) (ahN ah C (n + 1)))
    (li : LI X (C + 1) (ahN ah C (n + 1)) (kn I) (kn X) R (va_up (va_up (rcI I I0 n l) (n + 1) rr) 55 (upd ((va_up (rcI I I0 n l) (n + 1) rr) 55) 2 (nI (C + 1)))) (va_up (va_up L n (fun _ => 0)) (n + 1) (fun _ => 0)) I1 L1 (C + 1))
    (hm : mdP tx T C x I1 J z) : ojM n sl kk I C M (n + 1 + 1, sl + (pa_flat l).length + 9, wKK (va_up (va_up kk n (20, (pa_flat l).length)) (n + 1) (0, 0)), J, mwL L1 w', wQQ qq) := by
  obtain ⟨gT, gB, gG, gc, gm, gn⟩ := g
  have hnC : nC I = C := gG.2.2.1.2.1
  have hah : ∀ i, i < C → 131 ≤ ah i ∧ ah i < n ∧ kk (ah i) = (0, 0) := fun i hi => ⟨(gG.2.2.1.1.1 i hi).2.1, gG.2.2.1.1.2.1 i hi, (gG.2.2.1.1.1 i hi).2.2⟩
  have hah1 : ∀ i, i < C → ahN ah C (n + 1) i = ah i := fun i hi => if_neg (by omega)
  have hahC : ahN ah C (n + 1) C = n + 1 := if_pos rfl
  have hahge : ∀ i, i < C + 1 → 131 ≤ ahN ah C (n + 1) i ∧ ahN ah C (n + 1) i ≤ n + 1 ∧ ahN ah C (n + 1) i ≠ n := fun i hi => by
    by_cases e : i = C
    · subst e; rw [hahC]; omega
    · rw [hah1 i (by omega)]; have := hah i (by omega); omega
  obtain ⟨l1, ⟨R1, l2, l2a, l2b⟩, l3, l4, l5, l6, l7, l8, m, m', l9, l10, l11, l12, l13⟩ := li
  have lo0 : ∀ j, j ≠ 13 → j ≠ 15 → j ≠ 17 → j ≠ 55 → (j < 19 ∨ 34 < j) → (∀ i, i < C + 1 → j ≠ ahN ah C (n + 1) i) → I1 j = rcI I I0 n l j := fun j j1 j2 j3 j4 j5 j6 => by
    rw [l5 j j1 j2 j3 j4 j5 j6, va_n1 j4, va_n1 (by have := j6 C (by omega); rw [hahC] at this; exact this)]
  have lo : ∀ j, j ≠ 57 → j ≠ 59 → j ≠ n → j ≠ 13 → j ≠ 15 → j ≠ 17 → j ≠ 55 → (j < 19 ∨ 34 < j) → (∀ i, i < C + 1 → j ≠ ahN ah C (n + 1) i) → (j < 127 ∨ 131 ≤ j) → I1 j = I j := fun j i1 i2 i3 j1 j2 j3 j4 j5 j6 j7 => by
    rw [lo0 j j1 j2 j3 j4 j5 j6, rcI_lo hM i1 i2 i3 j7]
  have lo2 : ∀ j, j < 127 → j ≠ 57 → j ≠ 59 → j ≠ 13 → j ≠ 15 → j ≠ 17 → j ≠ 55 → (j < 19 ∨ 34 < j) → I1 j = I j := fun j j0 i1 i2 j1 j2 j3 j4 j5 => lo j i1 i2 (by omega) j1 j2 j3 j4 j5 (fun i hi => by have := hahge i hi; omega) (Or.inl j0)
  have hr : ∀ j, 80 ≤ j → j < 127 → I1 j = I j := fun j j1 j2 => lo2 j j2 (by omega) (by omega) (by omega) (by omega) (by omega) (by omega) (by omega)
  have h57 : I1 57 = rcI I I0 n l 57 := lo0 57 (by decide) (by decide) (by decide) (by decide) (by decide) (fun i hi => by have := hahge i hi; omega)
  obtain ⟨p1, ⟨p2, p3, p4, p5⟩, ⟨p6, p7, p8⟩, p9⟩ := hm
  rw [hp] at p9
  obtain ⟨pz, pa, pb, p45, p107, p108, p109, p110, p111, p112, pl, p82, pcd⟩ := p9
  have hlow : ∀ j, j < 80 → J j = I1 j := fun j hj => p1 j (Or.inl hj)
  have hhi : ∀ j, (j = 81 ∨ (93 < j ∧ ¬ (107 ≤ j ∧ j ≤ 112))) → J j = I1 j := fun j hj => p1 j (Or.inr hj)
  have hX45 : X 80 45 = nI (C + 1) := by rw [hX]; rfl
  have hX46 : X 80 46 = I 80 46 := by rw [hX]; rfl
  have hrE : rE J X := by
    refine ⟨fun j j1 j2 => ?_, by rw [p45, hX45], by rw [p2, hX46, hr 80 (by decide) (by decide)]⟩
    by_cases z : 107 ≤ j
    · have : j = 107 ∨ j = 108 ∨ j = 109 ∨ j = 110 ∨ j = 111 ∨ j = 112 := by omega
      rcases this with rfl | rfl | rfl | rfl | rfl | rfl
      · rw [p107, hr 107 (by decide) (by decide), hX]; rfl
      · rw [p108, hr 108 (by decide) (by decide), hX]; rfl
      · rw [p109, hr 109 (by decide) (by decide), hX]; rfl
      · rw [p110, hr 110 (by decide) (by decide), hX]; rfl
      · rw [p111, hr 111 (by decide) (by decide), hX]; rfl
      · rw [p112, hr 112 (by decide) (by decide), hX]; rfl
    · rw [hhi j (Or.inr ⟨by omega, by omega⟩), hr j (by omega) (by omega), hX]
      exact (entI_lo (by omega) (Or.inl (by omega))).symm
  have hen : enX I X C 4 x 0 0 0 := by rw [hX]; exact enX_ent hnC
  have eC := enX_nC hC hen
  obtain ⟨n0, n1, n2, n3, n4, n5, n6⟩ := hen
  have hkn := (kn_c hrE).2.2
  have hJ80 : ∀ j, 131 ≤ j → J j = I1 j := fun j hj => hhi j (Or.inr ⟨by omega, by omega⟩)
  have hw : ∀ t ∈ l, t.2.1 ≤ 2 := pa_stmts_w (show pa_stmts tx T 20 0 = .inr l from hp)
  have ht6 := cdL_t pcd
  have hMl : ∀ r, r ≤ C → (if r = C + 1 then l else M r) = M r := fun r hr => if_neg (by omega)
  have hMC : (if C + 1 = C + 1 then l else M (C + 1)) = l := if_pos rfl
  refine ⟨n + 1 + 1, _, _, J, mwL L1 w', qq, C + 1, ahN ah C (n + 1), fun r => if r = C + 1 then l else M r, tx, 0, rfl, ⟨wfT_c hrE (wfT_r n3 gT), wfB_c hrE hB, ?_, fun i hi h4 => ?_, fun r r1 r2 r3 => ?_, by omega⟩, ⟨⟨?_, Nat.zero_le _, fun i hi => absurd hi (Nat.not_lt_zero _)⟩, fun w hw => ?_, p5, fun i hi => absurd hi (Nat.not_lt_zero _), ?_, ?_⟩, ⟨fun j hj => ?_, fun j j1 j2 => ?_, fun k _ => ?_, fun j j1 j2 => ?_, ?_, ?_⟩, ⟨m, m', l9, by omega, ?_, ?_, fun e i hi => ?_, fun i i1 i2 => ?_⟩, ⟨by omega, by omega, by omega⟩, by omega, hMl⟩
  · exact cGr_m (Nat.le_refl _) (fun _ _ => rfl) rfl (fun j hj => hlow j (by omega)) (fun j j1 j2 => hJ80 j j1) (fun j hj => mwL_o (by omega)) (cGr_X hrE cg)
  · by_cases e : i = C
    · subst e
      refine ⟨n, ?_, gn, by omega, ?_, ?_, fun j hj => ?_, ?_⟩
      · rw [hahC, hqq, va_n1 (by omega)]
        show (va_up (va_up q n (fun _ => none)) (n + 1) _ : Nat → Nat → Option Nat) (n + 1) 6 = _
        rw [va_e1]
        rfl
      · rw [va_n1 (by omega), va_e1]
        show (20, (pa_flat l).length) = (20, (pa_flat (if i + 1 = i + 1 then l else M (i + 1))).length)
        rw [hMC]
      · show (pa_flat (if i + 1 = i + 1 then l else M (i + 1))).length ≤ 800
        rw [hMC]; omega
      · have hj' : j < (pa_flat l).length := by
          have : j < (pa_flat (if i + 1 = i + 1 then l else M (i + 1))).length := hj
          rw [hMC] at this; exact this
        show J n j = nI ((pa_flat (if i + 1 = i + 1 then l else M (i + 1))).getD j 0)
        rw [hMC, hJ80 n gn, lo0 n (by omega) (by omega) (by omega) (by omega) (by omega) (fun i hi => (hahge i hi).2.2.symm)]
        unfold rcI
        rw [va_e1]
        unfold va_cpy
        rw [if_pos ⟨by omega, by omega⟩]
        have := pa_wr_at (c := I 59) (e := 0) hj'
        rw [show 0 + (j - 0) = 0 + j by omega]
        exact this
      · show (if i + 1 = i + 1 then l else M (i + 1)).length ≤ 20 ∧ ∀ t ∈ (if i + 1 = i + 1 then l else M (i + 1)), _
        rw [hMC]
        exact ⟨pl, fun t ht => ⟨(ht6 t ht).1, by have := hw t ht; omega, (ht6 t ht).2⟩⟩
    · have hi2 : i < C := by omega
      have h4' : I 107 (i + 1) = 4 := by
        rw [hrE.1 107 (by decide) (by decide), ← (n4 (i + 1) (by omega) (by omega)).1] at h4
        exact h4
      obtain ⟨cod, q1, q2, q3, q4, q5, q6, q7, q8⟩ := gc i hi2 h4'
      have hai := hah i hi2
      have hcodn : ∀ i, i < C + 1 → cod ≠ ahN ah C (n + 1) i := fun i hi => by
        by_cases e2 : i = C
        · subst e2; rw [hahC]; omega
        · rw [hah1 i (by omega)]
          intro z
          have := (hah i (by omega)).2.2
          rw [← z, q4] at this
          exact absurd (Prod.mk.inj this).1 (by decide)
      have hMi : (if i + 1 = C + 1 then l else M (i + 1)) = M (i + 1) := hMl (i + 1) (by omega)
      show ∃ cod, qq (ahN ah C (n + 1) i) 6 = some cod ∧ 131 ≤ cod ∧ cod < n + 1 + 1 ∧ va_up (va_up kk n (20, (pa_flat l).length)) (n + 1) (0, 0) cod = (20, (pa_flat (if i + 1 = C + 1 then l else M (i + 1))).length) ∧ (pa_flat (if i + 1 = C + 1 then l else M (i + 1))).length ≤ 800 ∧ (∀ j, j < (pa_flat (if i + 1 = C + 1 then l else M (i + 1))).length → J cod j = nI ((pa_flat (if i + 1 = C + 1 then l else M (i + 1))).getD j 0)) ∧ (if i + 1 = C + 1 then l else M (i + 1)).length ≤ 20 ∧ ∀ t ∈ (if i + 1 = C + 1 then l else M (i + 1)), t.1 < 6 ∧ t.2.1 < 2147483648 ∧ ∃ rs, pa_Eq (cond (Nat.beq t.1 5) false true) t.2.2 rs
      rw [hMi]
      refine ⟨cod, ?_, q2, by omega, by rw [va_n1 (by omega), va_n1 (by omega)]; exact q4, q5, fun j hj => ?_, q7, q8⟩
      · rw [hah1 i hi2, hqq, va_n1 (by omega)]
        show (va_up (va_up q n (fun _ => none)) (n + 1) _ : Nat → Nat → Option Nat) (ah i) 6 = _
        rw [va_n1 (by omega), va_n1 (by omega)]
        exact q1
      · rw [hJ80 cod q2, lo cod (by omega) (by omega) (by omega) (by omega) (by omega) (by omega) (by omega) (by omega) hcodn (Or.inr q2)]
        exact q6 j hj
  · have r2' : r ≤ C + 1 := by rw [(kn_c hrE).1, eC] at r2; exact r2
    have r3' : X 107 r = 4 := by rw [← hrE.1 107 (by decide) (by decide)]; exact r3
    show J 82 r = nI (if r = C + 1 then l else M r).length ∧ (if r = C + 1 then l else M r).length ≤ 20 ∧ (∀ t ∈ (if r = C + 1 then l else M r), t.2.1 < 2147483648) ∧ cdL r (J 83) (J 84) (J 85) (J 86) (J 87) 0 (if r = C + 1 then l else M r)
    by_cases e : r = C + 1
    · subst e
      rw [hMC]
      exact ⟨p82, pl, fun t ht => by have := hw t ht; omega, pcd⟩
    · rw [hMl r (by omega)]
      obtain ⟨m1, m2, m3, m4⟩ := gm r r1 (by rw [hnC]; omega) (by rw [(n4 r r1 (by omega)).1]; exact r3')
      exact ⟨by rw [p6 r e, hr 82 (by decide) (by decide)]; exact m1, m2, m3, cdL_c (fun j j1 j2 => by
        obtain ⟨y1, y2, y3, y4⟩ := p7 j (by omega)
        rw [y1, y2, y3, y4, hr 83 (by decide) (by decide), hr 84 (by decide) (by decide), hr 85 (by decide) (by decide), hr 86 (by decide) (by decide)]
        exact ⟨rfl, rfl, rfl, rfl⟩) (fun j j1 j2 => by rw [p8 j (by omega), hr 87 (by decide) (by decide)]) (by omega) m4⟩
  · rw [hlow 57 (by decide), h57]
    unfold rcI
    rw [va_n1 (show 57 ≠ n by omega)]
    exact hM.2.1
  · rw [hJ80 (am_B + 1 + w) (by unfold am_B; omega), lo (am_B + 1 + w) (by unfold am_B; omega) (by unfold am_B; omega) (by omega) (by unfold am_B; omega) (by unfold am_B; omega) (by unfold am_B; omega) (by unfold am_B; omega) (by unfold am_B; omega) (fun i hi => by have := hahge i hi; omega) (by unfold am_B; omega), va_n1 (by omega), va_n1 (by omega)]
    exact r.2.1 w hw
  · rw [hlow 57 (by decide), h57, pa]
    unfold rcI
    rw [va_n1 (show 57 ≠ n by omega)]
    exact hM.2.2.1
  · rw [hlow 57 (by decide), h57, pb]
    unfold rcI
    rw [va_n1 (show 57 ≠ n by omega)]
    exact hM.2.2.2
  · rw [hlow j (by omega)]; exact lo2 j (by omega) (by omega) (by omega) (by omega) (by omega) (by omega) (by omega) (by omega)
  · rw [hlow j (by omega)]; exact lo2 j (by omega) (by omega) (by omega) (by omega) (by omega) (by omega) (by omega) (by omega)
  · rw [hlow 60 (by decide), lo2 60 (by decide) (by decide) (by decide) (by decide) (by decide) (by decide) (by decide) (by decide)]
  · rw [hhi j (Or.inr ⟨by omega, by omega⟩)]; exact hr j (by omega) (by omega)
  · rw [p3, hr 80 (by decide) (by decide)]
  · rw [p4, hr 80 (by decide) (by decide)]
  · rw [hlow 55 (by decide), l11, va_e1, upd_n (by decide), va_n1 (by omega), rcI_lo hM (by decide) (by decide) (by omega) (by decide)]
  · rw [hlow 13 (by decide), l12, va_n1 (by decide), va_n1 (by omega), rcI_lo hM (by decide) (by decide) (by omega) (by decide)]
  · rw [hkn]
    exact (l13 e).1 i hi
  · obtain ⟨y1, y2, y3, y4, y5⟩ := n4 i i1 (by rw [← hnC]; exact i2)
    rw [hrE.1 107 (by decide) (by decide), hrE.1 108 (by decide) (by decide), hrE.1 109 (by decide) (by decide), hrE.1 110 (by decide) (by decide), hrE.1 111 (by decide) (by decide)]
    exact ⟨y1.symm, y2.symm, y3.symm, y4.symm, y5.symm⟩
end MD
theorem oj_mandate {d n sl C : Nat} {kk : Nat → Nat × Nat} {q : Nat → Nat → Option Nat} {I : Nat → Nat → Int32} {L : Nat → Nat → Int64} {ah : Nat → Nat} {M : Nat → List (Nat × Nat × List Nat)} {tx : Nat → Nat} {T : Nat} (g : gInv n kk q I L C ah M) (r : rInv kk I tx T) (hnB : n + 2 ≤ am_B) {x : Int32} : am_T (d + 38) 121 0 (am_ent 3 [.ref 0, .int x]) [] (n, sl, wKK kk, I, L, wQQ q) (ojQ (d + 9) 179 (am_ent 3 [.ref 80, .int x]) (ojM n sl kk I C M)) := by
  have gB := g.2.1
  have gG := g.2.2.1
  have gn := g.2.2.2.2.2
  have hnC : nC I = C := gG.2.2.1.2.1
  have hC200 : C ≤ 200 := by rw [← hnC]; exact gB.1.2
  have h45 : I 80 45 = nI C := by rw [gB.1.1, hnC]
  by_cases h : sp_isDay x = 0
  · have h' : sp_m_isDay x = 0 := ar_mday.mpr (ar_day.mp h)
    exact tv_e (ev_x_mandD (d := d + 37) h) ⟨_, rfl, tv_e (ev_m_mandD (d := d + 6) h') ⟨rfl, md_drop g r (by omega)⟩⟩
  · have h' : ¬ sp_m_isDay x = 0 := fun z => h (ar_day.mpr (ar_mday.mp z))
    by_cases hC : C < 200
    · have rx := (nn_iff ar_day).mp h
      have hX : wfB (entI I (nI (C + 1)) (upd (I 107) (C + 1) 4) (upd (I 108) (C + 1) x) (upd (I 109) (C + 1) 0) (upd (I 110) (C + 1) 0) (upd (I 111) (C + 1) 0) (upd (I 112) (C + 1) 0)) ∧ enX I (entI I (nI (C + 1)) (upd (I 107) (C + 1) 4) (upd (I 108) (C + 1) x) (upd (I 109) (C + 1) 0) (upd (I 110) (C + 1) 0) (upd (I 111) (C + 1) 0) (upd (I 112) (C + 1) 0)) C 4 x 0 0 0 := ⟨enX_B0 hC gB (enX_ent hnC) ent_v (wfA_mand hC (enX_ent hnC) rx), enX_ent hnC⟩
      refine tv_w (tv_x_mandate (d := d) (sl := sl) r.1 r.2.1 h hC gB gG gn (fun _ _ => hX) ent_v) (fun rv h1 ho => ?_)
      unfold mnP at ho
      rcases hs : pa_read tx T with ⟨k0, l0⟩ | l <;> rw [hs] at ho
      · obtain ⟨rfl, hk0, hk5, I1, hM, rfl⟩ := ho
        refine ⟨_, rfl, ?_⟩
        have hlo := hM.1
        have h5 := hM.2
        refine tv_w (tv_m_mandate (d := d) (n := n) (sl := sl) (kk := kk) (q := q) (L := L) (tx := tx) (T := T) (C := C) (by rw [hlo 80 (by decide) (by decide) (by decide)]; exact r.2.2.1) r.1.2.1 (fun i hi => ⟨(r.1.2.2 i hi).1, by rw [hlo 81 (by decide) (by decide) (by decide)]; exact r.2.2.2.1 i hi⟩) (by rw [hlo 80 (by decide) (by decide) (by decide)]; exact h45) hC h') (fun rv2 h2 ho2 => ?_)
        obtain ⟨z, J, w', rfl, rfl, p1, ⟨p2, p3, p4, p5⟩, ⟨p6, p7, p8⟩, p9⟩ := ho2
        rw [hs] at p9
        obtain ⟨rfl, _, pa, pb, p45, p107⟩ := p9
        have hl2 : ∀ j, j < 80 → j ≠ 57 → j ≠ 59 → J j = I j := fun j j1 j2 j3 => by rw [p1 j (Or.inl j1), hlo j j2 j3 (by omega)]
        have hh2 : ∀ j, 93 < j → (j < 127 ∨ 131 ≤ j) → J j = I j := fun j j1 j9 => by
          by_cases z : 107 ≤ j ∧ j ≤ 112
          · rw [p107 j z.1 z.2, hlo j (by omega) (by omega) j9]
          · rw [p1 j (Or.inr (Or.inr ⟨j1, z⟩)), hlo j (by omega) (by omega) j9]
        refine ⟨rfl, md_keep g r (by omega) (fun j hj => hl2 j (by omega) (by omega) (by omega)) (fun j hj => hh2 j (by omega) (by omega)) (fun j j1 j2 => hl2 j (by omega) (by omega) (by omega)) ⟨fun j j1 j2 => hh2 j (by omega) (by omega), by rw [p45, hlo 80 (by decide) (by decide) (by decide)], by rw [p2, hlo 80 (by decide) (by decide) (by decide)]⟩ (fun j hj => by rw [p6 j hj, hlo 82 (by decide) (by decide) (by decide)]) (fun j hj => by
          obtain ⟨y1, y2, y3, y4⟩ := p7 j hj
          rw [y1, y2, y3, y4, hlo 83 (by decide) (by decide) (by decide), hlo 84 (by decide) (by decide) (by decide), hlo 85 (by decide) (by decide) (by decide), hlo 86 (by decide) (by decide) (by decide)]
          exact ⟨rfl, rfl, rfl, rfl⟩) (fun j hj => by rw [p8 j hj, hlo 87 (by decide) (by decide) (by decide)]) (fun j hj => mwL_o (by omega)) (fun j j1 j2 => hh2 j (by omega) (by omega)) (by rw [p3, hlo 80 (by decide) (by decide) (by decide)]) (by rw [p4, hlo 80 (by decide) (by decide) (by decide)]) ?_ p5 ?_ ?_⟩
        · rw [p1 57 (Or.inl (by decide))]; exact h5.1
        · rw [p1 57 (Or.inl (by decide)), pa]; exact h5.2.1
        · rw [p1 57 (Or.inl (by decide)), pb]; exact h5.2.2
      · obtain ⟨hl, I0, hM, rfl, I1, L1, R, rfl, cg, li⟩ := ho
        refine ⟨_, rfl, ?_⟩
        have li2 := li
        obtain ⟨_, _, _, _, l5, _⟩ := li2
        have hr : ∀ j, 80 ≤ j → j < 127 → I1 j = I j := fun j j1 j2 => by
          rw [l5 j (by omega) (by omega) (by omega) (by omega) (by omega) (fun i hi => by
            by_cases e : i = C
            · subst e; rw [show ahN ah i (n + 1) i = n + 1 from if_pos rfl]; omega
            · rw [show ahN ah C (n + 1) i = ah i from if_neg e]; have := (gG.2.2.1.1.1 i (by omega)).2.1; omega), va_n1 (by omega), va_n1 (by omega), rcI_lo hM (by omega) (by omega) (by omega) (by omega)]
        refine tv_w (tv_m_mandate (d := d) (n := n + 1 + 1) (sl := sl + (pa_flat l).length + 9) (kk := va_up (va_up kk n (20, (pa_flat l).length)) (n + 1) (0, 0)) (q := _) (I := I1) (L := L1) (tx := tx) (T := T) (C := C) (x := x) (by rw [hr 80 (by decide) (by decide)]; exact r.2.2.1) r.1.2.1 (fun i hi => ⟨(r.1.2.2 i hi).1, by rw [hr 81 (by decide) (by decide)]; exact r.2.2.2.1 i hi⟩) (by rw [hr 80 (by decide) (by decide)]; exact h45) hC h') (fun rv2 h2 ho2 => ?_)
        obtain ⟨z, J, w', rfl, rfl, hm⟩ := ho2
        have hz : z = nI (C + 1) := by
          have := hm.2.2.2
          rw [hs] at this
          exact this.1
        exact ⟨by rw [hz], md_fin g r hnB hC hs rfl hX.1 hl hM rfl cg li hm⟩
    · have hC2 : C = 200 := by omega
      have h2 : I 55 2 = nI 200 := by rw [gG.2.2.1.2.2.2.1, h45, hC2]
      exact tv_e (ev_x_mandA (d := d + 37) h h2) ⟨_, rfl, tv_e (ev_m_mandA (d := d + 6) h' (by rw [va_n1 (by decide), h45, hC2]; rfl)) ⟨rfl, md_drop g r (by omega)⟩⟩
