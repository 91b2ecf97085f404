/-! A WRITTEN ACT ON BOTH SIDES -/
def gInv (n : Nat) (kk : Nat → Nat × Nat) (q : Nat → Nat → Option Nat) (I : Nat → Nat → Int32) (L : Nat → Nat → Int64) (C : Nat) (ah : Nat → Nat) (M : Nat → List (Nat × Nat × List Nat)) : Prop := wfT I ∧ wfB I ∧ cGr n kk q I L I C ah ∧ cCode n kk q I I C ah M ∧ mCode I M ∧ 131 ≤ n
/-- the rows that the book's calls leave -/
def oFr (n' : Nat) (kk kk' : Nat → Nat × Nat) (I I' : Nat → Nat → Int32) (L L' : Nat → Nat → Int64) : Prop := (∀ j, 57 ≤ j → j < 80 → I' j = I j) ∧ (∀ j, j < 13 → I' j = I j) ∧ (∀ j, (j = 81 ∨ (94 ≤ j ∧ j ≤ 106) ∨ 113 ≤ j) → j < 127 → I' j = I j) ∧ (∀ k, k ≠ 45 → k ≠ 46 → I' 80 k = I 80 k) ∧ (∀ j, 57 ≤ j → j < 127 → L' j = L j) ∧ (∀ j, n' ≤ j → I' j = I j ∧ kk' j = kk j)
def cntF (I I' : Nat → Nat → Int32) (C : Nat) : Prop := ∃ m m' : Nat, m' ≤ m ∧ m ≤ 200 ∧ I' 55 4 = I 55 4 + nI m ∧ I' 13 12 = I 13 12 + nI m' ∧ (m = 0 → ∀ i, i < C → kn I' (i + 1) = kn I (i + 1)) ∧ aE I' I (nC I)
theorem entI_lo {I : Nat → Nat → Int32} {ac : Int32} {a b c d e f : Nat → Int32} {j : Nat} (h : j ≠ 80) (h2 : j < 107 ∨ 112 < j) : entI I ac a b c d e f j = I j := by
  funext i
  unfold entI
  rw [rdI_nb h, rdI_nb (show j ≠ 107 by omega), rdI_nb (show j ≠ 108 by omega), rdI_nb (show j ≠ 109 by omega), rdI_nb (show j ≠ 110 by omega), rdI_nb (show j ≠ 111 by omega), rdI_nb (show j ≠ 112 by omega)]
  rfl
theorem entI_c {I I' : Nat → Nat → Int32} {C : Nat} {s x a b c ac : Int32} (h : ∀ j, 80 ≤ j → j < 127 → I' j = I j) : ∀ j, 80 ≤ j → j < 127 → entI I' ac (upd (I' 107) (C + 1) s) (upd (I' 108) (C + 1) x) (upd (I' 109) (C + 1) a) (upd (I' 110) (C + 1) b) (upd (I' 111) (C + 1) c) (upd (I' 112) (C + 1) 0) j = entI I ac (upd (I 107) (C + 1) s) (upd (I 108) (C + 1) x) (upd (I 109) (C + 1) a) (upd (I 110) (C + 1) b) (upd (I 111) (C + 1) c) (upd (I 112) (C + 1) 0) j := by
  intro j h1 h2
  rw [h 107 (by decide) (by decide), h 108 (by decide) (by decide), h 109 (by decide) (by decide), h 110 (by decide) (by decide), h 111 (by decide) (by decide), h 112 (by decide) (by decide)]
  funext i
  unfold entI
  rw [h 80 (by decide) (by decide), h j h1 h2]
theorem wr_fin {n sl C : Nat} {kk : Nat → Nat × Nat} {q : Nat → Nat → Option Nat} {I : Nat → Nat → Int32} {L : Nat → Nat → Int64} {ah : Nat → Nat} {M : Nat → List (Nat × Nat × List Nat)} {s x a b c : Int32} {r : Nat → Int32} {rv : Option Value} {h1 : am_H} {X : Nat → Nat → Int32} (hs4 : s ≠ 4) (hC : C < 200) (g : gInv n kk q I L C ah M) (hX : X = entI I (nI (C + 1)) (upd (I 107) (C + 1) s) (upd (I 108) (C + 1) x) (upd (I 109) (C + 1) a) (upd (I 110) (C + 1) b) (upd (I 111) (C + 1) c) (upd (I 112) (C + 1) 0)) (hB : wfB X) (hw : wrP n sl kk (qNew q n none) I X C ah r I L rv h1) :
    rv = some (.int (nI (C + 1))) ∧ ∃ I' L' q', h1 = (n + 1, sl, wKK (va_up kk n (0, 0)), I', L', wQQ q') ∧ I' 80 45 = nI C ∧ gInv (n + 1) (va_up kk n (0, 0)) q' (sI_m_enter s x a b c I' L') L' (C + 1) (ahN ah C n) M ∧ oFr (n + 1) kk (va_up kk n (0, 0)) I (sI_m_enter s x a b c I' L') L L' ∧ cntF I (sI_m_enter s x a b c I' L') (C + 1) := by
  obtain ⟨gT, gB, gG, gc, gm, gn⟩ := g
  obtain ⟨rfl, I', L', R, rfl, cg, li⟩ := hw
  have hnC : nC I = C := gG.2.2.1.2.1
  have h45 : I 80 45 = nI C := by rw [gB.1.1, hnC]
  have hah : ∀ i, i < C → 131 ≤ ah i ∧ ah i < n ∧ kk (ah i) = (0, 0) := fun i hi => ⟨(gG.2.2.1.1.1 i hi).2.1, gG.2.2.1.1.2.1 i hi, (gG.2.2.1.1.1 i hi).2.2⟩
  have hah1 : ∀ i, i < C → ahN ah C n i = ah i := fun i hi => if_neg (by omega)
  have hahC : ahN ah C n C = n := if_pos rfl
  have hahge : ∀ i, i < C + 1 → 131 ≤ ahN ah C n i ∧ ahN ah C n i ≤ n := fun i hi => by
    by_cases e : i = C
    · subst e; rw [hahC]; omega
    · rw [hah1 i (by omega)]; have := hah i (by omega); omega
  obtain ⟨l1, ⟨R1, l2, l2a, l2b⟩, l3, l4, l5, l6, l7, l8, m, m', l9, l10, l11, l12, l13⟩ := li
  have lo : ∀ j, j ≠ 13 → j ≠ 15 → j ≠ 17 → j ≠ 55 → (j < 19 ∨ 34 < j) → (∀ i, i < C + 1 → j ≠ ahN ah C n i) → I' j = I j := fun j j1 j2 j3 j4 j5 j6 => by
    rw [l5 j j1 j2 j3 j4 j5 j6, va_n1 j4, va_n1 (by have := j6 C (by omega); rw [hahC] at this; exact this)]
  have lo2 : ∀ j, j < 127 → j ≠ 13 → j ≠ 15 → j ≠ 17 → j ≠ 55 → (j < 19 ∨ 34 < j) → I' j = I j := fun j j0 j1 j2 j3 j4 j5 => lo j j1 j2 j3 j4 j5 (fun i hi => by have := hahge i hi; omega)
  have hr : ∀ j, 80 ≤ j → j < 127 → I' j = I j := fun j j1 j2 => lo2 j j2 (by omega) (by omega) (by omega) (by omega) (by omega)
  have h45' : I' 80 45 = nI C := by rw [hr 80 (by decide) (by decide)]; exact h45
  have hI2 := (ent_eq (s := s) (x := x) (a := a) (b := b) (c := c) (L := L') h45' hC).2
  refine ⟨rfl, I', L', _, rfl, h45', ?_⟩
  rw [hI2]
  have hXr := entI_c (C := C) (s := s) (x := x) (a := a) (b := b) (c := c) (ac := nI (C + 1)) hr
  rw [← hX] at hXr
  have hlo := fun {j : Nat} (h : j ≠ 80) (h2 : j < 107 ∨ 112 < j) => entI_lo (I := I') (ac := nI (C + 1)) (a := upd (I' 107) (C + 1) s) (b := upd (I' 108) (C + 1) x) (c := upd (I' 109) (C + 1) a) (d := upd (I' 110) (C + 1) b) (e := upd (I' 111) (C + 1) c) (f := upd (I' 112) (C + 1) 0) h h2
  generalize entI I' (nI (C + 1)) (upd (I' 107) (C + 1) s) (upd (I' 108) (C + 1) x) (upd (I' 109) (C + 1) a) (upd (I' 110) (C + 1) b) (upd (I' 111) (C + 1) c) (upd (I' 112) (C + 1) 0) = Y at hXr hlo
  have hrE : rE Y X := ⟨fun j j1 j2 => hXr j (by omega) (by omega), by rw [hXr 80 (by decide) (by decide)], by rw [hXr 80 (by decide) (by decide)]⟩
  have hen : enX I X C s x a b c := by rw [hX]; exact enX_ent hnC
  have eC := enX_nC hC hen
  obtain ⟨n0, n1, n2, n3, n4, n5, n6⟩ := hen
  have hYlo : ∀ j, (j < 80 ∨ (80 < j ∧ j < 107) ∨ 112 < j) → Y j = I' j := fun j hj => hlo (by omega) (by omega)
  have hkn := (kn_c hrE).2.2
  refine ⟨⟨wfT_c hrE (wfT_r n3 gT), wfB_c hrE hB, ?_, fun i hi h4 => ?_, fun r r1 r2 r3 => ?_, by omega⟩, ⟨fun j j1 j2 => ?_, fun j j1 => ?_, fun j j1 j2 => ?_, fun k k1 k2 => ?_, fun j j1 j2 => ?_, fun j j1 => ⟨?_, va_n1 (by omega)⟩⟩, m, m', l9, by omega, ?_, ?_, fun e i hi => ?_, fun i i1 i2 => ?_⟩
  · refine cGr_m (Nat.le_refl _) (fun _ _ => rfl) rfl (fun j hj => hYlo j (by omega)) (fun j j1 j2 => hYlo j (by omega)) (fun _ _ => rfl) (cGr_X hrE cg)
  · by_cases e : i = C
    · subst e
      exact absurd ((congrFun (hXr 107 (by decide) (by decide)) _).symm.trans h4) (by rw [n5]; exact hs4)
    · have hi2 : i < C := by omega
      have h4' : I 107 (i + 1) = 4 := by
        rw [hXr 107 (by decide) (by decide), ← (n4 (i + 1) (by omega) (by omega)).1] at h4
        exact h4
      obtain ⟨cod, q1, q2, q3, q4, q5, q6, q7, q8⟩ := gc i hi2 h4'
      have hai := hah i hi2
      have hcodn : ∀ i, i < C + 1 → cod ≠ ahN ah C n i := fun i hi => by
        by_cases e2 : i = C
        · subst e2; rw [hahC]; omega
        · rw [hah1 i (by omega)]
          intro z
          have := (hah i (by omega)).2.2
          rw [← z, q4] at this
          exact absurd (Prod.mk.inj this).1 (by decide)
      refine ⟨cod, ?_, q2, by omega, by rw [va_n1 (by omega)]; exact q4, q5, fun j hj => ?_, q7, q8⟩
      · rw [hah1 i hi2, va_n1 (by omega)]
        show va_up q n _ (ah i) 6 = _
        rw [va_n1 (by omega)]
        exact q1
      · rw [hYlo cod (by omega), lo cod (by omega) (by omega) (by omega) (by omega) (by omega) hcodn]
        exact q6 j hj
  · have r2' : r ≤ C + 1 := by rw [(kn_c hrE).1, eC] at r2; exact r2
    have r3' : X 107 r = 4 := by rw [← hXr 107 (by decide) (by decide)]; exact r3
    have hrC : r ≤ C := by
      rcases Nat.lt_or_ge C r with z | z
      · have : r = C + 1 := by omega
        rw [this, n5] at r3'
        exact absurd r3' hs4
      · exact z
    have := gm r r1 (by rw [hnC]; exact hrC) (by rw [(n4 r r1 hrC).1]; exact r3')
    have hrow : ∀ j, 82 ≤ j → j ≤ 87 → Y j = I j := fun j j1 j2 => by rw [hYlo j (by omega), hr j (by omega) (by omega)]
    rw [hrow 82 (by decide) (by decide), hrow 83 (by decide) (by decide), hrow 84 (by decide) (by decide), hrow 85 (by decide) (by decide), hrow 86 (by decide) (by decide), hrow 87 (by decide) (by decide)]
    exact this
  · rw [hYlo j (by omega)]; exact lo2 j (by omega) (by omega) (by omega) (by omega) (by omega) (by omega)
  · rw [hYlo j (by omega)]; exact lo2 j (by omega) (by omega) (by omega) (by omega) (by omega) (by omega)
  · rw [hYlo j (by omega)]; exact hr j (by omega) (by omega)
  · rw [hXr 80 (by decide) (by decide), hX]
    show cond (Nat.beq k 45) _ (I 80 k) = _
    rw [rdI_nb k1]
    rfl
  · rw [l8 j (by omega), va_n1 (by omega)]
  · rw [hYlo j (by omega)]
    exact lo j (by omega) (by omega) (by omega) (by omega) (by omega) (fun i hi => by have := hahge i hi; omega)
  · rw [hYlo 55 (by omega), l11, va_e1, upd_n (by decide), va_n1 (by omega)]
  · rw [hYlo 13 (by omega), l12, va_n1 (by decide), va_n1 (by omega)]
  · rw [hkn]
    exact (l13 e).1 i hi
  · obtain ⟨y1, y2, y3, y4, y5⟩ := n4 i i1 (by rw [← hnC]; exact i2)
    rw [hXr 107 (by decide) (by decide), hXr 108 (by decide) (by decide), hXr 109 (by decide) (by decide), hXr 110 (by decide) (by decide), hXr 111 (by decide) (by decide)]
    exact ⟨y1.symm, y2.symm, y3.symm, y4.symm, y5.symm⟩
