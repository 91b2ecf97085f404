/-! ANNUL: both sides answer alike -/
theorem wr_fin2 {n C : Nat} {kk : Nat → Nat × Nat} {q q' : Nat → Nat → Option Nat} {I I0 I' X Y : Nat → Nat → Int32} {L L' : Nat → Nat → Int64} {ah : Nat → Nat} {M : Nat → List (Nat × Nat × List Nat)} {s x a b c : Int32} {r : Nat → Int32} {R : Nat} (hs4 : s ≠ 4) (hC : C < 200) (g : gInv n kk q I L C ah M) (hen : enX I X C s x a b c) (hB : wfB X) (hXo : ∀ j, 80 < j → j < 127 → (j < 107 ∨ 112 < j) → X j = I j) (hX80 : ∀ k, k ≠ 45 → X 80 k = I 80 k) (hI0 : ∀ j, (j < 127 ∨ (∀ i, i < C → j ≠ ah i)) → I0 j = I j) (cg : cGr (n + 1) (va_up kk n (0, 0)) q' I' L' X (C + 1) (ahN ah C n)) (li : LI X (C + 1) (ahN ah C n) (kn I) (kn X) R (va_up (va_up I0 n r) 55 (upd ((va_up I0 n r) 55) 2 (nI (C + 1)))) (va_up L n (fun _ => 0)) I' L' (C + 1)) (hq : q' = va_up (qNew q n none) 56 (va_up ((qNew q n none) 56) C (some n))) (hY1 : ∀ j, 80 ≤ j → j < 127 → Y j = X j) (hY2 : ∀ j, (j < 80 ∨ 131 ≤ j) → Y j = I' j) :
    gInv (n + 1) (va_up kk n (0, 0)) q' Y L' (C + 1) (ahN ah C n) M ∧ oFr (n + 1) kk (va_up kk n (0, 0)) I Y L L' ∧ cntF I Y (C + 1) := by
  obtain ⟨gT, gB, gG, gc, gm, gn⟩ := g
  have hnC : nC I = C := gG.2.2.1.2.1
  have hah : ∀ i, i < C → 131 ≤ ah i ∧ ah i < n ∧ kk (ah i) = (0, 0) := fun i hi => ⟨(gG.2.2.1.1.1 i hi).2.1, gG.2.2.1.1.2.1 i hi, (gG.2.2.1.1.1 i hi).2.2⟩
  have hah1 : ∀ i, i < C → ahN ah C n i = ah i := fun i hi => if_neg (by omega)
  have hahC : ahN ah C n C = n := if_pos rfl
  have hahge : ∀ i, i < C + 1 → 131 ≤ ahN ah C n i ∧ ahN ah C n i ≤ n := fun i hi => by
    by_cases e : i = C
    · subst e; rw [hahC]; omega
    · rw [hah1 i (by omega)]; have := hah i (by omega); omega
  obtain ⟨l1, ⟨R1, l2, l2a, l2b⟩, l3, l4, l5, l6, l7, l8, m, m', l9, l10, l11, l12, l13⟩ := li
  have lo : ∀ j, j ≠ 13 → j ≠ 15 → j ≠ 17 → j ≠ 55 → (j < 19 ∨ 34 < j) → (∀ i, i < C + 1 → j ≠ ahN ah C n i) → I' j = I j := fun j j1 j2 j3 j4 j5 j6 => by
    rw [l5 j j1 j2 j3 j4 j5 j6, va_n1 j4, va_n1 (by have := j6 C (by omega); rw [hahC] at this; exact this)]
    exact hI0 j (Or.inr (fun i hi => by have := j6 i (by omega); rw [hah1 i hi] at this; exact this))
  have lo2 : ∀ j, j < 127 → j ≠ 13 → j ≠ 15 → j ≠ 17 → j ≠ 55 → (j < 19 ∨ 34 < j) → I' j = I j := fun j j0 j1 j2 j3 j4 j5 => lo j j1 j2 j3 j4 j5 (fun i hi => by have := hahge i hi; omega)
  have hrE : rE Y X := ⟨fun j j1 j2 => hY1 j (by omega) (by omega), by rw [hY1 80 (by decide) (by decide)], by rw [hY1 80 (by decide) (by decide)]⟩
  have eC := enX_nC hC hen
  obtain ⟨n0, n1, n2, n3, n4, n5, n6⟩ := hen
  have hkn := (kn_c hrE).2.2
  refine ⟨⟨wfT_c hrE (wfT_r n3 gT), wfB_c hrE hB, ?_, fun i hi h4 => ?_, fun r r1 r2 r3 => ?_, by omega⟩, ⟨fun j j1 j2 => ?_, fun j j1 => ?_, fun j j1 j2 => ?_, fun k k1 k2 => ?_, fun j j1 j2 => ?_, fun j j1 => ⟨?_, va_n1 (by omega)⟩⟩, m, m', l9, by omega, ?_, ?_, fun e i hi => ?_, fun i i1 i2 => ?_⟩
  · refine cGr_m (Nat.le_refl _) (fun _ _ => rfl) rfl (fun j hj => hY2 j (by omega)) (fun j j1 j2 => hY2 j (by omega)) (fun _ _ => rfl) (cGr_X hrE cg)
  · by_cases e : i = C
    · subst e
      exact absurd ((congrFun (hY1 107 (by decide) (by decide)) _).symm.trans h4) (by rw [n5]; exact hs4)
    · have hi2 : i < C := by omega
      have h4' : I 107 (i + 1) = 4 := by
        rw [hY1 107 (by decide) (by decide), ← (n4 (i + 1) (by omega) (by omega)).1] at h4
        exact h4
      obtain ⟨cod, q1, q2, q3, q4, q5, q6, q7, q8⟩ := gc i hi2 h4'
      have hai := hah i hi2
      have hcodn : ∀ i, i < C + 1 → cod ≠ ahN ah C n i := fun i hi => by
        by_cases e2 : i = C
        · subst e2; rw [hahC]; omega
        · rw [hah1 i (by omega)]
          intro z
          have := (hah i (by omega)).2.2
          rw [← z, q4] at this
          exact absurd (Prod.mk.inj this).1 (by decide)
      refine ⟨cod, ?_, q2, by omega, by rw [va_n1 (by omega)]; exact q4, q5, fun j hj => ?_, q7, q8⟩
      · rw [hah1 i hi2, hq, va_n1 (by omega)]
        show va_up q n _ (ah i) 6 = _
        rw [va_n1 (by omega)]
        exact q1
      · rw [hY2 cod (by omega), lo cod (by omega) (by omega) (by omega) (by omega) (by omega) hcodn]
        exact q6 j hj
  · have r2' : r ≤ C + 1 := by rw [(kn_c hrE).1, eC] at r2; exact r2
    have r3' : X 107 r = 4 := by rw [← hY1 107 (by decide) (by decide)]; exact r3
    have hrC : r ≤ C := by
      rcases Nat.lt_or_ge C r with z | z
      · have : r = C + 1 := by omega
        rw [this, n5] at r3'
        exact absurd r3' hs4
      · exact z
    have := gm r r1 (by rw [hnC]; exact hrC) (by rw [(n4 r r1 hrC).1]; exact r3')
    have hrow : ∀ j, 82 ≤ j → j ≤ 87 → Y j = I j := fun j j1 j2 => by rw [hY1 j (by omega) (by omega), hXo j (by omega) (by omega) (by omega)]
    rw [hrow 82 (by decide) (by decide), hrow 83 (by decide) (by decide), hrow 84 (by decide) (by decide), hrow 85 (by decide) (by decide), hrow 86 (by decide) (by decide), hrow 87 (by decide) (by decide)]
    exact this
  · rw [hY2 j (by omega)]; exact lo2 j (by omega) (by omega) (by omega) (by omega) (by omega) (by omega)
  · rw [hY2 j (by omega)]; exact lo2 j (by omega) (by omega) (by omega) (by omega) (by omega) (by omega)
  · rw [hY1 j (by omega) (by omega)]; exact hXo j (by omega) (by omega) (by omega)
  · rw [hY1 80 (by decide) (by decide)]; exact hX80 k k1
  · rw [l8 j (by omega), va_n1 (by omega)]
  · rw [hY2 j (by omega)]
    exact lo j (by omega) (by omega) (by omega) (by omega) (by omega) (fun i hi => by have := hahge i hi; omega)
  · rw [hY2 55 (by omega), l11, va_e1, upd_n (by decide), va_n1 (by omega), hI0 55 (Or.inl (by decide))]
  · rw [hY2 13 (by omega), l12, va_n1 (by decide), va_n1 (by omega), hI0 13 (Or.inl (by decide))]
  · rw [hkn]
    exact (l13 e).1 i hi
  · obtain ⟨y1, y2, y3, y4, y5⟩ := n4 i i1 (by rw [← hnC]; exact i2)
    rw [hY1 107 (by decide) (by decide), hY1 108 (by decide) (by decide), hY1 109 (by decide) (by decide), hY1 110 (by decide) (by decide), hY1 111 (by decide) (by decide)]
    exact ⟨y1.symm, y2.symm, y3.symm, y4.symm, y5.symm⟩
theorem oj_annul {d n sl C : Nat} {kk : Nat → Nat × Nat} {q : Nat → Nat → Option Nat} {I : Nat → Nat → Int32} {L : Nat → Nat → Int64} {ah : Nat → Nat} {M : Nat → List (Nat × Nat × List Nat)} (g : gInv n kk q I L C ah M) {x : Int32} : am_T (d + 6) 123 0 (am_ent 2 [.ref 0, .int x]) [] (n, sl, wKK kk, I, L, wQQ q) (ojQ (d + 1) 196 (am_ent 3 [.ref 80, .int x]) (ojR n sl kk I L C M)) := by
  have gT := g.1
  have gB := g.2.1
  have gG := g.2.2.1
  have gn := g.2.2.2.2.2
  have hnC : nC I = C := gG.2.2.1.2.1
  have hC200 : C ≤ 200 := by rw [← hnC]; exact gB.1.2
  have h45 : I 80 45 = nI C := by rw [gB.1.1, hnC]
  have h2 : I 55 2 = nI C := by rw [gG.2.2.1.2.2.2.1]; exact h45
  have hnCi : (nI C).toInt = C := by rw [nI_j, jI_toInt ⟨by omega, by omega⟩]
  have e1 : x < 1 ↔ x.toInt < 1 := Int32.lt_iff_toInt_lt
  have e2 : nI C < x ↔ (C : Int) < x.toInt := by rw [Int32.lt_iff_toInt_lt, hnCi]
  have hix : ∀ J : Nat → Nat → Int32, J 80 45 = nI C → ¬ x < 1 → ¬ J 80 45 < x → ¬ (x < 0 ∨ 201 ≤ x.toNatClampNeg) := fun J hJ k1 k2 => by
    have k1' : ¬ x.toInt < 1 := fun q => k1 (e1.mpr q)
    have k2' : ¬ (C : Int) < x.toInt := fun q => k2 (by rw [hJ]; exact e2.mpr q)
    rintro (z | z)
    · have := ar_lt0.mp z; omega
    · have : (201 : Nat) ≤ x.toInt.toNat := z
      omega
  have hL : ∀ J K, sL_m_annul x J K = K := fun J K => by
    unfold sL_m_annul
    repeat' split
    all_goals first | rfl | exact sL_enter
  have hno : sp_m_annul x I L = -1 ∧ sI_m_annul x I L = I → am_T (d + 1) 196 0 (am_ent 3 [.ref 80, .int x]) [] (n, sl, wKK kk, I, L, wQQ q) (fun rv2 h2 => rv2 = some (.int (-1)) ∧ ojR n sl kk I L C M h2) := fun h => by
    have e := ev_m_annul (d := d) (n := n) (sl := sl) (k := kk) (q := q) (L := L) (x := x) (he_ok gB) (hix I h45)
    rw [h.1, h.2, hL] at e
    exact tv_e e ⟨rfl, ojR_same g⟩
  by_cases hx : x < 1 ∨ nI C < x
  · refine tv_w (tv_x_annul (fun rv h1 ho => ⟨-1, ho.1⟩) (tv_b_strike0 (d := d + 4) (sl := sl) h2 hx)) (fun rv h1 ho => ?_)
    obtain ⟨rfl, rfl⟩ := ho
    refine ⟨-1, rfl, hno ?_⟩
    unfold sp_m_annul sI_m_annul
    by_cases c1 : x < 1
    · exact ⟨if_pos c1, if_pos c1⟩
    · have c2 : I 80 45 < x := by rw [h45]; exact hx.resolve_left c1
      exact ⟨by rw [if_neg c1, if_pos c2], by rw [if_neg c1, if_pos c2]⟩
  · have c1 : ¬ x < 1 := fun q => hx (Or.inl q)
    have c2 : ¬ nI C < x := fun q => hx (Or.inr q)
    have k1 : ¬ x.toInt < 1 := fun q => c1 (e1.mpr q)
    have k2 : ¬ (C : Int) < x.toInt := fun q => c2 (e2.mpr q)
    obtain ⟨k, hk, rfl⟩ : ∃ k, k < C ∧ x = nI (k + 1) := ⟨x.toInt.toNat - 1, by omega, by rw [show x.toInt.toNat - 1 + 1 = x.toInt.toNat by omega]; exact x_nI (by omega)⟩
    have hcl : (nI (k + 1)).toNatClampNeg = k + 1 := nI_clamp (by omega)
    have hvA := (gB.2.2 (k + 1) (by omega) (by omega)).1
    have hv0 : 0 < I 112 (k + 1) ↔ ¬ I 112 (k + 1) = 0 := by
      rw [hvA.1]
      have hb := hvA.2
      constructor
      · intro z q; rw [q] at z; exact absurd z (by decide)
      · intro z
        have : vdN I (k + 1) ≠ 0 := fun y => z (by rw [y]; rfl)
        exact (nI_lt2 (a := 0) (b := vdN I (k + 1)) (by omega) (by omega)).mpr (by omega)
    generalize hE : entI I (nI (C + 1)) (upd (I 107) (C + 1) 5) (upd (I 108) (C + 1) 0) (upd (I 109) (C + 1) (nI (k + 1))) (upd (I 110) (C + 1) 0) (upd (I 111) (C + 1) 0) (upd (I 112) (C + 1) 0) = E
    have hEen : enX I E C 5 0 (nI (k + 1)) 0 0 := by rw [← hE]; exact enX_ent hnC
    have hElo : ∀ j, j ≠ 80 → (j < 107 ∨ 112 < j) → E j = I j := fun j j1 j2 => by rw [← hE]; exact entI_lo j1 j2
    have hE112 : E 112 = upd (I 112) (C + 1) 0 := by rw [← hE]; rfl
    have hE80 : ∀ k, k ≠ 45 → E 80 k = I 80 k := fun k hk => by
      rw [← hE]
      show cond (Nat.beq k 45) _ (I 80 k) = _
      rw [rdI_nb hk]; rfl
    generalize hXX : va_up E 112 (upd (E 112) (k + 1) (nI (C + 1))) = X
    have hXlo : ∀ j, j ≠ 112 → X j = E j := fun j hj => by rw [← hXX]; exact va_n1 hj
    have hX112 : ∀ i, 1 ≤ i → i ≤ C → X 112 i = if i = k + 1 then nI (C + 1) else I 112 i := fun i i1 i2 => by
      rw [← hXX, va_e1, hE112]
      by_cases e : i = k + 1
      · subst e; rw [upd_e, if_pos rfl]
      · rw [upd_n e, if_neg e, upd_n (by omega)]
    have hXen : C < 200 → enX I X C 5 0 (nI (k + 1)) 0 0 := fun hC => by
      obtain ⟨p0, p1, p2, p3, p4, p5, p6, p7, p8, p9, p10⟩ := hEen
      refine ⟨p0, by rw [hXlo 80 (by decide)]; exact p1, by rw [hXlo 80 (by decide)]; exact p2, fun j j1 j2 => by rw [hXlo j (by omega)]; exact p3 j j1 j2, fun n n1 n2 => by rw [hXlo 107 (by decide), hXlo 108 (by decide), hXlo 109 (by decide), hXlo 110 (by decide), hXlo 111 (by decide)]; exact p4 n n1 n2, by rw [hXlo 107 (by decide)]; exact p5, by rw [hXlo 108 (by decide)]; exact p6, by rw [hXlo 109 (by decide)]; exact p7, by rw [hXlo 110 (by decide)]; exact p8, by rw [hXlo 111 (by decide)]; exact p9, ?_⟩
      rw [← hXX, va_e1, upd_n (by omega)]
      exact p10
    have hXB : C < 200 → wfB X := fun hC => by
      refine enX_B hC gB (hXen hC) (fun i i1 i2 => ?_) (wfA_void hC (hXen hC))
      have hh := hX112 i i1 i2
      unfold vdN
      rw [hh]
      by_cases e : i = k + 1
      · rw [if_pos e, nI_clamp (by omega)]; exact ⟨rfl, Nat.le_refl _⟩
      · rw [if_neg e]
        obtain ⟨w1, w2⟩ := (gB.2.2 i i1 (by omega)).1
        exact ⟨w1, by unfold vdN at w2; omega⟩
    have hs := tv_b_strike (d := d) (sl := sl) (X := X) hC200 gB gG gn hk (fun v => ⟨hXB v.2.2, hXen v.2.2⟩) hX112
    refine tv_w (tv_x_annul (fun rv h1 ho => ?_) hs) (fun rv h1 ho => ?_)
    · rcases ho with ⟨_, rfl, _⟩ | ⟨_, rfl, _⟩
      · exact ⟨-1, rfl⟩
      · exact ⟨nI (C + 1), rfl⟩
    · rcases ho with ⟨hv, rfl, rfl⟩ | ⟨hv, hw⟩
      · refine ⟨-1, rfl, hno ?_⟩
        unfold sp_m_annul sI_m_annul
        rw [h45, if_neg c1, if_neg c1, if_neg c2, if_neg c2, hcl]
        by_cases z1 : I 107 (k + 1) = 5
        · exact ⟨if_pos z1, if_pos z1⟩
        · rw [if_neg z1, if_neg z1]
          by_cases z2 : 0 < I 112 (k + 1)
          · exact ⟨if_pos z2, if_pos z2⟩
          · rw [if_neg z2, if_neg z2]
            have z3 : nI C = 200 := by
              have hz : C = 200 := by
                rcases Nat.lt_or_ge C 200 with y | y
                · exact absurd ⟨z1, Classical.not_not.mp (fun q => z2 (hv0.mpr q)), y⟩ hv
                · omega
              rw [hz]; rfl
            exact ⟨if_pos z3, if_pos z3⟩
      · obtain ⟨rfl, I', L', R, rfl, cg, li⟩ := hw
        have hC := hv.2.2
        refine ⟨nI (C + 1), rfl, ?_⟩
        have hah : ∀ i, i < C → 131 ≤ ah i ∧ ah i < n := fun i hi => ⟨(gG.2.2.1.1.1 i hi).2.1, gG.2.2.1.1.2.1 i hi⟩
        have hI0 : ∀ j, (j < 127 ∨ (∀ i, i < C → j ≠ ah i)) → va_up I (ah k) (upd (I (ah k)) 7 (nI (C + 1))) j = I j := fun j hj => va_n1 (by
          rcases hj with z | z
          · have := hah k hk; omega
          · exact z k hk)
        have hr : ∀ j, 80 ≤ j → j < 127 → I' j = I j := fun j j1 j2 => by
          rw [li.2.2.2.2.1 j (by omega) (by omega) (by omega) (by omega) (by omega) (fun i hi => by
            by_cases e : i = C
            · subst e; rw [show ahN ah i n i = n from if_pos rfl]; omega
            · rw [show ahN ah C n i = ah i from if_neg e]; have := hah i (by omega); omega), va_n1 (by omega), va_n1 (by omega)]
          exact hI0 j (Or.inl j2)
        have k45 : I' 80 45 = nI C := by rw [hr 80 (by decide) (by decide)]; exact h45
        have hen2 := ent_eq (s := 5) (x := 0) (a := nI (k + 1)) (b := 0) (c := 0) (L := L') k45 hC
        have hcc := entI_c (C := C) (s := 5) (x := 0) (a := nI (k + 1)) (b := 0) (c := 0) (ac := nI (C + 1)) hr
        rw [hE] at hcc
        have n200 : ¬ nI C = 200 := fun z => by have := (nI_eqI (a := C) (b := 200) (by omega) (by omega)).mp z; omega
        have z2 : ¬ 0 < I 112 (k + 1) := fun q => (hv0.mp q) hv.2.1
        have e := ev_m_annul (d := d) (n := n + 1) (sl := sl + 9) (k := va_up kk n (0, 0)) (q := va_up (qNew q n none) 56 (va_up ((qNew q n none) 56) C (some n))) (I := I') (L := L') (x := nI (k + 1)) (he2 k45 hC200) (hix I' k45)
        have f1 : sp_m_annul (nI (k + 1)) I' L' = nI (C + 1) := by
          unfold sp_m_annul
          rw [k45, if_neg c1, if_neg c2, hcl, hr 107 (by decide) (by decide), hr 112 (by decide) (by decide), if_neg hv.1, if_neg z2, if_neg n200]
          exact hen2.1
        have f2 : sI_m_annul (nI (k + 1)) I' L' = va_up (sI_m_enter 5 0 (nI (k + 1)) 0 0 I' L') 112 (upd ((sI_m_enter 5 0 (nI (k + 1)) 0 0 I' L') 112) (k + 1) (nI (C + 1))) := by
          unfold sI_m_annul
          rw [k45, if_neg c1, if_neg c2, hcl, hr 107 (by decide) (by decide), hr 112 (by decide) (by decide), if_neg hv.1, if_neg z2, if_neg n200, hen2.1]
        rw [f1, f2, hL] at e
        refine tv_e e ⟨rfl, n + 1, sl + 9, va_up kk n (0, 0), _, L', _, C + 1, ahN ah C n, rfl, ?_⟩
        have hfin := wr_fin2 (Y := va_up (sI_m_enter 5 0 (nI (k + 1)) 0 0 I' L') 112 (upd ((sI_m_enter 5 0 (nI (k + 1)) 0 0 I' L') 112) (k + 1) (nI (C + 1)))) (by decide) hC g (hXen hC) (hXB hC) (fun j j1 j2 j3 => by rw [hXlo j (by omega)]; exact hElo j (by omega) j3) (fun k hk => by rw [hXlo 80 (by decide)]; exact hE80 k hk) hI0 cg li rfl (fun j j1 j2 => by
          rw [hen2.2]
          by_cases e : j = 112
          · subst e; rw [va_e1, hcc 112 (by decide) (by decide), ← hXX, va_e1]
          · rw [va_n1 e, hcc j j1 j2, hXlo j e]) (fun j hj => by
          rw [hen2.2, va_n1 (by omega)]
          exact entI_lo (by omega) (by omega))
        exact ⟨hfin.1, hfin.2.1, hfin.2.2, ⟨by omega, by omega, by omega⟩, by omega⟩
