/-! AS: both sides answer alike -/
theorem as_fin {n C : Nat} {kk : Nat → Nat × Nat} {q : Nat → Nat → Option Nat} {I I' X : Nat → Nat → Int32} {L L' : Nat → Nat → Int64} {ah : Nat → Nat} {M : Nat → List (Nat × Nat × List Nat)} {x : Int32} {R : Nat} (g : gInv n kk q I L C ah M) (hX : X = va_up I 80 (upd (I 80) 46 x)) (hB : wfB X) (cg : cGr n kk q I' L' X C ah) (li : LI X C ah (kn I) (kn X) R (va_up I 55 (upd (I 55) 3 x)) L I' L' C) :
    gInv n kk q (va_up I' 80 (upd (I' 80) 46 x)) L' C ah M ∧ oFr n kk kk I (va_up I' 80 (upd (I' 80) 46 x)) L L' ∧ cntF I (va_up I' 80 (upd (I' 80) 46 x)) C ∧ I' 80 45 = I 80 45 := by
  obtain ⟨gT, gB, gG, gc, gm, gn⟩ := g
  have hnC : nC I = C := gG.2.2.1.2.1
  have hC200 : C ≤ 200 := by rw [← hnC]; exact gB.1.2
  have hah : ∀ i, i < C → 131 ≤ ah i ∧ ah i < n ∧ kk (ah i) = (0, 0) := fun i hi => ⟨(gG.2.2.1.1.1 i hi).2.1, gG.2.2.1.1.2.1 i hi, (gG.2.2.1.1.1 i hi).2.2⟩
  obtain ⟨l1, ⟨R1, l2, l2a, l2b⟩, l3, l4, l5, l6, l7, l8, m, m', l9, l10, l11, l12, l13⟩ := li
  have lo : ∀ j, j ≠ 13 → j ≠ 15 → j ≠ 17 → j ≠ 55 → (j < 19 ∨ 34 < j) → (∀ i, i < C → j ≠ ah i) → I' j = I j := fun j j1 j2 j3 j4 j5 j6 => by
    rw [l5 j j1 j2 j3 j4 j5 j6, va_n1 j4]
  have lo2 : ∀ j, j < 127 → j ≠ 13 → j ≠ 15 → j ≠ 17 → j ≠ 55 → (j < 19 ∨ 34 < j) → I' j = I j := fun j j0 j1 j2 j3 j4 j5 => lo j j1 j2 j3 j4 j5 (fun i hi => by have := hah i hi; omega)
  have hr : ∀ j, 80 ≤ j → j < 127 → I' j = I j := fun j j1 j2 => lo2 j j2 (by omega) (by omega) (by omega) (by omega) (by omega)
  have hY80 : va_up I' 80 (upd (I' 80) 46 x) 80 = X 80 := by rw [va_e1, hX, va_e1, hr 80 (by decide) (by decide)]
  have hYlo : ∀ j, j ≠ 80 → va_up I' 80 (upd (I' 80) 46 x) j = I' j := fun j hj => va_n1 hj
  have hXlo : ∀ j, j ≠ 80 → X j = I j := fun j hj => by rw [hX]; exact va_n1 hj
  generalize va_up I' 80 (upd (I' 80) 46 x) = Y at hY80 hYlo
  have hrE : rE Y X := ⟨fun j j1 j2 => by rw [hYlo j (by omega), hXlo j (by omega)]; exact hr j (by omega) (by omega), by rw [hY80], by rw [hY80]⟩
  have hXT : wfT X := wfT_r (fun j j1 j2 => (hXlo j (by omega)).symm) gT
  have hXC : nC X = C := by unfold nC at hnC ⊢; rw [hX, va_e1, upd_n (by decide)]; exact hnC
  refine ⟨⟨wfT_c hrE hXT, wfB_c hrE hB, ?_, ?_, fun r r1 r2 r3 => ?_, gn⟩, ⟨fun j j1 j2 => ?_, fun j j1 => ?_, fun j j1 j2 => ?_, fun k k1 k2 => ?_, fun j j1 j2 => ?_, fun j j1 => ⟨?_, rfl⟩⟩, ⟨m, m', l9, by omega, ?_, ?_, fun e i hi => ?_, fun i i1 i2 => ?_⟩, by rw [hr 80 (by decide) (by decide)]⟩
  · exact cGr_m (Nat.le_refl _) (fun _ _ => rfl) rfl (fun j hj => hYlo j (by omega)) (fun j j1 j2 => hYlo j (by omega)) (fun _ _ => rfl) (cGr_X hrE cg)
  · refine cCode_m (Nat.le_refl _) (fun _ _ => rfl) (fun _ _ => rfl) (fun j j1 j2 j3 => ?_) (fun i hi => by rw [hYlo 107 (by decide), hr 107 (by decide) (by decide)]) gc
    rw [hYlo j (by omega)]
    exact lo j (by omega) (by omega) (by omega) (by omega) (by omega) (fun i hi z => j3 (by rw [z]; exact (hah i hi).2.2))
  · have hrow : ∀ j, 82 ≤ j → j ≤ 107 → Y j = I j := fun j j1 j2 => by rw [hYlo j (by omega), hr j (by omega) (by omega)]
    rw [hrow 107 (by decide) (by decide)] at r3
    rw [(kn_c hrE).1, hXC] at r2
    rw [hrow 82 (by decide) (by decide), hrow 83 (by decide) (by decide), hrow 84 (by decide) (by decide), hrow 85 (by decide) (by decide), hrow 86 (by decide) (by decide), hrow 87 (by decide) (by decide)]
    exact gm r r1 (by rw [hnC]; exact r2) r3
  · rw [hYlo j (by omega)]; exact lo2 j (by omega) (by omega) (by omega) (by omega) (by omega) (by omega)
  · rw [hYlo j (by omega)]; exact lo2 j (by omega) (by omega) (by omega) (by omega) (by omega) (by omega)
  · rw [hYlo j (by omega)]; exact hr j (by omega) (by omega)
  · rw [hY80, hX, va_e1, upd_n k2]
  · exact l8 j (by omega)
  · rw [hYlo j (by omega)]
    exact lo j (by omega) (by omega) (by omega) (by omega) (by omega) (fun i hi => by have := hah i hi; omega)
  · rw [hYlo 55 (by omega), l11, va_e1, upd_n (by decide)]
  · rw [hYlo 13 (by omega), l12, va_n1 (by decide)]
  · rw [(kn_c hrE).2.2]
    exact (l13 e).1 i hi
  · rw [hYlo 107 (by decide), hYlo 108 (by decide), hYlo 109 (by decide), hYlo 110 (by decide), hYlo 111 (by decide), hr 107 (by decide) (by decide), hr 108 (by decide) (by decide), hr 109 (by decide) (by decide), hr 110 (by decide) (by decide), hr 111 (by decide) (by decide)]
    exact ⟨rfl, rfl, rfl, rfl, rfl⟩
theorem oj_as {d n sl C : Nat} {kk : Nat → Nat × Nat} {q : Nat → Nat → Option Nat} {I : Nat → Nat → Int32} {L : Nat → Nat → Int64} {ah : Nat → Nat} {M : Nat → List (Nat × Nat × List Nat)} (g : gInv n kk q I L C ah M) {x : Int32} : am_T (d + 5) 124 0 (am_ent 2 [.ref 0, .int x]) [] (n, sl, wKK kk, I, L, wQQ q) (ojQ (d + 1) 197 (am_ent 2 [.ref 80, .int x]) (ojR n sl kk I L C M)) := by
  have gT := g.1
  have gB := g.2.1
  have gG := g.2.2.1
  have hnC : nC I = C := gG.2.2.1.2.1
  have hC200 : C ≤ 200 := by rw [← hnC]; exact gB.1.2
  have h45 : I 80 45 = nI C := by rw [gB.1.1, hnC]
  have hnCi : (nI C).toInt = C := by rw [nI_j, jI_toInt ⟨by omega, by omega⟩]
  have e1 : x < -1 ↔ x.toInt < -1 := Int32.lt_iff_toInt_lt
  have e2 : nI C < x ↔ (C : Int) < x.toInt := by rw [Int32.lt_iff_toInt_lt, hnCi]
  have hmi : ∀ J : Nat → Nat → Int32, J 80 45 = nI C → (sp_m_is x (-1) (J 80 45) = 0 ↔ (x < -1 ∨ nI C < x)) := fun J hJ => by
    have e3 := ar_mi2 (x := x) (A := -1) (B := nI C) (a := -1) (b := C) rfl (nI_j C) ⟨by decide, by decide⟩ ⟨by omega, by omega⟩
    rw [hJ, e3, e1, e2]
    omega
  have hX : ¬ (x < -1 ∨ nI C < x) → wfB (va_up I 80 (upd (I 80) 46 x)) ∧ asX I (va_up I 80 (upd (I 80) 46 x)) x := by
    intro h
    have k1 : ¬ x.toInt < -1 := fun q => h (Or.inl (e1.mpr q))
    have k2 : ¬ (C : Int) < x.toInt := fun q => h (Or.inr (e2.mpr q))
    have hlo : ∀ j, j ≠ 80 → va_up I 80 (upd (I 80) 46 x) j = I j := fun j hj => va_n1 hj
    have h45' : va_up I 80 (upd (I 80) 46 x) 80 45 = I 80 45 := by rw [va_e1, upd_n (by decide)]
    have h46' : va_up I 80 (upd (I 80) 46 x) 80 46 = x := by rw [va_e1, upd_e]
    have hc' : nC (va_up I 80 (upd (I 80) 46 x)) = C := by unfold nC at hnC ⊢; rw [h45']; exact hnC
    refine ⟨⟨⟨by rw [hc', h45']; exact h45, by omega⟩, ?_, fun n n1 n2 => ?_⟩, fun j j1 j2 => (hlo j (by omega)).symm, h45', h46'⟩
    · rw [h46', hc']
      by_cases z : x.toInt < 0
      · left
        have : x.toInt = -1 := by omega
        rw [← jI_self x, this]; rfl
      · right
        have hx := x_nI (x := x) (by omega)
        refine ⟨hx, ?_⟩
        show x.toInt.toNat ≤ C
        omega
    · rw [hc'] at n2
      have := gB.2.2 n n1 (by rw [hnC]; exact n2)
      unfold wfA vdN dyN thN clN at this ⊢
      rw [hc', hlo 112 (by decide), hlo 108 (by decide), hlo 107 (by decide), hlo 111 (by decide), hlo 109 (by decide), hlo 110 (by decide)]
      rw [hnC] at this
      exact this
  have h := tv_b_turnTo (d := d) (sl := sl) gB gG hX
  refine tv_w (tv_x_as (fun rv h1 ho => ?_) h) (fun rv h1 ho => ?_)
  · rcases ho with ⟨_, rfl, _⟩ | ⟨_, rfl, _⟩
    · exact ⟨0, rfl, Or.inl rfl⟩
    · exact ⟨1, rfl, Or.inr rfl⟩
  · rcases ho with ⟨hv, rfl, rfl⟩ | ⟨hv, rfl, I', L', R, rfl, cg, li⟩
    · refine ⟨0, rfl, ?_⟩
      have e := ev_m_as (d := d) (n := n) (sl := sl) (k := kk) (q := q) (I := I) (L := L) (x := x)
      have f0 := (hmi I h45).mpr hv
      have f1 : sp_m_as x I L = 0 := if_pos f0
      have f2 : sI_m_as x I L = I := if_pos f0
      have f3 : sL_m_as x I L = L := by unfold sL_m_as; split <;> rfl
      rw [f1, f2, f3] at e
      exact tv_e e ⟨rfl, ojR_same g⟩
    · obtain ⟨k1, k2, k3, k4⟩ := as_fin g rfl (hX hv).1 cg li
      refine ⟨1, rfl, ?_⟩
      have e := ev_m_as (d := d) (n := n) (sl := sl) (k := kk) (q := q) (I := I') (L := L') (x := x)
      have f0 : ¬ sp_m_is x (-1) (I' 80 45) = 0 := fun q => hv ((hmi I' (by rw [k4]; exact h45)).mp q)
      have f1 : sp_m_as x I' L' = 1 := if_neg f0
      have f2 : sI_m_as x I' L' = va_up I' 80 (upd (I' 80) 46 x) := if_neg f0
      have f3 : sL_m_as x I' L' = L' := by unfold sL_m_as; split <;> rfl
      rw [f1, f2, f3] at e
      exact tv_e e ⟨rfl, n, sl, kk, _, L', q, C, ah, rfl, k1, k2, k3, ⟨Nat.le_refl _, by omega, by omega⟩, Nat.le_refl _⟩
