/-! THE MANDATE IN FORCE, of both sides -/
def rN (X : Nat → Nat → Int32) (D : Nat) : Nat → Nat
  | 0 => 0
  | k + 1 => if kn X (k + 1) = true ∧ X 107 (k + 1) = 4 ∧ dyN X (k + 1) ≤ D ∧ (rN X D k = 0 ∨ dyN X (rN X D k) ≤ dyN X (k + 1)) then k + 1 else rN X D k
theorem rN_le {X : Nat → Nat → Int32} {D : Nat} : ∀ k, rN X D k ≤ k := by
  intro k
  induction k with
  | zero => exact Nat.le_refl _
  | succ k ih =>
    unfold rN
    split <;> omega
theorem rN_is {X : Nat → Nat → Int32} {D : Nat} : ∀ k, rN X D k ≠ 0 → kn X (rN X D k) = true ∧ X 107 (rN X D k) = 4 ∧ dyN X (rN X D k) ≤ D := by
  intro k
  induction k with
  | zero => intro h; exact absurd rfl h
  | succ k ih =>
    intro h
    unfold rN at h ⊢
    by_cases c : kn X (k + 1) = true ∧ X 107 (k + 1) = 4 ∧ dyN X (k + 1) ≤ D ∧ (rN X D k = 0 ∨ dyN X (rN X D k) ≤ dyN X (k + 1))
    · rw [if_pos c]; exact ⟨c.1, c.2.1, c.2.2.1⟩
    · rw [if_neg c] at h ⊢; exact ih h
theorem rN_now {X : Nat → Nat → Int32} {D : Nat} (hB : wfB X) : rN X D (nC X) = rN X D (nNow X) := by
  have hn := (nNow_v hB).2
  have key : ∀ k, nNow X + k ≤ nC X → rN X D (nNow X + k) = rN X D (nNow X) := by
    intro k
    induction k with
    | zero => intro _; rfl
    | succ k ih =>
      intro h
      have er : rN X D (nNow X + k + 1) = rN X D (nNow X + k) := if_neg (fun z => by rw [kn_f (fun y => by omega)] at z; exact absurd z.1 (by decide))
      exact er.trans (ih (by omega))
  have := key (nC X - nNow X) (by omega)
  rwa [show nNow X + (nC X - nNow X) = nC X by omega] at this
theorem nI_lt2 {a b : Nat} (ha : a < 2147483648) (hb : b < 2147483648) : nI a < nI b ↔ a < b := nI_ltI ha hb
theorem cruler_v {I X : Nat → Nat → Int32} {L : Nat → Nat → Int64} {C D : Nat} {ah : Nat → Nat} (hB : wfB X) (hC : nC X = C) (hact : ∀ i, i < C → cAct I X (i + 1) (ah i)) (hfl : ∀ i, i < C → I (ah i) 8 = bz (kn X (i + 1))) (hD : D < 400) : ∀ k, k ≤ C → it_j_ruling (nI D) C ah (-1) 0 I L k = (if rN X D k = 0 then -1 else nI (rN X D k), if rN X D k = 0 then 0 else nI (dyN X (rN X D k))) := by
  have hC2 := hB.1.2
  intro k
  induction k with
  | zero => intro _; rfl
  | succ k ih =>
    intro hk
    have ihk := ih (by omega)
    have e : it_j_ruling (nI D) C ah (-1) 0 I L (k + 1) = bd_j_ruling (nI D) C ah (it_j_ruling (nI D) C ah (-1) 0 I L k).1 (it_j_ruling (nI D) C ah (-1) 0 I L k).2 k I L := rfl
    rw [e, ihk]
    have ha := hact k (by omega)
    have hA := hB.2.2 (k + 1) (by omega) (by omega)
    have hdy : I (ah k) 1 = nI (dyN X (k + 1)) := by rw [ha.2.1]; exact hA.2.1
    have hd4 := hA.2.2.1
    have hkn : sp_a_isKnown (ah k) 4 I L = 0 ↔ ¬ (kn X (k + 1) = true ∧ X 107 (k + 1) = 4) := by
      unfold sp_a_isKnown
      rw [hfl k (by omega), ha.1]
      unfold bz
      by_cases c : kn X (k + 1) = true
      · rw [if_pos c, if_neg (by decide)]
        by_cases c2 : X 107 (k + 1) = 4
        · rw [if_pos c2]; exact ⟨fun q => absurd q (by decide), fun q => absurd ⟨c, c2⟩ q⟩
        · rw [if_neg c2]; exact ⟨fun _ q => c2 q.2, fun _ => rfl⟩
      · rw [if_neg c, if_pos rfl]; exact ⟨fun _ q => c q.1, fun _ => rfl⟩
    have hr0 := rN_le (X := X) (D := D) k
    have hrd : rN X D k ≠ 0 → dyN X (rN X D k) < 400 := fun h => (hB.2.2 (rN X D k) (by omega) (by omega)).2.2.1
    unfold bd_j_ruling
    by_cases c1 : kn X (k + 1) = true ∧ X 107 (k + 1) = 4
    · have n1 : ¬ sp_a_isKnown (ah k) 4 I L = 0 := fun q => hkn.mp q c1
      rw [if_neg n1, if_neg n1, hdy]
      by_cases c2 : dyN X (k + 1) ≤ D
      · have n2 : ¬ nI D < nI (dyN X (k + 1)) := fun q => by have := (nI_lt2 (by omega) (by omega)).mp q; omega
        rw [if_neg n2, if_neg n2]
        by_cases c3 : rN X D k = 0 ∨ dyN X (rN X D k) ≤ dyN X (k + 1)
        · have n3 : ¬ nI (dyN X (k + 1)) < (if rN X D k = 0 then 0 else nI (dyN X (rN X D k))) := by
            by_cases z : rN X D k = 0
            · rw [if_pos z]; exact nI_pos (by omega)
            · rw [if_neg z]; intro q; have := (nI_lt2 (by omega) (by have := hrd z; omega)).mp q; omega
          rw [if_neg n3, if_neg n3]
          have er : rN X D (k + 1) = k + 1 := if_pos ⟨c1.1, c1.2, c2, c3⟩
          rw [er, if_neg (by omega), if_neg (by omega)]
        · have n3 : nI (dyN X (k + 1)) < (if rN X D k = 0 then 0 else nI (dyN X (rN X D k))) := by
            have z : rN X D k ≠ 0 := fun z => c3 (Or.inl z)
            rw [if_neg z]
            exact (nI_lt2 (by omega) (by have := hrd z; omega)).mpr (by omega)
          rw [if_pos n3, if_pos n3]
          have er : rN X D (k + 1) = rN X D k := if_neg (fun z => c3 z.2.2.2)
          rw [er]
      · have n2 : nI D < nI (dyN X (k + 1)) := (nI_lt2 (by omega) (by omega)).mpr (by omega)
        rw [if_pos n2, if_pos n2]
        have er : rN X D (k + 1) = rN X D k := if_neg (fun z => c2 z.2.2.1)
        rw [er]
    · rw [if_pos (hkn.mpr c1), if_pos (hkn.mpr c1)]
      have er : rN X D (k + 1) = rN X D k := if_neg (fun z => c1 ⟨z.1, z.2.1⟩)
      rw [er]
theorem cruling {I X : Nat → Nat → Int32} {L : Nat → Nat → Int64} {C D : Nat} {ah : Nat → Nat} (hB : wfB X) (hC : nC X = C) (hact : ∀ i, i < C → cAct I X (i + 1) (ah i)) (hfl : ∀ i, i < C → I (ah i) 8 = bz (kn X (i + 1))) (h2 : I 55 2 = X 80 45) (hD : D < 400) : sp_j_ruling (nI D) ah I L = (if rN X D (nNow X) = 0 then -1 else nI (rN X D (nNow X))) := by
  have e : (I 55 2).toNatClampNeg = C := by rw [h2]; exact hC
  unfold sp_j_ruling
  rw [e, cruler_v hB hC hact hfl hD C (Nat.le_refl _), ← rN_now hB, hC]
theorem mruler_v {X : Nat → Nat → Int32} {L : Nat → Nat → Int64} {N D : Nat} (hB : wfB X) (hD : D < 400) : ∀ k, k ≤ nC X → it_m_inForce (nI D) N 0 X L k = nI (rN X D k) := by
  have hC2 := hB.1.2
  intro k
  induction k with
  | zero => intro _; rfl
  | succ k ih =>
    intro hk
    have e : it_m_inForce (nI D) N 0 X L (k + 1) = bd_m_inForce (nI D) N (it_m_inForce (nI D) N 0 X L k) k X L := rfl
    rw [e, ih (by omega)]
    have hA := hB.2.2 (k + 1) (by omega) (by omega)
    have hdy := hA.2.1
    have hd4 := hA.2.2.1
    have hkn := known_k (L := L) hB (n := k + 1) (by omega) (by omega)
    have hr0 := rN_le (X := X) (D := D) k
    have hrA : rN X D k ≠ 0 → X 108 (rN X D k) = nI (dyN X (rN X D k)) ∧ dyN X (rN X D k) < 400 := fun h => by have := hB.2.2 (rN X D k) (by omega) (by omega); exact ⟨this.2.1, this.2.2.1⟩
    unfold bd_m_inForce
    rw [hkn, hdy, nI_clamp (show rN X D k < 2 ^ 31 by omega)]
    by_cases c0 : kn X (k + 1) = true
    · rw [if_neg (show ¬ (if kn X (k + 1) = true then (1 : Int32) else 0) = 0 by rw [if_pos c0]; decide)]
      by_cases c1 : X 107 (k + 1) = 4
      · rw [if_pos c1]
        by_cases c2 : dyN X (k + 1) ≤ D
        · rw [if_neg (show ¬ nI D < nI (dyN X (k + 1)) from fun q => by have := (nI_lt2 (by omega) (by omega)).mp q; omega)]
          by_cases z : rN X D k = 0
          · have er : rN X D (k + 1) = k + 1 := if_pos ⟨c0, c1, c2, Or.inl z⟩
            rw [er, if_pos (by rw [z]; rfl)]
          · rw [if_neg (show ¬ nI (rN X D k) = 0 from fun q => z ((nI_eqI (a := rN X D k) (b := 0) (by omega) (by omega)).mp q)), (hrA z).1]
            by_cases c3 : dyN X (rN X D k) ≤ dyN X (k + 1)
            · have er : rN X D (k + 1) = k + 1 := if_pos ⟨c0, c1, c2, Or.inr c3⟩
              rw [er, if_neg (fun q => by have := (nI_lt2 (by omega) (by have := (hrA z).2; omega)).mp q; omega)]
            · have er : rN X D (k + 1) = rN X D k := if_neg (fun y => y.2.2.2.elim z c3)
              rw [er, if_pos ((nI_lt2 (by omega) (by have := (hrA z).2; omega)).mpr (by omega))]
        · have er : rN X D (k + 1) = rN X D k := if_neg (fun y => c2 y.2.2.1)
          rw [er, if_pos ((nI_lt2 (by omega) (by omega)).mpr (by omega))]
      · have er : rN X D (k + 1) = rN X D k := if_neg (fun y => c1 y.2.1)
        rw [er, if_neg c1]
    · have er : rN X D (k + 1) = rN X D k := if_neg (fun y => c0 y.1)
      rw [er, if_pos (if_neg c0)]
theorem mruling {X : Nat → Nat → Int32} {L : Nat → Nat → Int64} {D : Nat} (hB : wfB X) (hD : D < 400) : sp_m_inForce (nI D) X L = nI (rN X D (nNow X)) := by
  obtain ⟨h1, h2⟩ := now_N (L := L) hB
  have hn : nNow X < 2 ^ 31 := by have := hB.1.2; omega
  unfold sp_m_inForce
  rw [h1, nI_clamp hn, mruler_v hB hD _ h2]
