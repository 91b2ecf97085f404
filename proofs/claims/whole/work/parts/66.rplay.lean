/-! THE REFERENCE PLAYS THE GROUND'S DAYS -/
section R66
variable {I : Nat → Nat → Int32} {L : Nat → Nat → Int64}
theorem ovh_j (hT : wfT I) {r : Nat} (hr : r < 8) {l : Int} (hl : -1000000000 ≤ l ∧ l ≤ 1000000000) : sp_m_overhang (nI r) (jL l) I L = jL (oh I r l) := by
  have h := (oh_b hT hr hl).1
  unfold sp_m_overhang
  rw [nI_clamp (by omega), i64_j, i64_j, jL_mul, show (1000000 : Int64) = jL 1000000 from rfl, over_j ⟨by omega, by omega⟩ ⟨by decide, by decide⟩ (by decide), jL_add]
  rfl
theorem weighs_v (hT : wfT I) {D : Nat} {l : Int} (hl : -1000000000 ≤ l ∧ l ≤ 1000000000) (L0 : Nat → Nat → Int64) {a b : Int} (h57 : L0 80 57 = jL a) (h58 : L0 80 58 = jL b) : ∀ k, k ≤ 8 → (it_m_weighs D (jL l) I L0 k) 80 57 = jL (a + zS (fun r => (I 95 r).toInt) k) ∧ (it_m_weighs D (jL l) I L0 k) 80 58 = jL (b + zS (fun r => (I 95 r).toInt * oh I r l) k) ∧ (∀ j, j ≠ 80 → (it_m_weighs D (jL l) I L0 k) j = L0 j) ∧ (∀ i, i ≠ 57 → i ≠ 58 → (it_m_weighs D (jL l) I L0 k) 80 i = L0 80 i) := by
  intro k
  induction k with
  | zero => intro _; exact ⟨by rw [show a + zS (fun r => (I 95 r).toInt) 0 = a from Int.add_zero a]; exact h57, by rw [show b + zS (fun r => (I 95 r).toInt * oh I r l) 0 = b from Int.add_zero b]; exact h58, fun j _ => rfl, fun i _ _ => rfl⟩
  | succ k ih =>
    intro hk
    obtain ⟨i1, i2, i3, i4⟩ := ih (by omega)
    have e : it_m_weighs D (jL l) I L0 (k + 1) = bd_m_weighs D (jL l) k I (it_m_weighs D (jL l) I L0 k) := rfl
    rw [e]
    unfold bd_m_weighs
    rw [ovh_j hT (by omega) hl]
    refine ⟨?_, ?_, fun j hj => ?_, fun i h1 h2 => ?_⟩
    · show (it_m_weighs D (jL l) I L0 k) 80 57 + (I 95 k).toInt64 = _
      rw [i1, i64_j, jL_add, Int.add_assoc]
      rfl
    · show (it_m_weighs D (jL l) I L0 k) 80 58 + (I 95 k).toInt64 * _ = _
      rw [i2, i64_j, jL_mul, jL_add, Int.add_assoc]
      rfl
    · rw [va_n1 hj, va_n1 hj]; exact i3 j hj
    · rw [va_e1, vu_n h2, va_e1, vu_n h1]; exact i4 i h1 h2
theorem weigh_v (hT : wfT I) {D : Nat} {l : Int} (hl : -1000000000 ≤ l ∧ l ≤ 1000000000) (h115 : L 115 D = jL (gT I (kn I) D)) (h116 : L 116 D = jL (gM I (kn I) D)) : sL_m_weighs D (jL l) I L 80 57 = jL (tot I D) ∧ sL_m_weighs D (jL l) I L 80 58 = jL (mom I D l) ∧ (∀ j, j ≠ 80 → sL_m_weighs D (jL l) I L j = L j) ∧ (∀ i, i ≠ 57 → i ≠ 58 → sL_m_weighs D (jL l) I L 80 i = L 80 i) := by
  have h := weighs_v (D := D) hT hl (va_up (va_up L 80 (vp_updL (L 80) 57 (L 115 D))) 80 (vp_updL ((va_up L 80 (vp_updL (L 80) 57 (L 115 D))) 80) 58 (L 116 D))) (a := gT I (kn I) D) (b := gM I (kn I) D) h115 h116 8 (Nat.le_refl _)
  obtain ⟨a1, a2, a3, a4⟩ := h
  refine ⟨?_, ?_, fun j hj => ?_, fun i h1 h2 => ?_⟩
  · show it_m_weighs _ _ _ _ 8 80 57 = _
    rw [a1]; unfold tot; rw [Int.add_comm]
  · show it_m_weighs _ _ _ _ 8 80 58 = _
    rw [a2]; unfold mom; rw [Int.add_comm]
  · exact (a3 j hj).trans (by rw [va_n1 hj, va_n1 hj])
  · exact (a4 i h1 h2).trans (by rw [va_e1, vu_n h2, va_e1, vu_n h1])
theorem load_j {c : Nat} {t m : Int} (hc : c < 16) (h57 : L 80 57 = jL t) (h58 : L 80 58 = jL m) (ht : -300000 ≤ t ∧ t ≤ 300000) (hm : -9000000000 ≤ m ∧ m ≤ 9000000000) : sp_m_loadOf (nI c) I L = jL (ldZ t m c) := by
  have hb := ldin_b hc ht hm
  have hv : sp_m_over (((L 80 57) * 42500) + ((L 80 58) * ((2 * (nI c).toInt64) - 15))) 680000 = jL ((t * 42500 + m * (2 * (c : Int) - 15)) / 680000) := by
    rw [h57, h58, nI_j, jI_64 ⟨by omega, by omega⟩, show (42500 : Int64) = jL 42500 from rfl, show (2 : Int64) = jL 2 from rfl, show (15 : Int64) = jL 15 from rfl, show (680000 : Int64) = jL 680000 from rfl, jL_mul, jL_mul, jL_sub, jL_mul, jL_add]
    exact over_j ⟨by omega, by omega⟩ ⟨by decide, by decide⟩ (by decide)
  unfold sp_m_loadOf
  rw [hv]
  have hd := divB (a := t * 42500 + m * (2 * (c : Int) - 15)) (b := 680000) (A := 160000000000) hb (by decide)
  unfold ldZ
  by_cases h : (t * 42500 + m * (2 * (c : Int) - 15)) / 680000 < 0
  · rw [if_neg (by rw [cmp_ge]; exact fun q => q ((jL_lt (b := 0) ⟨by omega, by omega⟩ ⟨by decide, by decide⟩).mpr h)), Int.max_eq_left (by omega)]
    rfl
  · rw [if_pos (by rw [cmp_ge]; exact fun q => h ((jL_lt (b := 0) ⟨by omega, by omega⟩ ⟨by decide, by decide⟩).mp q)), Int.max_eq_right (by omega)]
theorem leans_v {D : Nat} {s : Nat → Int} (h : ∀ c, c < 16 → L 113 (16 * D + c) = jL (s c)) : ∀ k, k ≤ 16 → it_m_leanOf D 0 I L k = jL (zS (fun c => (2 * (c : Int) - 15) * s c) k) := by
  intro k
  induction k with
  | zero => intro _; rfl
  | succ k ih =>
    intro hk
    show it_m_leanOf D 0 I L k + (((2 * ((nI k).toInt64)) - 15) * (L 113 ((16 * D) + k))) = _
    rw [ih (by omega), h k (by omega), nI_j, jI_64 ⟨by omega, by omega⟩, show (2 : Int64) = jL 2 from rfl, show (15 : Int64) = jL 15 from rfl, jL_mul, jL_sub, jL_mul, jL_add]
    rfl
theorem lean_v {D : Nat} {s : Nat → Int} {B : Int} (hB : B ≤ 30000000000) (hs : ∀ c, c < 16 → -B ≤ s c ∧ s c ≤ B) (h : ∀ c, c < 16 → L 113 (16 * D + c) = jL (s c)) : sp_m_leanOf D I L = jL (lz (xs s)) := by
  have hx := xs_b hs
  have e : it_m_leanOf D 0 I L 16 = jL (xs s) := leans_v h 16 (Nat.le_refl _)
  have hv : sp_m_over (1000 * (it_m_leanOf D 0 I L 16)) 1360 = jL (1000 * xs s / 1360) := by
    rw [e, show (1000 : Int64) = jL 1000 from rfl, show (1360 : Int64) = jL 1360 from rfl, jL_mul]
    exact over_j ⟨by omega, by omega⟩ ⟨by decide, by decide⟩ (by decide)
  have hd := divB (a := 1000 * xs s) (b := 1360) (A := 7200000000000000) (by omega) (by decide)
  unfold sp_m_leanOf
  rw [hv]
  have hb : bL (1000 * xs s / 1360) := ⟨by omega, by omega⟩
  unfold lz
  by_cases h1 : 1000000000 < 1000 * xs s / 1360
  · rw [if_neg (by rw [cmp_le]; exact fun q => q ((jL_lt (a := 1000000000) ⟨by decide, by decide⟩ hb).mpr h1)), Int.min_eq_left (by omega), Int.max_eq_right (by omega)]
    rfl
  · rw [if_pos (by rw [cmp_le]; exact fun q => h1 ((jL_lt (a := 1000000000) ⟨by decide, by decide⟩ hb).mp q)), Int.min_eq_right (by omega)]
    by_cases h2 : 1000 * xs s / 1360 < -1000000000
    · rw [if_neg (by rw [cmp_ge]; exact fun q => q ((jL_lt (b := -1000000000) hb ⟨by decide, by decide⟩).mpr h2)), Int.max_eq_left (by omega)]
      rfl
    · rw [if_pos (by rw [cmp_ge]; exact fun q => h2 ((jL_lt (b := -1000000000) hb ⟨by decide, by decide⟩).mp q)), Int.max_eq_right (by omega)]
def exZ (c0 e : Int32) (c : Nat) : Int := if nI c = c0 then e.toInt else 0
set_option maxHeartbeats 1000000 in
theorem goesk_v (hT : wfT I) (hB : wfB I) {D : Nat} (hD : D < 400) {l : Int} (hl : -1000000000 ≤ l ∧ l ≤ 1000000000) {s : Nat → Int} {c0 e : Int32} (he : 0 ≤ e.toInt ∧ e.toInt ≤ 1000) (hI : ∀ d c, d < 400 → c < 16 → I 117 (16 * d + c) = jI (gLi I (kn I) c d) ∧ I 118 (16 * d + c) = jI (gFr I (kn I) c d)) (L0 : Nat → Nat → Int64) (h57 : L0 80 57 = jL (tot I D)) (h58 : L0 80 58 = jL (mom I D l)) (hs : ∀ c, c < 16 → L0 113 (16 * D + c) = jL (s c)) : ∀ k, k ≤ 16 → (∀ c, c < k → (it_m_goes D c0 e (wf 50 (I 101) (I 100) D) I L0 k) 113 (16 * D + 16 + c) = jL (s c + dG I c D l + 50 * exZ c0 e c)) ∧ (∀ j, (j < 16 * D + 16 ∨ 16 * D + 16 + k ≤ j) → (it_m_goes D c0 e (wf 50 (I 101) (I 100) D) I L0 k) 113 j = L0 113 j) ∧ (∀ j, j ≠ 113 → (it_m_goes D c0 e (wf 50 (I 101) (I 100) D) I L0 k) j = L0 j) := by
  intro k
  induction k with
  | zero => intro _; exact ⟨fun c h => by omega, fun j _ => rfl, fun j _ => rfl⟩
  | succ k ih =>
    intro hk
    obtain ⟨i1, i2, i3⟩ := ih (by omega)
    have hq : ∃ v, it_m_goes D c0 e (wf 50 (I 101) (I 100) D) I L0 (k + 1) = va_up (it_m_goes D c0 e (wf 50 (I 101) (I 100) D) I L0 k) 113 (vp_updL ((it_m_goes D c0 e (wf 50 (I 101) (I 100) D) I L0 k) 113) (16 * D + 16 + k) v) ∧ v = jL (s k + dG I k D l + 50 * exZ c0 e k) := by
      have htb := tot_b hT hB D
      have hmb := mom_b hT hB D hl
      have hload : sp_m_loadOf (nI k) I (it_m_goes D c0 e (wf 50 (I 101) (I 100) D) I L0 k) = jL (ldZ (tot I D) (mom I D l) k) := load_j (by omega) (by rw [i3 80 (by decide)]; exact h57) (by rw [i3 80 (by decide)]; exact h58) htb hmb
      have h113 : (it_m_goes D c0 e (wf 50 (I 101) (I 100) D) I L0 k) 113 (16 * D + k) = jL (s k) := by rw [i2 _ (Or.inl (by omega))]; exact hs k (by omega)
      have hp := prin_b hT (show k < 16 by omega) hD htb hmb
      have hst := hT.1 k (by omega)
      have hpr : sp_m_over ((sp_m_loadOf (nI k) I (it_m_goes D c0 e (wf 50 (I 101) (I 100) D) I L0 k)) * (100 + (wf 50 (I 101) (I 100) D).toInt64)) (10 * ((I 94 k).toInt64)) = jL (prZ I k D l) := by
        rw [hload, i64_j, i64_j, show (100 : Int64) = jL 100 from rfl, show (10 : Int64) = jL 10 from rfl, jL_add, jL_mul, jL_mul]
        exact over_j ⟨by have := hp.1; unfold watZ at hp; omega, by unfold watZ at hp; omega⟩ ⟨by omega, by omega⟩ (by omega)
      have g1 := gLi_b (f := kn I) hB k D
      have g2 := gFr_b (f := kn I) hB k D
      have g3 := gFr_b (f := kn I) hB k (D - 1)
      have e7 := (hI D k hD (by omega)).1
      have e8 := (hI D k hD (by omega)).2
      have w1 : ∀ x : Int32, 0 ≤ x.toInt ∧ x.toInt ≤ 1000 → ((I 117 ((16 * D) + k)) + x).toInt64 = jL (gLi I (kn I) k D + x.toInt) := fun x hx => by
        have ex : I 117 ((16 * D) + k) + x = jI (gLi I (kn I) k D + x.toInt) := by
          rw [e7, ← jI_add, jI_self]
        rw [ex, jI_64 ⟨by omega, by omega⟩]
      have w2 : (I 118 ((16 * D) + k)).toInt64 = jL (gFr I (kn I) k D) := by rw [e8, jI_64 ⟨by omega, by omega⟩]
      have w3 : 0 < D → (I 118 (((16 * D) + k) - 16)).toInt64 = jL (gFr I (kn I) k (D - 1)) := fun h => by
        rw [show 16 * D + k - 16 = 16 * (D - 1) + k by omega, (hI (D - 1) k (by omega) (by omega)).2, jI_64 ⟨by omega, by omega⟩]
      have ix : ((16 * D) + k) + 16 = 16 * D + 16 + k := by omega
      have e9 : it_m_goes D c0 e (wf 50 (I 101) (I 100) D) I L0 (k + 1) = bd_m_goes D c0 e (wf 50 (I 101) (I 100) D) k I (it_m_goes D c0 e (wf 50 (I 101) (I 100) D) I L0 k) := rfl
      rw [e9]
      unfold bd_m_goes
      rw [hpr, h113, w2, ix]
      have hz0 : 0 ≤ (0 : Int32).toInt ∧ (0 : Int32).toInt ≤ 1000 := ⟨by decide, by decide⟩
      have z0 : (0 : Int32).toInt = 0 := by decide
      by_cases cd : D = 0
      · have hd0 : nI D ≤ 0 := (nI_leI (b := 0) (by omega) (by omega)).mpr (by omega)
        by_cases cc : nI k = c0
        · rw [if_pos cc, if_pos hd0, w1 e he]
          refine ⟨_, rfl, ?_⟩
          rw [show (50 : Int64) = jL 50 from rfl, show (2000 : Int64) = jL 2000 from rfl, jL_add, jL_mul, jL_mul, jL_sub, jL_add]
          refine congrArg jL ?_
          unfold dG wkZ exZ
          rw [if_pos cc, if_neg (by omega)]
          omega
        · rw [if_neg cc, if_pos hd0, w1 0 hz0, z0]
          refine ⟨_, rfl, ?_⟩
          rw [show (50 : Int64) = jL 50 from rfl, show (2000 : Int64) = jL 2000 from rfl, jL_add, jL_mul, jL_mul, jL_sub, jL_add]
          refine congrArg jL ?_
          unfold dG wkZ exZ
          rw [if_neg cc, if_neg (by omega)]
          omega
      · have hd0 : ¬ nI D ≤ 0 := fun h => by have := (nI_leI (b := 0) (by omega) (by omega)).mp h; omega
        by_cases cc : nI k = c0
        · rw [if_pos cc, if_neg hd0, w1 e he, w3 (by omega)]
          refine ⟨_, rfl, ?_⟩
          rw [show (50 : Int64) = jL 50 from rfl, show (2000 : Int64) = jL 2000 from rfl, show (3000 : Int64) = jL 3000 from rfl, jL_add, jL_mul, jL_mul, jL_sub, jL_add, jL_mul, jL_add]
          refine congrArg jL ?_
          unfold dG wkZ exZ
          rw [if_pos cc, if_pos (by omega)]
          omega
        · rw [if_neg cc, if_neg hd0, w1 0 hz0, w3 (by omega), z0]
          refine ⟨_, rfl, ?_⟩
          rw [show (50 : Int64) = jL 50 from rfl, show (2000 : Int64) = jL 2000 from rfl, show (3000 : Int64) = jL 3000 from rfl, jL_add, jL_mul, jL_mul, jL_sub, jL_add, jL_mul, jL_add]
          refine congrArg jL ?_
          unfold dG wkZ exZ
          rw [if_neg cc, if_pos (by omega)]
          omega
    obtain ⟨v, hv1, hv2⟩ := hq
    rw [hv1]
    refine ⟨fun c hc => ?_, fun j hj => ?_, fun j hj => ?_⟩
    · rw [va_e1]
      by_cases e1 : c = k
      · subst e1; rw [vu_e]; exact hv2
      · rw [vu_n (by omega)]; exact i1 c (by omega)
    · rw [va_e1, vu_n (by omega)]; exact i2 j (by omega)
    · rw [va_n1 hj]; exact i3 j hj
set_option maxHeartbeats 1000000 in
/-- what goes leaves -/
theorem goes_v (hT : wfT I) (hB : wfB I) {D : Nat} (hD : D < 400) {l : Int} (hl : -1000000000 ≤ l ∧ l ≤ 1000000000) {s : Nat → Int} {c0 e : Int32} (he : 0 ≤ e.toInt ∧ e.toInt ≤ 1000) (hI : ∀ d c, d < 400 → c < 16 → I 117 (16 * d + c) = jI (gLi I (kn I) c d) ∧ I 118 (16 * d + c) = jI (gFr I (kn I) c d)) (h115 : L 115 D = jL (gT I (kn I) D)) (h116 : L 116 D = jL (gM I (kn I) D)) (h114 : L 114 D = jL l) (hs : ∀ c, c < 16 → L 113 (16 * D + c) = jL (s c)) (hsb : ∀ c, c < 16 → -25000000000 ≤ s c ∧ s c ≤ 25000000000) :
    sI_m_goes D c0 e I L = I ∧ (∀ c, c < 16 → sL_m_goes D c0 e I L 113 (16 * (D + 1) + c) = jL (s c + dG I c D l + 50 * exZ c0 e c)) ∧ (∀ j, (j < 16 * (D + 1) ∨ 16 * (D + 2) ≤ j) → sL_m_goes D c0 e I L 113 j = L 113 j) ∧ sL_m_goes D c0 e I L 114 (D + 1) = jL (lz (xs (fun c => s c + dG I c D l + 50 * exZ c0 e c))) ∧ (∀ j, j ≠ D + 1 → sL_m_goes D c0 e I L 114 j = L 114 j) ∧ (∀ j, j ≠ 80 → j ≠ 113 → j ≠ 114 → sL_m_goes D c0 e I L j = L j) ∧ (∀ i, i ≠ 57 → i ≠ 58 → sL_m_goes D c0 e I L 80 i = L 80 i) := by
  obtain ⟨w1, w2, w3, w4⟩ := weigh_v (I := I) (L := L) (D := D) hT hl h115 h116
  have hIe : sI_m_goes D c0 e I L = I := by unfold sI_m_goes; exact sIe_m_weighs _ _ _ _
  have hg := goesk_v (c0 := c0) (s := s) hT hB hD hl he hI (sL_m_weighs D (jL l) I L) w1 w2 (fun c hc => by rw [w3 113 (by decide)]; exact hs c hc) 16 (Nat.le_refl _)
  obtain ⟨g1, g2, g3⟩ := hg
  have hL : sL_m_goes D c0 e I L = va_up (it_m_goes D c0 e (wf 50 (I 101) (I 100) D) I (sL_m_weighs D (jL l) I L) 16) 114 (vp_updL ((it_m_goes D c0 e (wf 50 (I 101) (I 100) D) I (sL_m_weighs D (jL l) I L) 16) 114) (D + 1) (sp_m_leanOf (D + 1) I (it_m_goes D c0 e (wf 50 (I 101) (I 100) D) I (sL_m_weighs D (jL l) I L) 16))) := by
    unfold sL_m_goes
    rw [h114, sIe_m_weighs]
  have hlean : sp_m_leanOf (D + 1) I (it_m_goes D c0 e (wf 50 (I 101) (I 100) D) I (sL_m_weighs D (jL l) I L) 16) = jL (lz (xs (fun c => s c + dG I c D l + 50 * exZ c0 e c))) := by
    refine lean_v (B := 26000000000) (by decide) (fun c hc => ?_) (fun c hc => by rw [show 16 * (D + 1) + c = 16 * D + 16 + c by omega]; exact g1 c hc)
    have h1 := hsb c hc
    have h2 := (dG_b hT hB hc hD hl).2
    have h3 : 0 ≤ exZ c0 e c ∧ exZ c0 e c ≤ 1000 := by unfold exZ; split <;> omega
    omega
  rw [hL, hlean]
  refine ⟨hIe, fun c hc => ?_, fun j hj => ?_, ?_, fun j hj => ?_, fun j h1 h2 h3 => ?_, fun i h1 h2 => ?_⟩
  · rw [va_n1 (by decide), show 16 * (D + 1) + c = 16 * D + 16 + c by omega]; exact g1 c hc
  · rw [va_n1 (by decide), g2 j (by omega), w3 113 (by decide)]
  · rw [va_e1, vu_e]
  · rw [va_e1, vu_n hj, g3 114 (by decide), w3 114 (by decide)]
  · rw [va_n1 h3, g3 j h2, w3 j h1]
  · rw [va_n1 (by decide), g3 80 (by decide)]; exact w4 i h1 h2
theorem p0_v : ∀ k, (∀ m, m < k → (it_m_p0 I L k) 113 m = 0) ∧ (∀ j, j ≠ 113 → (it_m_p0 I L k) j = L j) := by
  intro k
  induction k with
  | zero => exact ⟨fun m h => by omega, fun j _ => rfl⟩
  | succ k ih =>
    refine ⟨fun m h => ?_, fun j hj => ?_⟩
    · show (vp_updL ((it_m_p0 I L k) 113) k 0) m = 0
      by_cases e : m = k
      · subst e; exact vu_e
      · rw [vu_n e]; exact ih.1 m (by omega)
    · show bd_m_p0 k I (it_m_p0 I L k) j = _
      unfold bd_m_p0
      rw [va_n1 hj]; exact ih.2 j hj
theorem exZ_n {c : Nat} (hc : c < 16) : exZ (-1) 0 c = 0 := by
  unfold exZ
  rw [if_neg (mr_nI_ne (by omega))]
set_option maxHeartbeats 1000000 in
/-- what play leaves -/
theorem play_v (hT : wfT I) (hB : wfB I) : (∀ j, j ≠ 117 → j ≠ 118 → sI_m_play I L j = I j) ∧ (∀ d c, d < 400 → c < 16 → sI_m_play I L 117 (16 * d + c) = jI (gLi I (kn I) c d) ∧ sI_m_play I L 118 (16 * d + c) = jI (gFr I (kn I) c d)) ∧ (∀ d, d < 400 → sL_m_play I L 115 d = jL (gT I (kn I) d) ∧ sL_m_play I L 116 d = jL (gM I (kn I) d)) ∧ (∀ D, D ≤ 400 → sL_m_play I L 114 D = jL (pS I D).2 ∧ ∀ c, c < 16 → sL_m_play I L 113 (16 * D + c) = jL ((pS I D).1 c)) ∧ (∀ j, j ≠ 80 → j ≠ 113 → j ≠ 114 → j ≠ 115 → j ≠ 116 → sL_m_play I L j = L j) ∧ (∀ i, i ≠ 57 → i ≠ 58 → sL_m_play I L 80 i = L 80 i) := by
  obtain ⟨q1, q2, q3, q4⟩ := gath_v (I := I) (L := L) hB
  have hrE : rE (sI_m_gathers I L) I := ⟨fun j h1 h2 => q1 j (by omega) (by omega), by rw [q1 80 (by decide) (by decide)], by rw [q1 80 (by decide) (by decide)]⟩
  have hT2 := wfT_c hrE hT
  have hB2 := wfB_c hrE hB
  obtain ⟨ka, kb, kc⟩ := kn_c hrE
  have hgc := g_c hrE (kn I)
  have hV : ∃ V0, V0 = (va_up (it_m_p0 (sI_m_gathers I L) (sL_m_gathers I L) 16) 114 (vp_updL ((it_m_p0 (sI_m_gathers I L) (sL_m_gathers I L) 16) 114) 0 0)) ∧ V0 114 0 = jL 0 ∧ (∀ m, m < 16 → V0 113 m = jL 0) ∧ (∀ j, j ≠ 80 → j ≠ 113 → j ≠ 114 → V0 j = sL_m_gathers I L j) ∧ (∀ i, i ≠ 57 → i ≠ 58 → V0 80 i = sL_m_gathers I L 80 i) := by
    generalize sI_m_gathers I L = A
    generalize sL_m_gathers I L = B
    have hp := p0_v (I := A) (L := B) 16
    generalize it_m_p0 A B 16 = C at hp
    refine ⟨_, rfl, ?_, fun m hm => ?_, fun j h1 h2 h3 => ?_, fun i h1 h2 => ?_⟩
    · rw [va_e1, vu_e]; rfl
    · rw [va_n1 (by decide), hp.1 m hm]; rfl
    · rw [va_n1 h3]; exact hp.2 j h2
    · rw [va_n1 (by decide), hp.2 80 (by decide)]
  obtain ⟨V0, hV0, v1, v2, v3, v4⟩ := hV
  have ePI : sI_m_play I L = (it_m_p1 (sI_m_gathers I L) V0 400).1 := by rw [hV0]; rfl
  have ePL : sL_m_play I L = (it_m_p1 (sI_m_gathers I L) V0 400).2 := by rw [hV0]; rfl
  have key : ∀ k, k ≤ 400 → (it_m_p1 (sI_m_gathers I L) V0 k).1 = sI_m_gathers I L ∧
      (∀ D, D ≤ k → (it_m_p1 (sI_m_gathers I L) V0 k).2 114 D = jL (pS I D).2 ∧ ∀ c, c < 16 → (it_m_p1 (sI_m_gathers I L) V0 k).2 113 (16 * D + c) = jL ((pS I D).1 c)) ∧
      (∀ j, j ≠ 80 → j ≠ 113 → j ≠ 114 → (it_m_p1 (sI_m_gathers I L) V0 k).2 j = sL_m_gathers I L j) ∧ (∀ i, i ≠ 57 → i ≠ 58 → (it_m_p1 (sI_m_gathers I L) V0 k).2 80 i = sL_m_gathers I L 80 i) := by
    intro k
    induction k with
    | zero =>
      intro _
      refine ⟨rfl, fun D hD => ?_, v3, v4⟩
      obtain rfl : D = 0 := by omega
      exact ⟨v1, fun c hc => v2 (16 * 0 + c) (by omega)⟩
    | succ k ih =>
      intro hk
      obtain ⟨i1, i2, i3, i4⟩ := ih (by omega)
      generalize hW : it_m_p1 (sI_m_gathers I L) V0 k = W at i1 i2 i3 i4
      have e9 : it_m_p1 (sI_m_gathers I L) V0 (k + 1) = (sI_m_goes k (-1) 0 W.1 W.2, sL_m_goes k (-1) 0 W.1 W.2) := by rw [← hW]; rfl
      rw [e9, i1]
      have hb := pS_b hT hB k (by omega)
      have hg := goes_v (I := sI_m_gathers I L) (L := W.2) (D := k) (l := (pS I k).2) (s := (pS I k).1) (c0 := -1) (e := 0) hT2 hB2 (by omega) hb.2 ⟨by decide, by decide⟩ (fun d c hd hc => by rw [kc, hgc.2.2.1, hgc.2.2.2.2]; exact q4 d c hd hc) (by rw [i3 115 (by decide) (by decide) (by decide), kc, hgc.1]; exact (q3 k (by omega)).1) (by rw [i3 116 (by decide) (by decide) (by decide), kc, hgc.2.1]; exact (q3 k (by omega)).2) (i2 k (Nat.le_refl _)).1 (i2 k (Nat.le_refl _)).2 (fun c hc => by have := hb.1 c hc; omega)
      obtain ⟨a1, a2, a3, a4, a5, a6, a7⟩ := hg
      have hd := (dG_c hrE).2.2.2.1
      have hfun : (fun c => (pS I k).1 c + dG I c k (pS I k).2) = (pS I (k + 1)).1 := rfl
      refine ⟨a1, fun D hD => ?_, fun j h1 h2 h3 => (a6 j h1 h2 h3).trans (i3 j h1 h2 h3), fun i h1 h2 => (a7 i h1 h2).trans (i4 i h1 h2)⟩
      by_cases e : D = k + 1
      · subst e
        refine ⟨?_, fun c hc => ?_⟩
        · show sL_m_goes k (-1) 0 _ _ 114 (k + 1) = jL (lz (xs (fun c => (pS I k).1 c + dG I c k (pS I k).2)))
          rw [a4]
          refine congrArg jL (congrArg lz ?_)
          unfold xs
          refine zS_c (fun c hc => ?_)
          show (2 * (c : Int) - 15) * ((pS I k).1 c + dG (sI_m_gathers I L) c k (pS I k).2 + 50 * exZ (-1) 0 c) = (2 * (c : Int) - 15) * ((pS I k).1 c + dG I c k (pS I k).2)
          rw [exZ_n hc, hd, Int.mul_zero, Int.add_zero]
        · show sL_m_goes k (-1) 0 _ _ 113 (16 * (k + 1) + c) = jL ((pS I k).1 c + dG I c k (pS I k).2)
          rw [a2 c hc, exZ_n hc, hd]
          exact congrArg jL (by omega)
      · obtain ⟨b1, b2⟩ := i2 D (by omega)
        refine ⟨?_, fun c hc => ?_⟩
        · show sL_m_goes k (-1) 0 _ _ 114 D = _
          rw [a5 D e]; exact b1
        · show sL_m_goes k (-1) 0 _ _ 113 (16 * D + c) = _
          rw [a3 _ (Or.inl (by omega))]; exact b2 c hc
  obtain ⟨k1, k2, k3, k4⟩ := key 400 (Nat.le_refl _)
  refine ⟨fun j h1 h2 => ?_, fun d c hd hc => ?_, fun d hd => ?_, fun D hD => by rw [ePL]; exact k2 D hD, fun j h1 h2 h3 h4 h5 => ?_, fun i h1 h2 => ?_⟩
  · rw [ePI, k1]; exact q1 j h1 h2
  · rw [ePI, k1]; exact q4 d c hd hc
  · rw [ePL, k3 115 (by decide) (by decide) (by decide), k3 116 (by decide) (by decide) (by decide)]; exact q3 d hd
  · rw [ePL, k3 j h1 h2 h3]; exact q2 j h4 h5
  · rw [ePL, k4 i h1 h2, q2 80 (by decide) (by decide)]
end R66
