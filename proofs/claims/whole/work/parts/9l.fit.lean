/-! FIT, ODD: the readings of some days -/
def bM (z : Int) : Prop := -9223372036854775808 ≤ z ∧ z ≤ 9223372036854775807
theorem jM_toInt {z : Int} (h : bM z) : (jL z).toInt = z := Int64.toInt_ofInt_of_le (by have := h.1; omega) (by have := h.2; omega)
theorem jM_lt {a b : Int} (ha : bM a) (hb : bM b) : jL a < jL b ↔ a < b := by rw [Int64.lt_iff_toInt_lt, jM_toInt ha, jM_toInt hb]
theorem jM_eq {a b : Int} (ha : bM a) (hb : bM b) : jL a = jL b ↔ a = b := ⟨fun h => by have := congrArg Int64.toInt h; rw [jM_toInt ha, jM_toInt hb] at this; exact this, fun h => by rw [h]⟩
theorem maxM_j {a b : Int} (ha : bM a) (hb : bM b) : sp_maxL (jL a) (jL b) = jL (max a b) := by
  unfold sp_maxL
  by_cases h : a < b
  · rw [if_pos (cmp_lt.mpr ((jM_lt ha hb).mpr h)), show max a b = b by omega]
  · rw [if_neg (fun z => h ((jM_lt ha hb).mp (cmp_lt.mp z))), show max a b = a by omega]
theorem minM_j {a b : Int} (ha : bM a) (hb : bM b) : sp_minL (jL a) (jL b) = jL (min a b) := by
  unfold sp_minL
  by_cases h : b < a
  · rw [if_pos (cmp_gt.mpr ((jM_lt hb ha).mpr h)), show min a b = b by omega]
  · rw [if_neg (fun z => h ((jM_lt hb ha).mp (cmp_gt.mp z))), show min a b = a by omega]
theorem cmp_z {x y : Int64} : lg_cmp x y = 0 ↔ x = y := by
  constructor
  · intro h
    have h1 : ¬ x < y := fun z => by have := cmp_lt.mpr z; rw [h] at this; exact absurd this (by decide)
    have h2 : ¬ y < x := fun z => by have := cmp_gt.mpr z; rw [h] at this; exact absurd this (by decide)
    rw [Int64.lt_iff_toInt_lt] at h1 h2
    exact Int64.toInt_inj.mp (by omega)
  · intro h
    subst h
    have h1 : ¬ lg_cmp x x < 0 := fun z => by have := Int64.lt_iff_toInt_lt.mp (cmp_lt.mp z); omega
    have h2 : ¬ 0 < lg_cmp x x := fun z => by have := Int64.lt_iff_toInt_lt.mp (cmp_gt.mp z); omega
    rw [Int32.lt_iff_toInt_lt] at h1 h2
    exact Int32.toInt_inj.mp (by omega)
def rdB (X : Nat → Nat → Int32) (F T n : Nat) : Bool := decide (kn X n = true ∧ X 107 n = 3 ∧ F ≤ dyN X n ∧ dyN X n ≤ T)
def rgt (X : Nat → Nat → Int32) (n : Nat) : Int32 := sp_m_rightOf n X (fun _ _ => 0)
def loZ (X : Nat → Nat → Int32) (F n : Nat) : Int := (rgt X n).toInt - ((pS X (dyN X n)).2 - (pS X F).2) - (X 106 (clN X n)).toInt
def hiZ (X : Nat → Nat → Int32) (F n : Nat) : Int := (rgt X n).toInt - ((pS X (dyN X n)).2 - (pS X F).2) + (X 106 (clN X n)).toInt
def rdl (X : Nat → Nat → Int32) (F T : Nat) : Nat → List Nat
  | 0 => []
  | k + 1 => if rdB X F T (k + 1) = true then rdl X F T k ++ [k + 1] else rdl X F T k
def mxw (X : Nat → Nat → Int32) (F T b : Nat) : Nat → Int
  | 0 => -9223372036854775808
  | k + 1 => if rdB X F T (k + 1) = true ∧ k + 1 ≠ b then max (mxw X F T b k) (loZ X F (k + 1)) else mxw X F T b k
def mnw (X : Nat → Nat → Int32) (F T b : Nat) : Nat → Int
  | 0 => 9223372036854775807
  | k + 1 => if rdB X F T (k + 1) = true ∧ k + 1 ≠ b then min (mnw X F T b k) (hiZ X F (k + 1)) else mnw X F T b k
def cnw (X : Nat → Nat → Int32) (F T b : Nat) : Nat → Nat
  | 0 => 0
  | k + 1 => if rdB X F T (k + 1) = true ∧ k + 1 ≠ b then cnw X F T b k + 1 else cnw X F T b k
def sxw (X : Nat → Nat → Int32) (F T : Nat) : Nat → Int
  | 0 => -9223372036854775808
  | k + 1 => if rdB X F T (k + 1) = true then max (sxw X F T k) (min (mxw X F T 0 k) (loZ X F (k + 1))) else sxw X F T k
def snw (X : Nat → Nat → Int32) (F T : Nat) : Nat → Int
  | 0 => 9223372036854775807
  | k + 1 => if rdB X F T (k + 1) = true then min (snw X F T k) (max (mnw X F T 0 k) (hiZ X F (k + 1))) else snw X F T k
section FO
variable {X : Nat → Nat → Int32} {F T b : Nat}
theorem rdl_s {k : Nat} (h : rdB X F T (k + 1) = true) : rdl X F T (k + 1) = rdl X F T k ++ [k + 1] := if_pos h
theorem rdl_n {k : Nat} (h : ¬ rdB X F T (k + 1) = true) : rdl X F T (k + 1) = rdl X F T k := if_neg h
theorem rdl_len : ∀ k, (rdl X F T k).length = cnw X F T 0 k ∧ (rdl X F T k).length ≤ k := by
  intro k
  induction k with
  | zero => exact ⟨rfl, Nat.le_refl _⟩
  | succ k ih =>
    obtain ⟨i1, i2⟩ := ih
    by_cases h : rdB X F T (k + 1) = true
    · rw [rdl_s h, List.length_append]
      have e : cnw X F T 0 (k + 1) = cnw X F T 0 k + 1 := if_pos ⟨h, by omega⟩
      rw [e]
      exact ⟨by rw [i1]; rfl, by show _ + 1 ≤ _; omega⟩
    · rw [rdl_n h]
      have e : cnw X F T 0 (k + 1) = cnw X F T 0 k := if_neg (fun z => h z.1)
      rw [e]
      exact ⟨i1, by omega⟩
theorem w_n {k : Nat} (h : ¬ (rdB X F T (k + 1) = true ∧ k + 1 ≠ b)) : mxw X F T b (k + 1) = mxw X F T b k ∧ mnw X F T b (k + 1) = mnw X F T b k ∧ cnw X F T b (k + 1) = cnw X F T b k := ⟨if_neg h, if_neg h, if_neg h⟩
theorem w_s {k : Nat} (h : rdB X F T (k + 1) = true ∧ k + 1 ≠ b) : mxw X F T b (k + 1) = max (mxw X F T b k) (loZ X F (k + 1)) ∧ mnw X F T b (k + 1) = min (mnw X F T b k) (hiZ X F (k + 1)) ∧ cnw X F T b (k + 1) = cnw X F T b k + 1 := ⟨if_pos h, if_pos h, if_pos h⟩
/-- the greatest of the others -/
theorem mxw_o : ∀ k, sxw X F T k ≤ mxw X F T 0 k ∧ (∀ j, 1 ≤ j → j ≤ k → rdB X F T j = true → loZ X F j ≤ mxw X F T 0 k) ∧ (∀ b, b = 0 ∨ k < b → mxw X F T b k = mxw X F T 0 k) ∧ (∀ b, 1 ≤ b → b ≤ k → rdB X F T b = true → mxw X F T b k = if loZ X F b = mxw X F T 0 k then sxw X F T k else mxw X F T 0 k) := by
  intro k
  induction k with
  | zero => exact ⟨Int.le_refl _, fun j j1 j2 => absurd j2 (by omega), fun b hb => rfl, fun b b1 b2 => absurd b2 (by omega)⟩
  | succ k ih =>
    obtain ⟨i1, i2, i3, i4⟩ := ih
    by_cases h : rdB X F T (k + 1) = true
    · have em : mxw X F T 0 (k + 1) = max (mxw X F T 0 k) (loZ X F (k + 1)) := (w_s ⟨h, by omega⟩).1
      have es : sxw X F T (k + 1) = max (sxw X F T k) (min (mxw X F T 0 k) (loZ X F (k + 1))) := if_pos h
      rw [em, es]
      refine ⟨by omega, fun j j1 j2 j3 => ?_, fun b hb => ?_, fun b b1 b2 b3 => ?_⟩
      · by_cases z : j = k + 1
        · subst z; omega
        · have := i2 j j1 (by omega) j3; omega
      · rw [(w_s (b := b) ⟨h, by omega⟩).1, i3 b (by omega)]
      · by_cases z : b = k + 1
        · subst z
          rw [(w_n (b := k + 1) (fun y => y.2 rfl)).1, i3 (k + 1) (by omega)]
          by_cases y : loZ X F (k + 1) = max (mxw X F T 0 k) (loZ X F (k + 1))
          · rw [if_pos y]; omega
          · rw [if_neg y]; omega
        · have hb := i4 b b1 (by omega) b3
          have hbl := i2 b b1 (by omega) b3
          rw [(w_s (b := b) ⟨h, by omega⟩).1, hb]
          by_cases y : loZ X F b = mxw X F T 0 k
          · rw [if_pos y]
            by_cases x : loZ X F b = max (mxw X F T 0 k) (loZ X F (k + 1))
            · rw [if_pos x]; omega
            · rw [if_neg x]; omega
          · rw [if_neg y, if_neg (by omega)]
    · have em : mxw X F T 0 (k + 1) = mxw X F T 0 k := (w_n (fun z => h z.1)).1
      have es : sxw X F T (k + 1) = sxw X F T k := if_neg h
      rw [em, es]
      refine ⟨i1, fun j j1 j2 j3 => ?_, fun b hb => ?_, fun b b1 b2 b3 => ?_⟩
      · by_cases z : j = k + 1
        · subst z; exact absurd j3 h
        · exact i2 j j1 (by omega) j3
      · rw [(w_n (b := b) (fun z => h z.1)).1, i3 b (by omega)]
      · by_cases z : b = k + 1
        · subst z; exact absurd b3 h
        · rw [(w_n (b := b) (fun z => h z.1)).1, i4 b b1 (by omega) b3]
theorem mnw_o : ∀ k, mnw X F T 0 k ≤ snw X F T k ∧ (∀ j, 1 ≤ j → j ≤ k → rdB X F T j = true → mnw X F T 0 k ≤ hiZ X F j) ∧ (∀ b, b = 0 ∨ k < b → mnw X F T b k = mnw X F T 0 k) ∧ (∀ b, 1 ≤ b → b ≤ k → rdB X F T b = true → mnw X F T b k = if hiZ X F b = mnw X F T 0 k then snw X F T k else mnw X F T 0 k) := by
  intro k
  induction k with
  | zero => exact ⟨Int.le_refl _, fun j j1 j2 => absurd j2 (by omega), fun b hb => rfl, fun b b1 b2 => absurd b2 (by omega)⟩
  | succ k ih =>
    obtain ⟨i1, i2, i3, i4⟩ := ih
    by_cases h : rdB X F T (k + 1) = true
    · have em : mnw X F T 0 (k + 1) = min (mnw X F T 0 k) (hiZ X F (k + 1)) := (w_s ⟨h, by omega⟩).2.1
      have es : snw X F T (k + 1) = min (snw X F T k) (max (mnw X F T 0 k) (hiZ X F (k + 1))) := if_pos h
      rw [em, es]
      refine ⟨by omega, fun j j1 j2 j3 => ?_, fun b hb => ?_, fun b b1 b2 b3 => ?_⟩
      · by_cases z : j = k + 1
        · subst z; omega
        · have := i2 j j1 (by omega) j3; omega
      · rw [(w_s (b := b) ⟨h, by omega⟩).2.1, i3 b (by omega)]
      · by_cases z : b = k + 1
        · subst z
          rw [(w_n (b := k + 1) (fun y => y.2 rfl)).2.1, i3 (k + 1) (by omega)]
          by_cases y : hiZ X F (k + 1) = min (mnw X F T 0 k) (hiZ X F (k + 1))
          · rw [if_pos y]; omega
          · rw [if_neg y]; omega
        · have hb := i4 b b1 (by omega) b3
          have hbl := i2 b b1 (by omega) b3
          rw [(w_s (b := b) ⟨h, by omega⟩).2.1, hb]
          by_cases y : hiZ X F b = mnw X F T 0 k
          · rw [if_pos y]
            by_cases x : hiZ X F b = min (mnw X F T 0 k) (hiZ X F (k + 1))
            · rw [if_pos x]; omega
            · rw [if_neg x]; omega
          · rw [if_neg y, if_neg (by omega)]
    · have em : mnw X F T 0 (k + 1) = mnw X F T 0 k := (w_n (fun z => h z.1)).2.1
      have es : snw X F T (k + 1) = snw X F T k := if_neg h
      rw [em, es]
      refine ⟨i1, fun j j1 j2 j3 => ?_, fun b hb => ?_, fun b b1 b2 b3 => ?_⟩
      · by_cases z : j = k + 1
        · subst z; exact absurd j3 h
        · exact i2 j j1 (by omega) j3
      · rw [(w_n (b := b) (fun z => h z.1)).2.1, i3 b (by omega)]
      · by_cases z : b = k + 1
        · subst z; exact absurd b3 h
        · rw [(w_n (b := b) (fun z => h z.1)).2.1, i4 b b1 (by omega) b3]
/-- bounds -/
theorem w_b (hb : ∀ n, rdB X F T n = true → (-9000000000 ≤ loZ X F n ∧ loZ X F n ≤ 9000000000) ∧ (-9000000000 ≤ hiZ X F n ∧ hiZ X F n ≤ 9000000000)) : ∀ k, bM (mxw X F T b k) ∧ bM (mnw X F T b k) ∧ bM (sxw X F T k) ∧ bM (snw X F T k) := by
  intro k
  induction k generalizing b with
  | zero =>
    show bM (-9223372036854775808) ∧ bM 9223372036854775807 ∧ bM (-9223372036854775808) ∧ bM 9223372036854775807
    exact ⟨⟨by decide, by decide⟩, ⟨by decide, by decide⟩, ⟨by decide, by decide⟩, ⟨by decide, by decide⟩⟩
  | succ k ih =>
    obtain ⟨⟨a1, a2⟩, ⟨a3, a4⟩, ⟨a5, a6⟩, ⟨a7, a8⟩⟩ := ih (b := b)
    obtain ⟨⟨c1, c2⟩, ⟨c3, c4⟩, _, _⟩ := ih (b := 0)
    have h0 := hb (k + 1)
    unfold mxw mnw sxw snw bM
    refine ⟨?_, ?_, ?_, ?_⟩
    · split
      · rename_i h; have := h0 h.1; omega
      · omega
    · split
      · rename_i h; have := h0 h.1; omega
      · omega
    · split
      · rename_i h; have := h0 h; omega
      · omega
    · split
      · rename_i h; have := h0 h; omega
      · omega
theorem w_hi {k : Nat} (hk : nNow X ≤ k) : rdB X F T (k + 1) = false := by
  unfold rdB
  exact decide_eq_false (fun z => by rw [kn_hi (show nNow X < k + 1 by omega)] at z; exact absurd z.1 (by decide))
theorem w_now {C : Nat} (h : nNow X ≤ C) : mxw X F T b C = mxw X F T b (nNow X) ∧ mnw X F T b C = mnw X F T b (nNow X) ∧ cnw X F T b C = cnw X F T b (nNow X) := by
  obtain ⟨e, rfl⟩ : ∃ e, C = nNow X + e := ⟨C - nNow X, by omega⟩
  induction e with
  | zero => exact ⟨rfl, rfl, rfl⟩
  | succ e ih =>
    obtain ⟨i1, i2, i3⟩ := ih (by omega)
    have hn := w_n (X := X) (F := F) (T := T) (b := b) (k := nNow X + e) (fun z => by rw [w_hi (by omega)] at z; exact absurd z.1 (by decide))
    exact ⟨hn.1.trans i1, hn.2.1.trans i2, hn.2.2.trans i3⟩
end FO
def gaI (I : Nat → Nat → Int32) (ct : Int32) (r68 : Nat → Int32) (j i : Nat) : Int32 := cond (Nat.beq j 64) (cond (Nat.beq i 9) ct (I 64 i)) (cond (Nat.beq j 68) (r68 i) (I j i))
theorem gaI_nb : ∀ {i k : Nat}, ¬ i = k → Nat.beq i k = false := fun h => Bool.eq_false_iff.mpr (fun q => h (Nat.eq_of_beq_eq_true q))
theorem gaI_w_ct {I : Nat → Nat → Int32} {ct : Int32} {r68 : Nat → Int32} {y : Int32} : va_up (gaI I ct r68) 64 (upd ((gaI I ct r68) 64) 9 y) = gaI I y r68 := by
  funext j i
  unfold va_up upd
  by_cases hj : j = 64
  · subst hj
    by_cases hi : i = 9
    · subst hi; rfl
    · rw [if_pos rfl, if_neg hi]; unfold gaI; simp only [gaI_nb hi, cond_false]
  · rw [if_neg hj]; unfold gaI; simp only [gaI_nb hj, cond_false]
theorem gaI_w_r68 {I : Nat → Nat → Int32} {ct : Int32} {r68 : Nat → Int32} {y : Int32} {k : Nat} : va_up (gaI I ct r68) 68 (upd ((gaI I ct r68) 68) k y) = gaI I ct (upd r68 k y) := by
  funext j i
  unfold va_up
  by_cases hj : j = 68
  · subst hj; rfl
  · rw [if_neg hj]; unfold gaI; simp only [gaI_nb hj, cond_false]
def gaL (L : Nat → Nat → Int64) (l10 l11 l12 l13 : Int64) (r69 r70 : Nat → Int64) (j i : Nat) : Int64 := cond (Nat.beq j 64) (cond (Nat.beq i 10) l10 (cond (Nat.beq i 11) l11 (cond (Nat.beq i 12) l12 (cond (Nat.beq i 13) l13 (L 64 i))))) (cond (Nat.beq j 69) (r69 i) (cond (Nat.beq j 70) (r70 i) (L j i)))
theorem gaL_nb : ∀ {i k : Nat}, ¬ i = k → Nat.beq i k = false := fun h => Bool.eq_false_iff.mpr (fun q => h (Nat.eq_of_beq_eq_true q))
theorem gaL_w_l10 {L : Nat → Nat → Int64} {l10 l11 l12 l13 : Int64} {r69 r70 : Nat → Int64} {y : Int64} : va_up (gaL L l10 l11 l12 l13 r69 r70) 64 (vp_updL ((gaL L l10 l11 l12 l13 r69 r70) 64) 10 y) = gaL L y l11 l12 l13 r69 r70 := by
  funext j i
  unfold va_up vp_updL
  by_cases hj : j = 64
  · subst hj
    by_cases hi : i = 10
    · subst hi; rfl
    · rw [if_pos rfl, if_neg hi]; unfold gaL; simp only [gaL_nb hi, cond_false]
  · rw [if_neg hj]; unfold gaL; simp only [gaL_nb hj, cond_false]
theorem gaL_w_l11 {L : Nat → Nat → Int64} {l10 l11 l12 l13 : Int64} {r69 r70 : Nat → Int64} {y : Int64} : va_up (gaL L l10 l11 l12 l13 r69 r70) 64 (vp_updL ((gaL L l10 l11 l12 l13 r69 r70) 64) 11 y) = gaL L l10 y l12 l13 r69 r70 := by
  funext j i
  unfold va_up vp_updL
  by_cases hj : j = 64
  · subst hj
    by_cases hi : i = 11
    · subst hi; rfl
    · rw [if_pos rfl, if_neg hi]; unfold gaL; simp only [gaL_nb hi, cond_false]
  · rw [if_neg hj]; unfold gaL; simp only [gaL_nb hj, cond_false]
theorem gaL_w_l12 {L : Nat → Nat → Int64} {l10 l11 l12 l13 : Int64} {r69 r70 : Nat → Int64} {y : Int64} : va_up (gaL L l10 l11 l12 l13 r69 r70) 64 (vp_updL ((gaL L l10 l11 l12 l13 r69 r70) 64) 12 y) = gaL L l10 l11 y l13 r69 r70 := by
  funext j i
  unfold va_up vp_updL
  by_cases hj : j = 64
  · subst hj
    by_cases hi : i = 12
    · subst hi; rfl
    · rw [if_pos rfl, if_neg hi]; unfold gaL; simp only [gaL_nb hi, cond_false]
  · rw [if_neg hj]; unfold gaL; simp only [gaL_nb hj, cond_false]
theorem gaL_w_l13 {L : Nat → Nat → Int64} {l10 l11 l12 l13 : Int64} {r69 r70 : Nat → Int64} {y : Int64} : va_up (gaL L l10 l11 l12 l13 r69 r70) 64 (vp_updL ((gaL L l10 l11 l12 l13 r69 r70) 64) 13 y) = gaL L l10 l11 l12 y r69 r70 := by
  funext j i
  unfold va_up vp_updL
  by_cases hj : j = 64
  · subst hj
    by_cases hi : i = 13
    · subst hi; rfl
    · rw [if_pos rfl, if_neg hi]; unfold gaL; simp only [gaL_nb hi, cond_false]
  · rw [if_neg hj]; unfold gaL; simp only [gaL_nb hj, cond_false]
theorem gaL_w_r69 {L : Nat → Nat → Int64} {l10 l11 l12 l13 : Int64} {r69 r70 : Nat → Int64} {y : Int64} {k : Nat} : va_up (gaL L l10 l11 l12 l13 r69 r70) 69 (vp_updL ((gaL L l10 l11 l12 l13 r69 r70) 69) k y) = gaL L l10 l11 l12 l13 (vp_updL r69 k y) r70 := by
  funext j i
  unfold va_up
  by_cases hj : j = 69
  · subst hj; rfl
  · rw [if_neg hj]; unfold gaL; simp only [gaL_nb hj, cond_false]
theorem gaL_w_r70 {L : Nat → Nat → Int64} {l10 l11 l12 l13 : Int64} {r69 r70 : Nat → Int64} {y : Int64} {k : Nat} : va_up (gaL L l10 l11 l12 l13 r69 r70) 70 (vp_updL ((gaL L l10 l11 l12 l13 r69 r70) 70) k y) = gaL L l10 l11 l12 l13 r69 (vp_updL r70 k y) := by
  funext j i
  unfold va_up
  by_cases hj : j = 70
  · subst hj; rfl
  · rw [if_neg hj]; unfold gaL; simp only [gaL_nb hj, cond_false]
theorem ev_narrow_c {d n sl : Nat} {kk : Nat → Nat × Nat} {I : Nat → Nat → Int32} {L : Nat → Nat → Int64} {q : Nat → Nat → Option Nat} {ct : Int32} {r68 : Nat → Int32} {l10 l11 l12 l13 x y : Int64} {r69 r70 : Nat → Int64} : am_Ev (d + 1) 44 0 (am_ent 5 [.ref 64, .long x, .long y]) [] (n, sl, wKK kk, (gaI I ct r68), (gaL L l10 l11 l12 l13 r69 r70), wQQ q) (none, (n, sl, wKK kk, (gaI I ct r68), (gaL L (sp_maxL l10 x) (sp_maxL l11 (sp_minL l10 x)) (sp_minL l12 y) (sp_minL l13 (sp_maxL l12 y)) r69 r70), wQQ q)) := by
  refine tv_ev ?_
  show am_T _ _ 0 [some (.ref 64), some (.long x), none, some (.long y), none] _ _ _
  refine tv_b (pc' := 10) (ls' := [some (.ref 64), some (.long x), none, some (.long y), none]) (st' := [.long x, .long l10, .long l11, .ref 64]) (h' := (n, sl, wKK kk, (gaI I ct r68), (gaL L l10 l11 l12 l13 r69 r70), wQQ q)) 6 rfl ?_
  refine tv_csE [.long l10, .long x] [.long l11, .ref 64] rfl rfl (by omega) rfl (Nat.le_of_ble_eq_true rfl) (Nat.le_of_ble_eq_true rfl) (ev_minL) ?_
  refine tv_csE [.long l11, .long (sp_minL l10 x)] [.ref 64] rfl rfl (by omega) rfl (Nat.le_of_ble_eq_true rfl) (Nat.le_of_ble_eq_true rfl) (ev_maxL) ?_
  refine tv_b (pc' := 19) (ls' := [some (.ref 64), some (.long x), none, some (.long y), none]) (st' := []) (h' := (n, sl, wKK kk, (gaI I ct r68), va_up (gaL L l10 l11 l12 l13 r69 r70) 64 (vp_updL ((gaL L l10 l11 l12 l13 r69 r70) 64) 11 (sp_maxL l11 (sp_minL l10 x))), wQQ q)) 1 rfl ?_
  refine tv_hL gaL_w_l11 ?_
  refine tv_b (pc' := 25) (ls' := [some (.ref 64), some (.long x), none, some (.long y), none]) (st' := [.long x, .long l10, .ref 64]) (h' := (n, sl, wKK kk, (gaI I ct r68), (gaL L l10 (sp_maxL l11 (sp_minL l10 x)) l12 l13 r69 r70), wQQ q)) 4 rfl ?_
  refine tv_csE [.long l10, .long x] [.ref 64] rfl rfl (by omega) rfl (Nat.le_of_ble_eq_true rfl) (Nat.le_of_ble_eq_true rfl) (ev_maxL) ?_
  refine tv_b (pc' := 31) (ls' := [some (.ref 64), some (.long x), none, some (.long y), none]) (st' := []) (h' := (n, sl, wKK kk, (gaI I ct r68), va_up (gaL L l10 (sp_maxL l11 (sp_minL l10 x)) l12 l13 r69 r70) 64 (vp_updL ((gaL L l10 (sp_maxL l11 (sp_minL l10 x)) l12 l13 r69 r70) 64) 10 (sp_maxL l10 x)), wQQ q)) 1 rfl ?_
  refine tv_hL gaL_w_l10 ?_
  refine tv_b (pc' := 41) (ls' := [some (.ref 64), some (.long x), none, some (.long y), none]) (st' := [.long y, .long l12, .long l13, .ref 64]) (h' := (n, sl, wKK kk, (gaI I ct r68), (gaL L (sp_maxL l10 x) (sp_maxL l11 (sp_minL l10 x)) l12 l13 r69 r70), wQQ q)) 6 rfl ?_
  refine tv_csE [.long l12, .long y] [.long l13, .ref 64] rfl rfl (by omega) rfl (Nat.le_of_ble_eq_true rfl) (Nat.le_of_ble_eq_true rfl) (ev_maxL) ?_
  refine tv_csE [.long l13, .long (sp_maxL l12 y)] [.ref 64] rfl rfl (by omega) rfl (Nat.le_of_ble_eq_true rfl) (Nat.le_of_ble_eq_true rfl) (ev_minL) ?_
  refine tv_b (pc' := 50) (ls' := [some (.ref 64), some (.long x), none, some (.long y), none]) (st' := []) (h' := (n, sl, wKK kk, (gaI I ct r68), va_up (gaL L (sp_maxL l10 x) (sp_maxL l11 (sp_minL l10 x)) l12 l13 r69 r70) 64 (vp_updL ((gaL L (sp_maxL l10 x) (sp_maxL l11 (sp_minL l10 x)) l12 l13 r69 r70) 64) 13 (sp_minL l13 (sp_maxL l12 y))), wQQ q)) 1 rfl ?_
  refine tv_hL gaL_w_l13 ?_
  refine tv_b (pc' := 56) (ls' := [some (.ref 64), some (.long x), none, some (.long y), none]) (st' := [.long y, .long l12, .ref 64]) (h' := (n, sl, wKK kk, (gaI I ct r68), (gaL L (sp_maxL l10 x) (sp_maxL l11 (sp_minL l10 x)) l12 (sp_minL l13 (sp_maxL l12 y)) r69 r70), wQQ q)) 4 rfl ?_
  refine tv_csE [.long l12, .long y] [.ref 64] rfl rfl (by omega) rfl (Nat.le_of_ble_eq_true rfl) (Nat.le_of_ble_eq_true rfl) (ev_minL) ?_
  refine tv_b (pc' := 62) (ls' := [some (.ref 64), some (.long x), none, some (.long y), none]) (st' := []) (h' := (n, sl, wKK kk, (gaI I ct r68), va_up (gaL L (sp_maxL l10 x) (sp_maxL l11 (sp_minL l10 x)) l12 (sp_minL l13 (sp_maxL l12 y)) r69 r70) 64 (vp_updL ((gaL L (sp_maxL l10 x) (sp_maxL l11 (sp_minL l10 x)) l12 (sp_minL l13 (sp_maxL l12 y)) r69 r70) 64) 12 (sp_minL l12 y)), wQQ q)) 1 rfl ?_
  refine tv_hL gaL_w_l12 ?_
  exact tv_rv rfl ⟨rfl, rfl⟩
