/-! THE OPERATORS AGREE -/
def bT (z : Int) : Prop := -1000000000000 ≤ z ∧ z ≤ 1000000000000
theorem Rb_i {x : Int64} : pa_Rb x = true ↔ bT x.toInt := by
  have e1 : (-1000000000000 : Int64).toInt = -1000000000000 := rfl
  have e2 : (1000000000000 : Int64).toInt = 1000000000000 := rfl
  unfold pa_Rb bT
  rw [Bool.and_eq_true, decide_eq_true_iff, decide_eq_true_iff, Int64.le_iff_toInt_le, Int64.le_iff_toInt_le, e1, e2]
theorem Rb_j {z : Int} (h : bT z) : pa_Rb (jL z) = true := Rb_i.mpr (by rw [jL_toInt ⟨by have := h.1; omega, by have := h.2; omega⟩]; exact h)
theorem Rb_e {x : Int64} (h : pa_Rb x = true) : ∃ z, x = jL z ∧ bT z := ⟨x.toInt, (jL_self x).symm, Rb_i.mp h⟩
theorem bT_L {z : Int} (h : bT z) : bL z := ⟨by have := h.1; omega, by have := h.2; omega⟩
theorem held_j {z : Int} (h : bL z) : sp_m_held (jL z) = jL (max (-1000000000000) (min 1000000000000 z)) := by
  have hg : bL 1000000000000 := ⟨by decide, by decide⟩
  have hg2 : bL (-1000000000000) := ⟨by decide, by decide⟩
  unfold sp_m_held
  rw [show (-1000000000000 : Int64) = jL (-1000000000000) from rfl, show (1000000000000 : Int64) = jL 1000000000000 from rfl]
  by_cases c : 1000000000000 < z
  · rw [if_neg (by rw [cmp_le, jL_lt hg h]; omega)]
    exact congrArg jL (by omega)
  · rw [if_pos (by rw [cmp_le, jL_lt hg h]; omega)]
    by_cases c2 : z < -1000000000000
    · rw [if_neg (by rw [cmp_ge, jL_lt h hg2]; omega)]
      exact congrArg jL (by omega)
    · rw [if_pos (by rw [cmp_ge, jL_lt h hg2]; omega)]
      exact congrArg jL (by omega)
theorem bounded_j {z : Int} (h : bL z) : sp_j_bounded (jL z) = jL (max (-1000000000000) (min 1000000000000 z)) := by
  have hg : bL 1000000000000 := ⟨by decide, by decide⟩
  have hg2 : bL (-1000000000000) := ⟨by decide, by decide⟩
  unfold sp_j_bounded
  obtain ⟨h1, h2⟩ := h
  rw [show (-1000000000000 : Int64) = jL (-1000000000000) from rfl, show (1000000000000 : Int64) = jL 1000000000000 from rfl, minL_j hg ⟨h1, h2⟩, maxL_j hg2 ⟨by omega, by omega⟩]
theorem over_all (x y : Int64) : (if lg_cmp y 0 = 0 then 0 else sp_floorDivL x y) = sp_m_over x y := by
  unfold sp_m_over sp_floorDivL
  by_cases h : lg_cmp y 0 = 0
  · rw [if_pos h, if_pos h]
  · rw [if_neg h, if_neg h]
    have e0 : lg_cmp (x - x / y * y) 0 = 0 ↔ lg_cmp (x / y * y) x = 0 := by
      rw [lg_cmp0, lg_cmp0]
      constructor
      · intro q
        have h2 := congrArg (· + x / y * y) q
        simp only [Int64.sub_add_cancel, Int64.zero_add] at h2
        exact h2.symm
      · intro q; rw [q]; exact Int64.sub_self _
    by_cases c : lg_cmp (x / y * y) x = 0
    · rw [if_pos c, if_pos (e0.mpr c)]
      exact ite_self _
    · rw [if_neg c, if_neg (fun q => c (e0.mp q))]
      have hx : 0 ≤ lg_cmp (x ^^^ y) 0 ↔ (0 ≤ lg_cmp x 0 ↔ 0 ≤ lg_cmp y 0) := by
        rw [cmp_ge, cmp_ge, cmp_ge, xor_sign]
        by_cases a : x < 0 <;> by_cases b : y < 0 <;> simp [a, b]
      by_cases a : 0 ≤ lg_cmp x 0
      · by_cases b : 0 ≤ lg_cmp y 0
        · rw [if_pos (hx.mpr ⟨fun _ => b, fun _ => a⟩), if_pos a, if_pos b]
        · rw [if_neg (fun q => b ((hx.mp q).mp a)), if_pos a, if_neg b]
      · by_cases b : 0 ≤ lg_cmp y 0
        · rw [if_neg (fun q => a ((hx.mp q).mpr b)), if_neg a, if_pos b]
        · rw [if_pos (hx.mpr ⟨fun q => absurd q a, fun q => absurd q b⟩), if_neg a, if_neg b]
theorem jL_tdivg {a b : Int} (ha : bL a) (hb : bL b) : jL a / jL b = jL (a.tdiv b) := by
  have hh : -9000000000000000000 ≤ a.tdiv b ∧ a.tdiv b ≤ 9000000000000000000 := by
    have h1 := Int.natAbs_tdiv_le_natAbs a b
    obtain ⟨h2, h3⟩ := ha
    omega
  apply Int64.toInt_inj.mp
  rw [Int64.toInt_div_of_ne_left, jL_toInt ha, jL_toInt hb, jL_toInt hh]
  intro e
  have := congrArg Int64.toInt e
  rw [jL_toInt ha] at this
  have e2 : (Int64.minValue).toInt = -9223372036854775808 := by decide
  rw [e2] at this
  have := ha.1
  omega
theorem over_R {x y : Int64} (hx : pa_Rb x = true) (hy : pa_Rb y = true) : pa_Rb (sp_m_over x y) = true := by
  obtain ⟨a, rfl, ha⟩ := Rb_e hx
  obtain ⟨b, rfl, hb⟩ := Rb_e hy
  have hq := jL_tdivg (bT_L ha) (bT_L hb)
  have h1 := Int.natAbs_tdiv_le_natAbs a b
  have hqb : bT (a.tdiv b) := by obtain ⟨h2, h3⟩ := ha; exact ⟨by omega, by omega⟩
  by_cases b0 : b = 0
  · subst b0
    have : sp_m_over (jL a) (jL 0) = 0 := if_pos (by rw [lg_cmp0]; rfl)
    rw [this]
    decide
  by_cases hd : b = 1 ∨ b = -1
  · have e : lg_cmp (jL a - jL a / jL b * jL b) 0 = 0 := by
      rw [lg_cmp0, hq, jL_mul, jL_sub]
      have e2 : a.tdiv b * b = a := by
        rcases hd with h | h <;> subst h
        · rw [Int.tdiv_one]; omega
        · rw [Int.tdiv_neg, Int.tdiv_one]; omega
      rw [e2, Int.sub_self]
      rfl
    unfold sp_m_over
    rw [if_neg (by rw [lg_cmp0, show (0 : Int64) = jL 0 from rfl, jL_eq (bT_L hb) ⟨by decide, by decide⟩]; exact b0), if_pos e, hq]
    exact Rb_j hqb
  · have h2 : (a.tdiv b).natAbs ≤ a.natAbs / 2 := by
      rw [Int.natAbs_tdiv]
      exact Nat.div_le_div_left (by omega) (by decide)
    have hq1 : jL (a.tdiv b) - 1 = jL (a.tdiv b - 1) := jL_sub _ 1
    have hb2 : bT (a.tdiv b - 1) := by obtain ⟨h3, h4⟩ := ha; exact ⟨by omega, by omega⟩
    unfold sp_m_over
    rw [hq, hq1]
    repeat' split
    all_goals first | exact Rb_j hqb | exact Rb_j hb2 | decide
theorem abs_R {x : Int64} {z : Int} (hx : x = jL z) (hz : bT z) : sp_absL x = jL (z.natAbs : Int) := by rw [hx]; exact absL_j (bT_L hz)
theorem sgn_R {x y : Int64} : pa_Rb (sgnC x y) = true := by
  unfold sgnC
  repeat' split
  all_goals decide
theorem le_mul {a b : Nat} (ha : 0 < a) : (b : Int) ≤ 1000000000000 / (a : Int) ↔ a * b ≤ 1000000000000 := by
  rw [Int.le_ediv_iff_mul_le (by omega)]
  rw [Nat.mul_comm]
  constructor
  · intro h
    have h2 : ((b * a : Nat) : Int) ≤ 1000000000000 := by rw [Int.natCast_mul]; exact h
    omega
  · intro h
    have h2 : ((b * a : Nat) : Int) ≤ 1000000000000 := by omega
    rw [Int.natCast_mul] at h2
    exact h2
/-- both products -/
theorem prod_R {x y : Int64} (hx : pa_Rb x = true) (hy : pa_Rb y = true) : prodC x y = timesR x y ∧ pa_Rb (timesR x y) = true := by
  obtain ⟨a, ea, ha⟩ := Rb_e hx
  obtain ⟨b, eb, hb⟩ := Rb_e hy
  have hA : bL (a.natAbs : Int) := by obtain ⟨h1, h2⟩ := ha; exact ⟨by omega, by omega⟩
  have hBb : bL (b.natAbs : Int) := by obtain ⟨h1, h2⟩ := hb; exact ⟨by omega, by omega⟩
  have hG : bL 1000000000000 := ⟨by decide, by decide⟩
  have h0 : bL 0 := ⟨by decide, by decide⟩
  have eq0 : ∀ {z : Int}, bL z → (lg_cmp (jL z) 0 = 0 ↔ z = 0) := fun hz => by rw [lg_cmp0]; exact jL_eq (b := 0) hz h0
  have hmul : a.natAbs * b.natAbs ≤ 1000000000000 → pa_Rb (x * y) = true := by
    intro h
    rw [ea, eb, jL_mul]
    apply Rb_j
    have : (a * b).natAbs ≤ 1000000000000 := by rw [Int.natAbs_mul]; exact h
    generalize a * b = z at this ⊢
    exact ⟨by omega, by omega⟩
  have hdiv : ∀ {k : Nat}, 0 < k → (k : Int) ≤ 1000000000000 → (1000000000000 : Int64) / jL (k : Int) = jL (1000000000000 / (k : Int)) := fun {k} hk hk2 => by
    rw [show (1000000000000 : Int64) = jL 1000000000000 from rfl]
    exact jL_divp hG ⟨by omega, by omega⟩ (by decide) (by omega)
  have hdb : ∀ {k : Nat}, bL (1000000000000 / (k : Int)) := fun {k} => by
    have h1 := Int.ediv_nonneg (show (0 : Int) ≤ 1000000000000 by decide) (show (0 : Int) ≤ k by omega)
    have h2 := Int.ediv_le_self (k : Int) (show (0 : Int) ≤ 1000000000000 by decide)
    exact ⟨by omega, by omega⟩
  unfold prodC timesR
  rw [abs_R ea ha, abs_R eb hb]
  by_cases a0 : a = 0
  · have e1 : lg_cmp (jL (a.natAbs : Int)) 0 ≤ 0 := by rw [cmp_le, show (0 : Int64) = jL 0 from rfl, jL_lt h0 hA]; omega
    rw [if_pos e1]
    refine ⟨?_, hmul (by rw [a0]; simp)⟩
    by_cases b0 : b = 0
    · rw [if_pos (by rw [eb, eq0 (bT_L hb)]; exact b0)]
    · rw [if_neg (by rw [eb, eq0 (bT_L hb)]; exact b0), hdiv (k := b.natAbs) (by omega) (by obtain ⟨h1, h2⟩ := hb; omega), if_neg (by
        rw [cmp_gt, jL_lt hdb hA]
        have := Int.ediv_nonneg (show (0 : Int) ≤ 1000000000000 by decide) (show (0 : Int) ≤ b.natAbs by omega)
        omega)]
  · have e1 : ¬ lg_cmp (jL (a.natAbs : Int)) 0 ≤ 0 := by rw [cmp_le, show (0 : Int64) = jL 0 from rfl, jL_lt h0 hA]; omega
    rw [if_neg e1, hdiv (k := a.natAbs) (by omega) (by obtain ⟨h1, h2⟩ := ha; omega)]
    have c2 : lg_cmp (jL (b.natAbs : Int)) (jL (1000000000000 / (a.natAbs : Int))) ≤ 0 ↔ a.natAbs * b.natAbs ≤ 1000000000000 := by
      rw [cmp_le, jL_lt hdb hBb, ← le_mul (show 0 < a.natAbs by omega)]
      omega
    by_cases b0 : b = 0
    · rw [if_pos (by rw [eb, eq0 (bT_L hb)]; exact b0), if_pos (c2.mpr (by rw [b0]; simp))]
      exact ⟨rfl, hmul (by rw [b0]; simp)⟩
    · rw [if_neg (by rw [eb, eq0 (bT_L hb)]; exact b0), hdiv (k := b.natAbs) (by omega) (by obtain ⟨h1, h2⟩ := hb; omega)]
      have c1 : 0 < lg_cmp (jL (a.natAbs : Int)) (jL (1000000000000 / (b.natAbs : Int))) ↔ ¬ a.natAbs * b.natAbs ≤ 1000000000000 := by
        rw [cmp_gt, jL_lt hdb hA, Nat.mul_comm, ← le_mul (show 0 < b.natAbs by omega)]
        omega
      by_cases c : a.natAbs * b.natAbs ≤ 1000000000000
      · rw [if_neg (fun q => c1.mp q c), if_pos (c2.mpr c)]
        exact ⟨rfl, hmul c⟩
      · rw [if_pos (c1.mpr c), if_neg (fun q => c (c2.mp q))]
        exact ⟨rfl, sgn_R⟩
theorem pa_Ag_real {ld fc : Nat → Int64} (hl : ∀ c, pa_Rb (ld c) = true) (hf : ∀ i, pa_Rb (fc i) = true) : pa_Ag ld fc jnC twR := by
  refine ⟨⟨hl, hf⟩, fun t ht x y hx hy => ?_, fun t t1 t2 x y => ?_, fun t ht x y hx hy => ?_⟩
  · have hab : ∃ a b, x = jL a ∧ y = jL b ∧ bT a ∧ bT b := by
      obtain ⟨a, ea, ha⟩ := Rb_e hx
      obtain ⟨b, eb, hb⟩ := Rb_e hy
      exact ⟨a, b, ea, eb, ha, hb⟩
    have hclamp : ∀ {z : Int}, pa_Rb (jL (max (-1000000000000) (min 1000000000000 z))) = true := Rb_j ⟨by omega, by omega⟩
    have h01 : ∀ {c : Prop} {dc : Decidable c}, pa_Rb (if c then (0 : Int64) else 1) = true := fun {c} dc => by by_cases h : c <;> simp only [h, if_true, if_false] <;> decide
    have h10 : ∀ {c : Prop} {dc : Decidable c}, pa_Rb (if c then (1 : Int64) else 0) = true := fun {c} dc => by by_cases h : c <;> simp only [h, if_true, if_false] <;> decide
    have htt : t = 19 ∨ t = 20 ∨ t = 22 ∨ t = 23 ∨ t = 24 ∨ t = 25 ∨ t = 26 ∨ t = 27 ∨ t = 28 := by omega
    rcases htt with rfl | rfl | rfl | rfl | rfl | rfl | rfl | rfl | rfl
    · show sp_minL x y = (if 0 ≤ lg_cmp x y then y else x) ∧ pa_Rb (if 0 ≤ lg_cmp x y then y else x) = true
      have e : sp_minL x y = if 0 ≤ lg_cmp x y then y else x := by
        unfold sp_minL
        by_cases c : 0 < lg_cmp x y
        · rw [if_pos c, if_pos (Int32.le_of_lt c)]
        · rw [if_neg c]
          by_cases c2 : 0 ≤ lg_cmp x y
          · rw [if_pos c2]
            have : lg_cmp x y = 0 := Int32.le_antisymm (Int32.not_lt.mp c) c2
            exact lg_cmp0.mp this
          · rw [if_neg c2]
      refine ⟨e, ?_⟩
      split <;> assumption
    · show sp_maxL x y = (if lg_cmp x y ≤ 0 then y else x) ∧ pa_Rb (if lg_cmp x y ≤ 0 then y else x) = true
      have e : sp_maxL x y = if lg_cmp x y ≤ 0 then y else x := by
        unfold sp_maxL
        by_cases c : lg_cmp x y < 0
        · rw [if_pos c, if_pos (Int32.le_of_lt c)]
        · rw [if_neg c]
          by_cases c2 : lg_cmp x y ≤ 0
          · rw [if_pos c2]
            have : lg_cmp x y = 0 := Int32.le_antisymm c2 (Int32.not_lt.mp c)
            exact lg_cmp0.mp this
          · rw [if_neg c2]
      refine ⟨e, ?_⟩
      split <;> assumption
    · obtain ⟨a, b, rfl, rfl, ha, hb⟩ := hab
      have h : bL (a + b) := by obtain ⟨h1, h2⟩ := ha; obtain ⟨h3, h4⟩ := hb; exact ⟨by omega, by omega⟩
      show sp_j_bounded (jL a + jL b) = sp_m_held (jL a + jL b) ∧ pa_Rb (sp_m_held (jL a + jL b)) = true
      rw [jL_add, bounded_j h, held_j h]
      exact ⟨rfl, hclamp⟩
    · obtain ⟨a, b, rfl, rfl, ha, hb⟩ := hab
      have h : bL (a - b) := by obtain ⟨h1, h2⟩ := ha; obtain ⟨h3, h4⟩ := hb; exact ⟨by omega, by omega⟩
      show sp_j_bounded (jL a - jL b) = sp_m_held (jL a - jL b) ∧ pa_Rb (sp_m_held (jL a - jL b)) = true
      rw [jL_sub, bounded_j h, held_j h]
      exact ⟨rfl, hclamp⟩
    · exact prod_R hx hy
    · exact ⟨over_all x y, over_R hx hy⟩
    · exact ⟨rfl, h01⟩
    · exact ⟨rfl, h01⟩
    · exact ⟨rfl, h10⟩
  · have htt : t = 26 ∨ t = 27 ∨ t = 28 := by omega
    have h01 : ∀ {c : Prop} {dc : Decidable c}, (if c then (0 : Int64) else 1) = 0 ∨ (if c then (0 : Int64) else 1) = 1 := fun {c} dc => by by_cases h : c <;> simp only [h, if_true, if_false] <;> decide
    have h10 : ∀ {c : Prop} {dc : Decidable c}, (if c then (1 : Int64) else 0) = 0 ∨ (if c then (1 : Int64) else 0) = 1 := fun {c} dc => by by_cases h : c <;> simp only [h, if_true, if_false] <;> decide
    rcases htt with rfl | rfl | rfl
    · exact h01
    · exact h01
    · exact h10
  · rcases ht with rfl | rfl <;> rcases hx with rfl | rfl <;> rcases hy with rfl | rfl <;> decide
