/-! NUMBERS: whole numbers under Int32, Int64 -/
def jL (z : Int) : Int64 := Int64.ofInt z
def jI (z : Int) : Int32 := Int32.ofInt z
def bL (z : Int) : Prop := -9000000000000000000 ≤ z ∧ z ≤ 9000000000000000000
def bI (z : Int) : Prop := -2147483648 ≤ z ∧ z ≤ 2147483647
theorem jL_add (a b : Int) : jL a + jL b = jL (a + b) := (Int64.ofInt_add a b).symm
theorem jL_mul (a b : Int) : jL a * jL b = jL (a * b) := (Int64.ofInt_mul a b).symm
theorem jL_sub (a b : Int) : jL a - jL b = jL (a - b) := (Int64.ofInt_sub a b).symm
theorem jI_add (a b : Int) : jI a + jI b = jI (a + b) := (Int32.ofInt_add a b).symm
theorem jI_mul (a b : Int) : jI a * jI b = jI (a * b) := (Int32.ofInt_mul a b).symm
theorem jI_sub (a b : Int) : jI a - jI b = jI (a - b) := (Int32.ofInt_sub a b).symm
theorem jL_toInt {z : Int} (h : bL z) : (jL z).toInt = z := Int64.toInt_ofInt_of_le (by have := h.1; omega) (by have := h.2; omega)
theorem jI_toInt {z : Int} (h : bI z) : (jI z).toInt = z := Int32.toInt_ofInt_of_le (by have := h.1; omega) (by have := h.2; omega)
theorem jI_self (x : Int32) : jI x.toInt = x := Int32.ofInt_toInt x
theorem jL_self (x : Int64) : jL x.toInt = x := Int64.ofInt_toInt x
theorem i32_b (x : Int32) : bI x.toInt := ⟨by have := Int32.le_toInt x; omega, by have := Int32.toInt_lt x; omega⟩
theorem jI_64 {z : Int} (h : bI z) : (jI z).toInt64 = jL z := by
  apply Int64.toInt_inj.mp
  rw [Int32.toInt_toInt64, jI_toInt h, jL_toInt ⟨by have := h.1; omega, by have := h.2; omega⟩]
theorem i64_j (x : Int32) : x.toInt64 = jL x.toInt := by
  have := jI_64 (i32_b x)
  rwa [jI_self] at this
theorem jL_32 (z : Int) : (jL z).toInt32 = jI z := Int64.toInt32_ofInt
theorem jL_lt {a b : Int} (ha : bL a) (hb : bL b) : jL a < jL b ↔ a < b := by
  rw [Int64.lt_iff_toInt_lt, jL_toInt ha, jL_toInt hb]
theorem jL_eq {a b : Int} (ha : bL a) (hb : bL b) : jL a = jL b ↔ a = b := by
  constructor
  · intro h
    have := congrArg Int64.toInt h
    rwa [jL_toInt ha, jL_toInt hb] at this
  · intro h; rw [h]
theorem jI_lt {a b : Int} (ha : bI a) (hb : bI b) : jI a < jI b ↔ a < b := by
  rw [Int32.lt_iff_toInt_lt, jI_toInt ha, jI_toInt hb]
theorem jI_le {a b : Int} (ha : bI a) (hb : bI b) : jI a ≤ jI b ↔ a ≤ b := by
  rw [Int32.le_iff_toInt_le, jI_toInt ha, jI_toInt hb]
theorem jI_eq {a b : Int} (ha : bI a) (hb : bI b) : jI a = jI b ↔ a = b := by
  constructor
  · intro h
    have := congrArg Int32.toInt h
    rwa [jI_toInt ha, jI_toInt hb] at this
  · intro h; rw [h]
theorem nI_j (n : Nat) : nI n = jI (n : Int) := Int32.ofInt_eq_ofNat.symm
theorem lN_j (n : Nat) : lN n = jL (n : Int) := Int64.ofInt_eq_ofNat.symm
/-! comparisons of longs -/
theorem cmp_lt {x y : Int64} : lg_cmp x y < 0 ↔ x < y := by
  unfold lg_cmp
  by_cases h : x > y
  · rw [if_pos h]
    exact ⟨fun q => absurd q (by decide), fun q => absurd q (Int64.not_lt.mpr (Int64.le_of_lt h))⟩
  · rw [if_neg h]
    by_cases e : x = y
    · rw [if_pos e, e]; exact ⟨fun q => absurd q (by decide), fun q => absurd q (Int64.lt_irrefl)⟩
    · rw [if_neg e]; exact ⟨fun _ => Int64.lt_of_le_of_ne (Int64.not_lt.mp h) e, fun _ => by decide⟩
theorem cmp_gt {x y : Int64} : 0 < lg_cmp x y ↔ y < x := by
  unfold lg_cmp
  by_cases h : x > y
  · rw [if_pos h]; exact ⟨fun _ => h, fun _ => by decide⟩
  · rw [if_neg h]
    by_cases e : x = y
    · rw [if_pos e]; exact ⟨fun q => absurd q (by decide), fun q => absurd q h⟩
    · rw [if_neg e]; exact ⟨fun q => absurd q (by decide), fun q => absurd q h⟩
theorem cmp_le {x y : Int64} : lg_cmp x y ≤ 0 ↔ ¬ y < x := by
  rw [← cmp_gt]
  exact ⟨fun h q => absurd h (Int32.not_le.mpr q), fun h => Int32.not_lt.mp h⟩
theorem cmp_ge {x y : Int64} : 0 ≤ lg_cmp x y ↔ ¬ x < y := by
  rw [← cmp_lt]
  exact ⟨fun h q => absurd h (Int32.not_le.mpr q), fun h => Int32.not_lt.mp h⟩
/-! division -/
theorem tdiv_floor {a b : Int} (hb : 0 < b) : a.tdiv b = (if 0 ≤ a ∨ b ∣ a then a / b else a / b + 1) := by
  by_cases h : 0 ≤ a
  · rw [if_pos (Or.inl h), Int.tdiv_eq_ediv_of_nonneg h]
  · rw [Int.tdiv_eq_ediv]
    have hs : b.sign = 1 := Int.sign_eq_one_of_pos hb
    by_cases hd : b ∣ a
    · rw [if_pos (Or.inr hd), if_pos (Or.inr hd)]; omega
    · rw [if_neg (by rintro (q | q); exact h q; exact hd q), if_neg (by rintro (q | q); exact h q; exact hd q), hs]
theorem jL_tdiv {a b : Int} (ha : bL a) (hb : bL b) (hb0 : 0 < b) : jL a / jL b = jL (a.tdiv b) := by
  have hh : -9000000000000000000 ≤ a.tdiv b ∧ a.tdiv b ≤ 9000000000000000000 := by
    have h1 := Int.natAbs_tdiv_le_natAbs a b
    obtain ⟨h2, h3⟩ := ha
    omega
  apply Int64.toInt_inj.mp
  rw [Int64.toInt_div_of_ne_left, jL_toInt ha, jL_toInt hb, jL_toInt hh]
  intro e
  have := congrArg Int64.toInt e
  rw [jL_toInt ha] at this
  have e2 : (Int64.minValue).toInt = -9223372036854775808 := by decide
  rw [e2] at this
  have := ha.1
  omega
theorem jL_divp {a b : Int} (ha : bL a) (hb : bL b) (ha0 : 0 ≤ a) (hb0 : 0 < b) : jL a / jL b = jL (a / b) := by
  rw [jL_tdiv ha hb hb0, tdiv_floor hb0, if_pos (Or.inl ha0)]
theorem ediv_b {a b : Int} (ha : bL a) (hb0 : 0 < b) : bL (a / b) := by
  obtain ⟨h1, h2⟩ := ha
  constructor
  · exact Int.le_trans (by omega) (Int.le_ediv_of_mul_le hb0 (show -9000000000000000000 * b ≤ a from Int.le_trans (by
      have : 9000000000000000000 * 1 ≤ 9000000000000000000 * b := Int.mul_le_mul_of_nonneg_left (by omega) (by decide)
      omega) h1))
  · rcases Int.le_total 0 a with h | h
    · exact Int.le_trans (Int.ediv_le_self b h) h2
    · have h3 : a / b ≤ 0 := Int.ediv_le_of_le_mul hb0 (by omega)
      omega
theorem tdiv_mul_eq {a b : Int} (hb0 : 0 < b) : a.tdiv b * b = a ↔ b ∣ a := by
  constructor
  · intro h; exact ⟨a.tdiv b, by rw [Int.mul_comm]; exact h.symm⟩
  · rintro ⟨c, rfl⟩
    rw [Int.mul_tdiv_cancel_left c (by omega), Int.mul_comm]
theorem tdiv_b {a b : Int} (ha : bL a) : bL (a.tdiv b) := by
  have h1 := Int.natAbs_tdiv_le_natAbs a b
  obtain ⟨h2, h3⟩ := ha
  exact ⟨by omega, by omega⟩
theorem tdiv_mul_b {a b : Int} (ha : bL a) (hb0 : 0 < b) : bL (a.tdiv b * b) := by
  have e := Int.mul_tdiv_add_tmod a b
  have e2 : a.tdiv b * b = b * a.tdiv b := Int.mul_comm _ _
  have hm := Int.tmod_lt_of_pos a hb0
  obtain ⟨h2, h3⟩ := ha
  rcases Int.le_total 0 a with h | h
  · have h4 := Int.tmod_nonneg b h
    have h5 : 0 ≤ a.tdiv b := Int.tdiv_nonneg h (by omega)
    have h6 : 0 ≤ b * a.tdiv b := Int.mul_nonneg (by omega) h5
    exact ⟨by omega, by omega⟩
  · have h4 : a.tmod b ≤ 0 := by
      have := Int.tmod_nonneg b (show 0 ≤ -a by omega)
      rw [Int.neg_tmod] at this
      omega
    have h5 : a.tdiv b ≤ 0 := by
      have := Int.tdiv_nonneg (show 0 ≤ -a by omega) (show 0 ≤ b by omega)
      rw [Int.neg_tdiv] at this
      omega
    have h6 : b * a.tdiv b ≤ 0 := by
      have := Int.mul_nonneg (show 0 ≤ b by omega) (show 0 ≤ -(a.tdiv b) by omega)
      rw [Int.mul_neg] at this
      omega
    exact ⟨by omega, by omega⟩
theorem floor_tdiv {a b : Int} (hb0 : 0 < b) : a / b = (if 0 ≤ a ∨ b ∣ a then a.tdiv b else a.tdiv b - 1) := by
  rw [tdiv_floor hb0]
  by_cases h : 0 ≤ a ∨ b ∣ a
  · simp only [if_pos h]
  · simp only [if_neg h]; omega
theorem over_j {a b : Int} (ha : bL a) (hb : bL b) (hb0 : 0 < b) : sp_m_over (jL a) (jL b) = jL (a / b) := by
  have ht := jL_tdiv ha hb hb0
  have h0 : ∀ {z : Int}, bL z → (jL z = 0 ↔ z = 0) := fun hz => jL_eq (b := 0) hz ⟨by decide, by decide⟩
  have hl : ∀ {z : Int}, bL z → (jL z < 0 ↔ z < 0) := fun hz => jL_lt (b := 0) hz ⟨by decide, by decide⟩
  have hm := tdiv_mul_b ha hb0
  unfold sp_m_over
  rw [if_neg (by rw [lg_cmp0, h0 hb]; omega), ht, jL_mul, jL_sub]
  have hd : bL (a - a.tdiv b * b) := by
    have e := Int.mul_tdiv_add_tmod a b
    have e2 : a.tdiv b * b = b * a.tdiv b := Int.mul_comm _ _
    have h1 := Int.tmod_lt_of_pos a hb0
    have h2 : -b < a.tmod b := by
      have := Int.tmod_lt_of_pos (-a) hb0
      rw [Int.neg_tmod] at this
      omega
    obtain ⟨_, _⟩ := hb
    exact ⟨by omega, by omega⟩
  rw [floor_tdiv hb0]
  by_cases hz : b ∣ a
  · rw [if_pos (by rw [lg_cmp0, h0 hd]; have := (tdiv_mul_eq hb0).mpr hz; omega), if_pos (Or.inr hz)]
  · rw [if_neg (by rw [lg_cmp0, h0 hd]; intro q; exact hz ((tdiv_mul_eq hb0).mp (by omega)))]
    by_cases hn : 0 ≤ a
    · rw [if_pos (by rw [cmp_ge, hl ha]; omega), if_pos (by rw [cmp_ge, hl hb]; omega), if_pos (Or.inl hn)]
    · rw [if_neg (by rw [cmp_ge, hl ha]; omega), if_pos (by rw [cmp_ge, hl hb]; omega), if_neg (by rintro (q | q); exact hn q; exact hz q)]
      exact jL_sub _ 1
theorem xor_sign (x y : Int64) : x ^^^ y < 0 ↔ (x < 0 ↔ ¬ y < 0) := by
  have h : ∀ z : Int64, z < 0 ↔ z.toBitVec.msb = true := by
    intro z
    rw [Int64.lt_iff_toInt_lt, BitVec.msb_eq_toInt]
    show z.toInt < 0 ↔ _
    rw [decide_eq_true_iff]
    rfl
  rw [h, h, h, Int64.toBitVec_xor, BitVec.msb_xor]
  cases x.toBitVec.msb <;> cases y.toBitVec.msb <;> simp
theorem floorDiv_j {a b : Int} (ha : bL a) (hb : bL b) (hb0 : 0 < b) : sp_floorDivL (jL a) (jL b) = jL (a / b) := by
  have ht := jL_tdiv ha hb hb0
  have hl : ∀ {z : Int}, bL z → (jL z < 0 ↔ z < 0) := fun hz => jL_lt (b := 0) hz ⟨by decide, by decide⟩
  have hm := tdiv_mul_b ha hb0
  unfold sp_floorDivL
  rw [ht, jL_mul]
  rw [floor_tdiv hb0]
  by_cases hn : 0 ≤ a
  · rw [if_pos (by rw [cmp_ge, xor_sign, hl ha, hl hb]; omega), if_pos (Or.inl hn)]
  · rw [if_neg (by rw [cmp_ge, xor_sign, hl ha, hl hb]; omega)]
    by_cases hz : b ∣ a
    · rw [if_pos (by rw [lg_cmp0, jL_eq hm ha]; exact (tdiv_mul_eq hb0).mpr hz), if_pos (Or.inr hz)]
    · rw [if_neg (by rw [lg_cmp0, jL_eq hm ha]; intro q; exact hz ((tdiv_mul_eq hb0).mp q)), if_neg (by rintro (q | q); exact hn q; exact hz q)]
      exact jL_sub _ 1
theorem maxL_j {a b : Int} (ha : bL a) (hb : bL b) : sp_maxL (jL a) (jL b) = jL (max a b) := by
  unfold sp_maxL
  by_cases h : a < b
  · rw [if_pos (by rw [cmp_lt, jL_lt ha hb]; exact h), Int.max_eq_right (by omega)]
  · rw [if_neg (by rw [cmp_lt, jL_lt ha hb]; exact h), Int.max_eq_left (by omega)]
theorem minL_j {a b : Int} (ha : bL a) (hb : bL b) : sp_minL (jL a) (jL b) = jL (min a b) := by
  unfold sp_minL
  by_cases h : b < a
  · rw [if_pos (by rw [cmp_gt, jL_lt hb ha]; exact h), Int.min_eq_right (by omega)]
  · rw [if_neg (by rw [cmp_gt, jL_lt hb ha]; exact h), Int.min_eq_left (by omega)]
theorem maxI_j {a b : Int} (ha : bI a) (hb : bI b) : sp_maxI (jI a) (jI b) = jI (max a b) := by
  unfold sp_maxI
  by_cases h : a < b
  · rw [if_pos ((jI_lt ha hb).mpr h), Int.max_eq_right (by omega)]
  · rw [if_neg (fun q => h ((jI_lt ha hb).mp q)), Int.max_eq_left (by omega)]
theorem minI_j {a b : Int} (ha : bI a) (hb : bI b) : sp_minI (jI a) (jI b) = jI (min a b) := by
  unfold sp_minI
  by_cases h : b < a
  · rw [if_pos ((jI_lt hb ha).mpr h), Int.min_eq_right (by omega)]
  · rw [if_neg (fun q => h ((jI_lt hb ha).mp q)), Int.min_eq_left (by omega)]
theorem absL_j {a : Int} (ha : bL a) : sp_absL (jL a) = jL (a.natAbs : Int) := by
  unfold sp_absL
  have hl : jL a < 0 ↔ a < 0 := jL_lt (b := 0) ha ⟨by decide, by decide⟩
  by_cases h : a < 0
  · rw [if_neg (by rw [cmp_ge, hl]; omega)]
    have e : -jL a = jL (-a) := (Int64.ofInt_neg a).symm
    rw [e]
    congr 1
    omega
  · rw [if_pos (by rw [cmp_ge, hl]; exact h)]
    congr 1
    omega
/-! sums -/
def zS (f : Nat → Int) : Nat → Int
  | 0 => 0
  | k + 1 => zS f k + f k
theorem zS_c {f g : Nat → Int} : ∀ {n : Nat}, (∀ k, k < n → f k = g k) → zS f n = zS g n := by
  intro n
  induction n with
  | zero => intro _; rfl
  | succ n ih => intro h; show zS f n + f n = zS g n + g n; rw [ih (fun k hk => h k (by omega)), h n (by omega)]
theorem zS_b {f : Nat → Int} {B : Int} : ∀ {n : Nat}, (∀ k, k < n → -B ≤ f k ∧ f k ≤ B) → -(B * n) ≤ zS f n ∧ zS f n ≤ B * n := by
  intro n
  induction n with
  | zero => intro _; exact ⟨by show -(B * 0) ≤ 0; omega, by show 0 ≤ B * 0; omega⟩
  | succ n ih =>
    intro h
    have h1 := ih (fun k hk => h k (by omega))
    have h2 := h n (by omega)
    have e : B * ((n + 1 : Nat) : Int) = B * n + B := by push_cast; rw [Int.mul_add, Int.mul_one]
    rw [e]
    exact ⟨by show _ ≤ zS f n + f n; omega, by show zS f n + f n ≤ _; omega⟩
theorem zS_0 {f : Nat → Int} : ∀ {n : Nat}, (∀ k, k < n → 0 ≤ f k) → 0 ≤ zS f n := by
  intro n
  induction n with
  | zero => intro _; exact Int.le_refl 0
  | succ n ih => intro h; have h1 := ih (fun k hk => h k (by omega)); have h2 := h n (by omega); show 0 ≤ zS f n + f n; omega
theorem zS_add {f g : Nat → Int} : ∀ {n : Nat}, zS (fun k => f k + g k) n = zS f n + zS g n := by
  intro n
  induction n with
  | zero => rfl
  | succ n ih => show zS _ n + (f n + g n) = _; rw [ih]; show _ = (zS f n + f n) + (zS g n + g n); omega
theorem zS_mul {f : Nat → Int} {a : Int} : ∀ {n : Nat}, zS (fun k => a * f k) n = a * zS f n := by
  intro n
  induction n with
  | zero => show 0 = a * 0; omega
  | succ n ih => show zS _ n + a * f n = a * (zS f n + f n); rw [ih, Int.mul_add]
theorem zS_le {f g : Nat → Int} : ∀ {n : Nat}, (∀ k, k < n → f k ≤ g k) → zS f n ≤ zS g n := by
  intro n
  induction n with
  | zero => intro _; exact Int.le_refl 0
  | succ n ih => intro h; have h1 := ih (fun k hk => h k (by omega)); have h2 := h n (by omega); show zS f n + f n ≤ zS g n + g n; omega
/-- one term is another -/
theorem zS_up {f g : Nat → Int} {i : Nat} : ∀ {n : Nat}, i < n → (∀ k, k < n → k ≠ i → g k = f k) → zS g n = zS f n + (g i - f i) := by
  intro n
  induction n with
  | zero => intro h; omega
  | succ n ih =>
    intro h he
    show zS g n + g n = zS f n + f n + (g i - f i)
    by_cases e : i = n
    · subst e
      rw [zS_c (fun k hk => he k (by omega) (by omega))]
      omega
    · rw [ih (by omega) (fun k hk hne => he k (by omega) hne), he n (by omega) (fun q => e q.symm)]
      omega
theorem sL_j {f : Nat → Int64} {g : Nat → Int} : ∀ {n : Nat}, (∀ k, k < n → f k = jL (g k)) → sL f n = jL (zS g n) := by
  intro n
  induction n with
  | zero => intro _; rfl
  | succ n ih =>
    intro h
    show sL f n + f n = jL (zS g n + g n)
    rw [ih (fun k hk => h k (by omega)), h n (by omega), jL_add]
