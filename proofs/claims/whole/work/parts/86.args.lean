/-! WHAT THE ARGUMENTS MAY BE, of both sides -/
theorem ar_wi {x : Int32} {a b : Int} (ha : bL a) (hb : bL b) : sp_isWithin x.toInt64 (jL a) (jL b) = 0 ↔ ¬ (a ≤ x.toInt ∧ x.toInt ≤ b) := by
  have hx := i32_b x
  have hx2 : bL x.toInt := ⟨by have := hx.1; omega, by have := hx.2; omega⟩
  unfold sp_isWithin
  rw [i64_j]
  by_cases h1 : x.toInt < a
  · rw [if_pos (by rw [cmp_lt, jL_lt hx2 ha]; exact h1)]
    exact ⟨fun _ z => by omega, fun _ => rfl⟩
  · rw [if_neg (by rw [cmp_lt, jL_lt hx2 ha]; exact h1)]
    by_cases h2 : b < x.toInt
    · rw [if_pos (by rw [cmp_gt, jL_lt hb hx2]; exact h2)]
      exact ⟨fun _ z => by omega, fun _ => rfl⟩
    · rw [if_neg (by rw [cmp_gt, jL_lt hb hx2]; exact h2)]
      exact ⟨fun q => absurd q (by decide), fun q => absurd ⟨by omega, by omega⟩ q⟩
theorem ar_mi {x : Int32} {a b : Int} (ha : bI a) (hb : bI b) : sp_m_is x (jI a) (jI b) = 0 ↔ ¬ (a ≤ x.toInt ∧ x.toInt ≤ b) := by
  unfold sp_m_is
  have e1 : x < jI a ↔ x.toInt < a := by rw [Int32.lt_iff_toInt_lt, jI_toInt ha]
  have e2 : jI b < x ↔ b < x.toInt := by rw [Int32.lt_iff_toInt_lt, jI_toInt hb]
  by_cases h1 : x.toInt < a
  · rw [if_pos (e1.mpr h1)]
    exact ⟨fun _ z => by omega, fun _ => rfl⟩
  · rw [if_neg (fun q => h1 (e1.mp q))]
    by_cases h2 : b < x.toInt
    · rw [if_pos (e2.mpr h2)]
      exact ⟨fun _ z => by omega, fun _ => rfl⟩
    · rw [if_neg (fun q => h2 (e2.mp q))]
      exact ⟨fun q => absurd q (by decide), fun q => absurd ⟨by omega, by omega⟩ q⟩
theorem ar_wi2 {x : Int32} {a b : Int} {A B : Int64} (hA : A = jL a) (hB : B = jL b) (ha : bL a) (hb : bL b) : sp_isWithin x.toInt64 A B = 0 ↔ ¬ (a ≤ x.toInt ∧ x.toInt ≤ b) := by rw [hA, hB]; exact ar_wi ha hb
theorem ar_mi2 {x : Int32} {a b : Int} {A B : Int32} (hA : A = jI a) (hB : B = jI b) (ha : bI a) (hb : bI b) : sp_m_is x A B = 0 ↔ ¬ (a ≤ x.toInt ∧ x.toInt ≤ b) := by rw [hA, hB]; exact ar_mi ha hb
theorem ar_lt0 {x : Int32} : x < 0 ↔ x.toInt < 0 := Int32.lt_iff_toInt_lt
theorem ar_ge {x c : Int32} : c ≤ x ↔ c.toInt ≤ x.toInt := Int32.le_iff_toInt_le
theorem ar_in {x c : Int32} : (if x < 0 then (0 : Int32) else if c ≤ x then 0 else 1) = 0 ↔ ¬ (0 ≤ x.toInt ∧ x.toInt < c.toInt) := by
  by_cases h1 : x < 0
  · rw [if_pos h1]; have := ar_lt0.mp h1; exact ⟨fun _ z => by omega, fun _ => rfl⟩
  · have h1' : ¬ x.toInt < 0 := fun q => h1 (ar_lt0.mpr q)
    rw [if_neg h1]
    by_cases h2 : c ≤ x
    · rw [if_pos h2]; have := ar_ge.mp h2; exact ⟨fun _ z => by omega, fun _ => rfl⟩
    · have h2' : ¬ c.toInt ≤ x.toInt := fun q => h2 (ar_ge.mpr q)
      rw [if_neg h2]; exact ⟨fun q => absurd q (by decide), fun q => absurd ⟨by omega, by omega⟩ q⟩
theorem ar_day {x : Int32} : sp_isDay x = 0 ↔ ¬ (0 ≤ x.toInt ∧ x.toInt < 400) := ar_in
theorem ar_col {x : Int32} : sp_isColumn x = 0 ↔ ¬ (0 ≤ x.toInt ∧ x.toInt < 16) := ar_in
theorem ar_gauge {x : Int32} : sp_isGauge x = 0 ↔ ¬ (0 ≤ x.toInt ∧ x.toInt < 4) := ar_in
theorem ar_ring {x : Int32} : sp_isRing x = 0 ↔ ¬ (0 ≤ x.toInt ∧ x.toInt < 8) := ar_in
theorem ar_mday {x : Int32} : sp_m_isDay x = 0 ↔ ¬ (0 ≤ x.toInt ∧ x.toInt < 400) := by
  have h : sp_m_is x 0 399 = 0 ↔ ¬ (0 ≤ x.toInt ∧ x.toInt ≤ 399) := ar_mi2 (x := x) (a := 0) (b := 399) rfl rfl ⟨by decide, by decide⟩ ⟨by decide, by decide⟩
  exact h.trans ⟨fun q z => q ⟨z.1, by omega⟩, fun q z => q ⟨z.1, by omega⟩⟩
theorem ar_mcol {x : Int32} : sp_m_isColumn x = 0 ↔ ¬ (0 ≤ x.toInt ∧ x.toInt < 16) := by
  have h : sp_m_is x 0 15 = 0 ↔ ¬ (0 ≤ x.toInt ∧ x.toInt ≤ 15) := ar_mi2 (x := x) (a := 0) (b := 15) rfl rfl ⟨by decide, by decide⟩ ⟨by decide, by decide⟩
  exact h.trans ⟨fun q z => q ⟨z.1, by omega⟩, fun q z => q ⟨z.1, by omega⟩⟩
theorem ar_mgauge {x : Int32} : sp_m_is x 0 3 = 0 ↔ ¬ (0 ≤ x.toInt ∧ x.toInt < 4) := by
  have h : sp_m_is x 0 3 = 0 ↔ ¬ (0 ≤ x.toInt ∧ x.toInt ≤ 3) := ar_mi2 (x := x) (a := 0) (b := 3) rfl rfl ⟨by decide, by decide⟩ ⟨by decide, by decide⟩
  exact h.trans ⟨fun q z => q ⟨z.1, by omega⟩, fun q z => q ⟨z.1, by omega⟩⟩
theorem ar_days {x y : Int32} : sp_areDays x y = 0 ↔ ¬ (0 ≤ x.toInt ∧ x.toInt ≤ y.toInt ∧ y.toInt < 400) := by
  unfold sp_areDays
  have e : y < x ↔ y.toInt < x.toInt := Int32.lt_iff_toInt_lt
  have e4 : (400 : Int32) ≤ y ↔ 400 ≤ y.toInt := ar_ge
  by_cases h1 : x < 0
  · rw [if_pos h1]; have := ar_lt0.mp h1; exact ⟨fun _ z => by omega, fun _ => rfl⟩
  · have h1' : ¬ x.toInt < 0 := fun q => h1 (ar_lt0.mpr q)
    rw [if_neg h1]
    by_cases h2 : y < x
    · rw [if_pos h2]; have := e.mp h2; exact ⟨fun _ z => by omega, fun _ => rfl⟩
    · have h2' : ¬ y.toInt < x.toInt := fun q => h2 (e.mpr q)
      rw [if_neg h2]
      by_cases h3 : (400 : Int32) ≤ y
      · rw [if_pos h3]; have := e4.mp h3; exact ⟨fun _ z => by omega, fun _ => rfl⟩
      · have h3' : ¬ 400 ≤ y.toInt := fun q => h3 (e4.mpr q)
        rw [if_neg h3]; exact ⟨fun q => absurd q (by decide), fun q => absurd ⟨by omega, by omega, by omega⟩ q⟩
theorem x_nI {x : Int32} (h : 0 ≤ x.toInt) : x = nI x.toInt.toNat := by
  rw [nI_j, show ((x.toInt.toNat : Nat) : Int) = x.toInt by omega, jI_self]
/-- lead: what both sides take -/
def okLead (t a x c : Int32) : Prop := (1 ≤ t.toInt ∧ t.toInt ≤ 1000) ∧ (-20000 ≤ a.toInt ∧ a.toInt ≤ 20000) ∧ (0 ≤ x.toInt ∧ x.toInt ≤ c.toInt ∧ c.toInt < 400)
def okPipe (x c l : Int32) : Prop := (0 ≤ x.toInt ∧ x.toInt < 400) ∧ (0 ≤ c.toInt ∧ c.toInt < 16) ∧ (1 ≤ l.toInt ∧ l.toInt ≤ 1000)
def okFrost (x c : Int32) : Prop := (0 ≤ x.toInt ∧ x.toInt < 400) ∧ (0 ≤ c.toInt ∧ c.toInt < 16)
def okRead (g x e : Int32) : Prop := (0 ≤ g.toInt ∧ g.toInt < 4) ∧ (0 ≤ x.toInt ∧ x.toInt < 400) ∧ (-1000000000 ≤ e.toInt ∧ e.toInt ≤ 1000000000)
theorem nn_iff {p q : Prop} (h : p ↔ ¬ q) : ¬ p ↔ q := by rw [h]; exact Classical.not_not
theorem vlLead_ok {t a x c : Int32} : vlLead t a x c ↔ okLead t a x c := by
  unfold vlLead okLead
  rw [nn_iff (show sp_isWithin t.toInt64 1 1000 = 0 ↔ ¬ (1 ≤ t.toInt ∧ t.toInt ≤ 1000) from ar_wi2 (x := t) (a := 1) (b := 1000) rfl rfl ⟨by decide, by decide⟩ ⟨by decide, by decide⟩), nn_iff (show sp_isWithin a.toInt64 (-20000) 20000 = 0 ↔ ¬ (-20000 ≤ a.toInt ∧ a.toInt ≤ 20000) from ar_wi2 (x := a) (a := -20000) (b := 20000) rfl rfl ⟨by decide, by decide⟩ ⟨by decide, by decide⟩), nn_iff ar_days]
theorem vlPipe_ok {x c l : Int32} : vlPipe x c l ↔ okPipe x c l := by
  unfold vlPipe okPipe
  rw [nn_iff ar_day, nn_iff ar_col, nn_iff (show sp_isWithin l.toInt64 1 1000 = 0 ↔ ¬ (1 ≤ l.toInt ∧ l.toInt ≤ 1000) from ar_wi2 (x := l) (a := 1) (b := 1000) rfl rfl ⟨by decide, by decide⟩ ⟨by decide, by decide⟩)]
theorem vlFrost_ok {x c : Int32} : vlFrost x c ↔ okFrost x c := by
  unfold vlFrost okFrost
  rw [nn_iff ar_day, nn_iff ar_col]
theorem vlRead_ok {g x e : Int32} : vlRead g x e ↔ okRead g x e := by
  unfold vlRead okRead
  rw [nn_iff ar_gauge, nn_iff ar_day, nn_iff (show sp_isWithin e.toInt64 (-1000000000) 1000000000 = 0 ↔ ¬ (-1000000000 ≤ e.toInt ∧ e.toInt ≤ 1000000000) from ar_wi2 (x := e) (a := -1000000000) (b := 1000000000) rfl rfl ⟨by decide, by decide⟩ ⟨by decide, by decide⟩)]
/-! the reference's acts -/
theorem mlead_v {t a x c : Int32} {I : Nat → Nat → Int32} {L : Nat → Nat → Int64} : (okLead t a x c → sp_m_lead t a x c I L = sp_m_enter 0 x t a c I L ∧ sI_m_lead t a x c I L = sI_m_enter 0 x t a c I L) ∧ (¬ okLead t a x c → sp_m_lead t a x c I L = -1 ∧ sI_m_lead t a x c I L = I) := by
  have e1 : sp_m_is t 1 1000 = 0 ↔ ¬ (1 ≤ t.toInt ∧ t.toInt ≤ 1000) := ar_mi2 (x := t) (a := 1) (b := 1000) rfl rfl ⟨by decide, by decide⟩ ⟨by decide, by decide⟩
  have e2 : sp_m_is a (-20000) 20000 = 0 ↔ ¬ (-20000 ≤ a.toInt ∧ a.toInt ≤ 20000) := ar_mi2 (x := a) (a := -20000) (b := 20000) rfl rfl ⟨by decide, by decide⟩ ⟨by decide, by decide⟩
  have e3 : c < x ↔ c.toInt < x.toInt := Int32.lt_iff_toInt_lt
  unfold sp_m_lead sI_m_lead okLead
  constructor
  · rintro ⟨h1, h2, h3⟩
    have n1 := (nn_iff e1).mpr h1
    have n2 := (nn_iff e2).mpr h2
    have n3 := (nn_iff (ar_mday (x := x))).mpr ⟨h3.1, by omega⟩
    have n4 := (nn_iff (ar_mday (x := c))).mpr ⟨by omega, h3.2.2⟩
    have n5 : ¬ c < x := fun q => by have := e3.mp q; omega
    exact ⟨by rw [if_neg n1, if_neg n2, if_neg n3, if_neg n4, if_neg n5], by rw [if_neg n1, if_neg n2, if_neg n3, if_neg n4, if_neg n5]⟩
  · intro h
    by_cases n1 : sp_m_is t 1 1000 = 0
    · exact ⟨if_pos n1, if_pos n1⟩
    · by_cases n2 : sp_m_is a (-20000) 20000 = 0
      · exact ⟨by rw [if_neg n1, if_pos n2], by rw [if_neg n1, if_pos n2]⟩
      · by_cases n3 : sp_m_isDay x = 0
        · exact ⟨by rw [if_neg n1, if_neg n2, if_pos n3], by rw [if_neg n1, if_neg n2, if_pos n3]⟩
        · by_cases n4 : sp_m_isDay c = 0
          · exact ⟨by rw [if_neg n1, if_neg n2, if_neg n3, if_pos n4], by rw [if_neg n1, if_neg n2, if_neg n3, if_pos n4]⟩
          · have n5 : c < x := by
              apply Classical.not_not.mp
              intro q
              have q1 := (nn_iff ar_mday).mp n3
              have q2 := (nn_iff ar_mday).mp n4
              exact h ⟨(nn_iff e1).mp n1, (nn_iff e2).mp n2, q1.1, by have : ¬ c.toInt < x.toInt := fun z => q (e3.mpr z); omega, q2.2⟩
            exact ⟨by rw [if_neg n1, if_neg n2, if_neg n3, if_neg n4, if_pos n5], by rw [if_neg n1, if_neg n2, if_neg n3, if_neg n4, if_pos n5]⟩
theorem mpipe_v {x c l : Int32} {I : Nat → Nat → Int32} {L : Nat → Nat → Int64} : (okPipe x c l → sp_m_pipe x c l I L = sp_m_enter 1 x c l 0 I L ∧ sI_m_pipe x c l I L = sI_m_enter 1 x c l 0 I L) ∧ (¬ okPipe x c l → sp_m_pipe x c l I L = -1 ∧ sI_m_pipe x c l I L = I) := by
  have e1 : sp_m_is l 1 1000 = 0 ↔ ¬ (1 ≤ l.toInt ∧ l.toInt ≤ 1000) := ar_mi2 (x := l) (a := 1) (b := 1000) rfl rfl ⟨by decide, by decide⟩ ⟨by decide, by decide⟩
  unfold sp_m_pipe sI_m_pipe okPipe
  constructor
  · rintro ⟨h1, h2, h3⟩
    have n1 := (nn_iff (ar_mday (x := x))).mpr h1
    have n2 := (nn_iff (ar_mcol (x := c))).mpr h2
    have n3 := (nn_iff e1).mpr h3
    exact ⟨by rw [if_neg n1, if_neg n2, if_neg n3], by rw [if_neg n1, if_neg n2, if_neg n3]⟩
  · intro h
    by_cases n1 : sp_m_isDay x = 0
    · exact ⟨if_pos n1, if_pos n1⟩
    · by_cases n2 : sp_m_isColumn c = 0
      · exact ⟨by rw [if_neg n1, if_pos n2], by rw [if_neg n1, if_pos n2]⟩
      · have n3 : sp_m_is l 1 1000 = 0 := by
          apply Classical.not_not.mp
          intro q
          exact h ⟨(nn_iff ar_mday).mp n1, (nn_iff ar_mcol).mp n2, (nn_iff e1).mp q⟩
        exact ⟨by rw [if_neg n1, if_neg n2, if_pos n3], by rw [if_neg n1, if_neg n2, if_pos n3]⟩
theorem mfrost_v {x c : Int32} {I : Nat → Nat → Int32} {L : Nat → Nat → Int64} : (okFrost x c → sp_m_frost x c I L = sp_m_enter 2 x c 0 0 I L ∧ sI_m_frost x c I L = sI_m_enter 2 x c 0 0 I L) ∧ (¬ okFrost x c → sp_m_frost x c I L = -1 ∧ sI_m_frost x c I L = I) := by
  unfold sp_m_frost sI_m_frost okFrost
  constructor
  · rintro ⟨h1, h2⟩
    have n1 := (nn_iff (ar_mday (x := x))).mpr h1
    have n2 := (nn_iff (ar_mcol (x := c))).mpr h2
    exact ⟨by rw [if_neg n1, if_neg n2], by rw [if_neg n1, if_neg n2]⟩
  · intro h
    by_cases n1 : sp_m_isDay x = 0
    · exact ⟨if_pos n1, if_pos n1⟩
    · have n2 : sp_m_isColumn c = 0 := by
        apply Classical.not_not.mp
        intro q
        exact h ⟨(nn_iff ar_mday).mp n1, (nn_iff ar_mcol).mp q⟩
      exact ⟨by rw [if_neg n1, if_pos n2], by rw [if_neg n1, if_pos n2]⟩
theorem mread_v {g x e : Int32} {I : Nat → Nat → Int32} {L : Nat → Nat → Int64} : (okRead g x e → sp_m_reading g x e I L = sp_m_enter 3 x g e 0 I L ∧ sI_m_reading g x e I L = sI_m_enter 3 x g e 0 I L) ∧ (¬ okRead g x e → sp_m_reading g x e I L = -1 ∧ sI_m_reading g x e I L = I) := by
  have e1 : sp_m_is e (-1000000000) 1000000000 = 0 ↔ ¬ (-1000000000 ≤ e.toInt ∧ e.toInt ≤ 1000000000) := ar_mi2 (x := e) (a := -1000000000) (b := 1000000000) rfl rfl ⟨by decide, by decide⟩ ⟨by decide, by decide⟩
  unfold sp_m_reading sI_m_reading okRead
  constructor
  · rintro ⟨h1, h2, h3⟩
    have n1 := (nn_iff (ar_mgauge (x := g))).mpr h1
    have n2 := (nn_iff (ar_mday (x := x))).mpr h2
    have n3 := (nn_iff e1).mpr h3
    exact ⟨by rw [if_neg n1, if_neg n2, if_neg n3], by rw [if_neg n1, if_neg n2, if_neg n3]⟩
  · intro h
    by_cases n1 : sp_m_is g 0 3 = 0
    · exact ⟨if_pos n1, if_pos n1⟩
    · by_cases n2 : sp_m_isDay x = 0
      · exact ⟨by rw [if_neg n1, if_pos n2], by rw [if_neg n1, if_pos n2]⟩
      · have n3 : sp_m_is e (-1000000000) 1000000000 = 0 := by
          apply Classical.not_not.mp
          intro q
          exact h ⟨(nn_iff ar_mgauge).mp n1, (nn_iff ar_mday).mp n2, (nn_iff e1).mp q⟩
        exact ⟨by rw [if_neg n1, if_neg n2, if_pos n3], by rw [if_neg n1, if_neg n2, if_pos n3]⟩
