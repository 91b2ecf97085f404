/-! THE REFERENCE'S READER: words as numbers, the next token -/
theorem mr_utn {n : Nat} (h : n < 2 ^ 64) : (UInt64.ofNat n).toNat = n := Nat.mod_eq_of_lt h
theorem mr_or {k p a b : Nat} (hp : 2 ^ k = p) (ha : a < p) (h : b * p + a < 2 ^ 64) : lN (b * p) ||| lN a = lN (b * p + a) := by
  subst hp
  have h1 : b * 2 ^ k ||| a = b * 2 ^ k + a := by rw [← Nat.shiftLeft_eq, Nat.shiftLeft_add_eq_or_of_lt ha]
  have h3 : UInt64.ofNat (b * 2 ^ k) ||| UInt64.ofNat a = UInt64.ofNat (b * 2 ^ k + a) := UInt64.toNat_inj.mp (by rw [UInt64.toNat_or, mr_utn (by omega), mr_utn (by omega), mr_utn h, h1])
  have h2 := congrArg UInt64.toInt64 h3
  exact h2
theorem mr_shl {a k p : Nat} {y : Int64} (hy : y.toBitVec.smod 64 = BitVec.ofNat 64 k) (hk : k < 64) (hp : 2 ^ k = p) (ha : a < 2 ^ 64) : lN a <<< y = lN (a * p) := by
  subst hp
  apply Int64.toBitVec_inj.mp
  rw [Int64.toBitVec_shiftLeft, hy]
  apply BitVec.eq_of_toNat_eq
  have hb : (lN a).toBitVec.toNat = a := Nat.mod_eq_of_lt ha
  have hk' : (BitVec.ofNat 64 k).toNat = k := Nat.mod_eq_of_lt (by omega)
  have h : ((lN a).toBitVec <<< BitVec.ofNat 64 k).toNat = (a * 2 ^ k) % 2 ^ 64 := by simp only [BitVec.shiftLeft_eq', BitVec.toNat_shiftLeft, hb, hk', Nat.shiftLeft_eq]
  exact h
theorem mr_step {w x : Nat} (hw : w < 2 ^ 55) (hx : x < 256) : (lN w <<< ((8 : Int32).toInt64 &&& 63)) ||| (nI x).toInt64 = lN (256 * w + x) := by
  rw [mr_shl (k := 8) (p := 256) (by decide) (by decide) rfl (by omega), nI_l (by omega), mr_or (k := 8) rfl hx (by omega), Nat.mul_comm]
/-- a word as a number -/
def mpr : List Nat → Nat
  | [] => 0
  | x :: r => 256 * mpr r + x
def mpk (l : List Nat) : Nat := mpr l.reverse
theorem mpk_snoc (l : List Nat) (x : Nat) : mpk (l ++ [x]) = 256 * mpk l + x := by
  unfold mpk
  rw [List.reverse_append]
  rfl
theorem mpr_inj : ∀ {a c : List Nat}, (∀ x ∈ a, 0 < x ∧ x < 256) → (∀ x ∈ c, 0 < x ∧ x < 256) → mpr a = mpr c → a = c := by
  intro a
  induction a with
  | nil =>
    intro c _ hc h
    cases c with
    | nil => rfl
    | cons y c =>
      have := (hc y (List.mem_cons_self)).1
      have h2 : 0 = 256 * mpr c + y := h
      omega
  | cons x a ih =>
    intro c ha hc h
    cases c with
    | nil =>
      have := (ha x (List.mem_cons_self)).1
      have h2 : 256 * mpr a + x = 0 := h
      omega
    | cons y c =>
      have h2 : 256 * mpr a + x = 256 * mpr c + y := h
      have h3 := ha x (List.mem_cons_self)
      have h4 := hc y (List.mem_cons_self)
      have h5 : x = y := by omega
      have h6 : mpr a = mpr c := by omega
      rw [h5, ih (fun z hz => ha z (List.mem_cons_of_mem _ hz)) (fun z hz => hc z (List.mem_cons_of_mem _ hz)) h6]
theorem mpk_inj {a c : List Nat} (ha : ∀ x ∈ a, 0 < x ∧ x < 256) (hc : ∀ x ∈ c, 0 < x ∧ x < 256) (h : mpk a = mpk c) : a = c := by
  have := mpr_inj (a := a.reverse) (c := c.reverse) (fun x hx => ha x (List.mem_reverse.mp hx)) (fun x hx => hc x (List.mem_reverse.mp hx)) h
  exact List.reverse_inj.mp this
theorem mpr_lt : ∀ {a : List Nat}, (∀ x ∈ a, x < 123) → mpr a < 123 * 256 ^ (a.length - 1) ∧ mpr a < 256 ^ a.length := by
  intro a
  induction a with
  | nil => intro _; exact ⟨by decide, by decide⟩
  | cons x a ih =>
    intro ha
    have h := ih (fun z hz => ha z (List.mem_cons_of_mem _ hz))
    have hx := ha x (List.mem_cons_self)
    have e : mpr (x :: a) = 256 * mpr a + x := rfl
    have e2 : (x :: a).length = a.length + 1 := rfl
    rw [e, e2]
    refine ⟨?_, ?_⟩
    · rw [Nat.add_sub_cancel]
      cases a with
      | nil => show 256 * 0 + x < 123 * 1; omega
      | cons y a =>
        have h1 := h.1
        have e3 : (y :: a).length - 1 = a.length := rfl
        have e4 : (y :: a).length = a.length + 1 := rfl
        rw [e3] at h1
        rw [e4, Nat.pow_succ]
        have : 0 < 256 ^ a.length := Nat.pow_pos (by decide)
        omega
    · rw [Nat.pow_succ]
      have := h.2
      omega
theorem mpk_lt {a : List Nat} (ha : ∀ x ∈ a, x < 123) (hl : a.length ≤ 8) : mpk a < 2 ^ 63 ∧ (a.length ≤ 7 → mpk a < 2 ^ 55 + 2 ^ 55) := by
  have h := mpr_lt (a := a.reverse) (fun x hx => ha x (List.mem_reverse.mp hx))
  rw [List.length_reverse] at h
  have h1 := h.1
  have hp : 256 ^ (a.length - 1) ≤ 256 ^ 7 := Nat.pow_le_pow_right (by decide) (by omega)
  refine ⟨?_, fun h7 => ?_⟩
  · show mpr a.reverse < _
    have : (123 : Nat) * 256 ^ 7 + 1 ≤ 2 ^ 63 := by decide
    have h2 : 123 * 256 ^ (a.length - 1) ≤ 123 * 256 ^ 7 := Nat.mul_le_mul_left _ hp
    omega
  · show mpr a.reverse < _
    have hp2 : 256 ^ (a.length - 1) ≤ 256 ^ 6 := Nat.pow_le_pow_right (by decide) (by omega)
    have : (123 : Nat) * 256 ^ 6 + 1 ≤ 2 ^ 55 + 2 ^ 55 := by decide
    have h2 : 123 * 256 ^ (a.length - 1) ≤ 123 * 256 ^ 6 := Nat.mul_le_mul_left _ hp2
    omega
theorem mpk_lt7 {a : List Nat} (ha : ∀ x ∈ a, x < 123) (hl : a.length ≤ 7) : mpk a < 2 ^ 55 := by
  have h := mpr_lt (a := a.reverse) (fun x hx => ha x (List.mem_reverse.mp hx))
  rw [List.length_reverse] at h
  have h1 := h.1
  have hp : 256 ^ (a.length - 1) ≤ 256 ^ 6 := Nat.pow_le_pow_right (by decide) (by omega)
  have : (123 : Nat) * 256 ^ 6 + 1 ≤ 2 ^ 55 := by decide
  have h2 : 123 * 256 ^ (a.length - 1) ≤ 123 * 256 ^ 6 := Nat.mul_le_mul_left _ hp
  show mpr a.reverse < _
  omega
theorem lN_eqL {a c : Nat} (ha : a < 2 ^ 63) (hc : c < 2 ^ 63) : lN a = lN c ↔ a = c := by
  constructor
  · intro h
    have := congrArg Int64.toInt h
    have e1 : (lN a).toInt = (a : Int) := lg_ofNat_toInt ha
    have e2 : (lN c).toInt = (c : Int) := lg_ofNat_toInt hc
    rw [e1, e2] at this
    omega
  · intro h; rw [h]
theorem lg_cmp0 {x y : Int64} : lg_cmp x y = 0 ↔ x = y := by
  unfold lg_cmp
  constructor
  · intro h
    by_cases h1 : x > y
    · rw [if_pos h1] at h; exact absurd h (by decide)
    · rw [if_neg h1] at h
      by_cases h2 : x = y
      · exact h2
      · rw [if_neg h2] at h; exact absurd h (by decide)
  · intro h
    subst h
    rw [if_neg (Int64.lt_irrefl), if_pos rfl]
/-- the text on the reference's tape -/
def mrH (tx : Nat → Nat) (T : Nat) (I : Nat → Nat → Int32) : Prop := I 80 2 = nI T ∧ T ≤ 800 ∧ ∀ i, i < T → tx i < 256 ∧ I 81 i = nI (tx i)
/-- the token at p stands in the reference's fields -/
def tkP (tx : Nat → Nat) (T p : Nat) (sg sa se va : Int32) (w : Int64) : Prop := sa = nI (pa_sk tx T p) ∧ se = nI (pa_ed tx T p) ∧
  ((pa_sk tx T p < T ∧ pa_lt (tx (pa_sk tx T p)) = true ∧ sg = 1 ∧ pa_wl tx T (pa_sk tx T p) ≤ 8 ∧ w = lN (mpk (pa_bs tx (pa_sk tx T p) (pa_wl tx T (pa_sk tx T p))))) ∨
   (pa_sk tx T p < T ∧ pa_lt (tx (pa_sk tx T p)) = false ∧ pa_dg (tx (pa_sk tx T p)) = true ∧ sg = 2 ∧ va = nI (pa_nm tx T p)) ∨
   (pa_sk tx T p < T ∧ pa_lt (tx (pa_sk tx T p)) = false ∧ pa_dg (tx (pa_sk tx T p)) = false ∧ sg = 3 ∧ tx (pa_sk tx T p) < 256 ∧ va = nI (tx (pa_sk tx T p))) ∨
   (¬ pa_sk tx T p < T ∧ sg = 0))
theorem mr_sgn : ∀ x, x < 256 → ∀ c ∈ [(40, 32), (41, 33), (91, 34), (93, 35), (44, 36), (59, 37), (43, 22), (45, 23), (42, 24), (47, 25), (60, 26), (62, 27), (61, 28)], (x = c.1 ↔ pa_sgn x = c.2) := by decide +kernel
theorem mr_sgn21 (x : Nat) : 21 < pa_sgn x ∧ pa_sgn x ≠ 38 := by
  unfold pa_sgn
  split <;> exact ⟨by decide, by decide⟩
theorem pa_wtk_c (l : List Nat) : pa_wtk l < 21 ∨ pa_wtk l = 39 := by
  unfold pa_wtk
  by_cases c : pa_words.idxOf l < 21
  · rw [if_pos c]; exact Or.inl c
  · rw [if_neg c]; exact Or.inr rfl
section MT
variable {tx : Nat → Nat} {T p : Nat} {sg sa se va : Int32} {w : Int64}
theorem tk_w (h : pa_sk tx T p < T) (hl : pa_lt (tx (pa_sk tx T p)) = true) : pa_tk tx T p = pa_wtk (pa_bs tx (pa_sk tx T p) (pa_wl tx T (pa_sk tx T p))) := by
  unfold pa_tk
  simp only [if_pos h, hl, if_true]
theorem tk_n (h : pa_sk tx T p < T) (hl : pa_lt (tx (pa_sk tx T p)) = false) (hd : pa_dg (tx (pa_sk tx T p)) = true) : pa_tk tx T p = 21 := by
  unfold pa_tk
  simp only [if_pos h, hl, hd, if_true, Bool.false_eq_true, if_false]
theorem tk_s (h : pa_sk tx T p < T) (hl : pa_lt (tx (pa_sk tx T p)) = false) (hd : pa_dg (tx (pa_sk tx T p)) = false) : pa_tk tx T p = pa_sgn (tx (pa_sk tx T p)) := by
  unfold pa_tk
  simp only [if_pos h, hl, hd, Bool.false_eq_true, if_false]
theorem tk_e (h : ¬ pa_sk tx T p < T) : pa_tk tx T p = 38 := by
  unfold pa_tk
  simp only [if_neg h]
theorem mr_isS (h : tkP tx T p sg sa se va w) {c t : Nat} (hc : (c, t) ∈ [(40, 32), (41, 33), (91, 34), (93, 35), (44, 36), (59, 37), (43, 22), (45, 23), (42, 24), (47, 25), (60, 26), (62, 27), (61, 28)]) : (sg = 3 ∧ va = nI c) ↔ pa_tk tx T p = t := by
  have ht : 21 < t ∧ t ≠ 38 ∧ t ≠ 39 ∧ c < 256 := by
    simp only [List.mem_cons, List.not_mem_nil, or_false, Prod.mk.injEq] at hc
    omega
  obtain ⟨_, _, ⟨h1, h2, h3, _⟩ | ⟨h1, h2, h3, h4, _⟩ | ⟨h1, h2, h3, h4, h5, h6⟩ | ⟨h1, h4⟩⟩ := h
  · rw [tk_w h1 h2, h3]
    have := pa_wtk_c (pa_bs tx (pa_sk tx T p) (pa_wl tx T (pa_sk tx T p)))
    exact ⟨fun q => absurd q.1 (by decide), fun q => by omega⟩
  · rw [tk_n h1 h2 h3, h4]
    exact ⟨fun q => absurd q.1 (by decide), fun q => by omega⟩
  · rw [tk_s h1 h2 h3, h4, h6]
    have e := mr_sgn _ h5 _ hc
    exact ⟨fun q => e.mp ((nI_eq (by omega) (by omega)).mp q.2), fun q => ⟨rfl, by rw [e.mpr q]⟩⟩
  · rw [tk_e h1, h4]
    exact ⟨fun q => absurd q.1 (by decide), fun q => by omega⟩
theorem mr_num (h : tkP tx T p sg sa se va w) : sg = 2 ↔ pa_tk tx T p = 21 := by
  obtain ⟨_, _, ⟨h1, h2, h3, _⟩ | ⟨h1, h2, h3, h4, _⟩ | ⟨h1, h2, h3, h4, h5, h6⟩ | ⟨h1, h4⟩⟩ := h
  · rw [tk_w h1 h2, h3]
    have := pa_wtk_c (pa_bs tx (pa_sk tx T p) (pa_wl tx T (pa_sk tx T p)))
    exact ⟨fun q => absurd q (by decide), fun q => by omega⟩
  · rw [tk_n h1 h2 h3, h4]; exact ⟨fun _ => rfl, fun _ => rfl⟩
  · rw [tk_s h1 h2 h3, h4]
    have := mr_sgn21 (tx (pa_sk tx T p))
    exact ⟨fun q => absurd q (by decide), fun q => by omega⟩
  · rw [tk_e h1, h4]; exact ⟨fun q => absurd q (by decide), fun q => by omega⟩
theorem mr_numv (h : tkP tx T p sg sa se va w) (ht : pa_tk tx T p = 21) : va = nI (pa_nm tx T p) := by
  have h0 := (mr_num h).mpr ht
  obtain ⟨_, _, ⟨h1, h2, h3, _⟩ | ⟨h1, h2, h3, h4, h5⟩ | ⟨h1, h2, h3, h4, h5, h6⟩ | ⟨h1, h4⟩⟩ := h
  · rw [h3] at h0; exact absurd h0 (by decide)
  · exact h5
  · rw [h4] at h0; exact absurd h0 (by decide)
  · rw [h4] at h0; exact absurd h0 (by decide)
theorem mr_end (h : tkP tx T p sg sa se va w) : sg = 0 ↔ pa_tk tx T p = 38 := by
  obtain ⟨_, _, ⟨h1, h2, h3, _⟩ | ⟨h1, h2, h3, h4, _⟩ | ⟨h1, h2, h3, h4, h5, h6⟩ | ⟨h1, h4⟩⟩ := h
  · rw [tk_w h1 h2, h3]
    have := pa_wtk_c (pa_bs tx (pa_sk tx T p) (pa_wl tx T (pa_sk tx T p)))
    exact ⟨fun q => absurd q (by decide), fun q => by omega⟩
  · rw [tk_n h1 h2 h3, h4]; exact ⟨fun q => absurd q (by decide), fun q => by omega⟩
  · rw [tk_s h1 h2 h3, h4]
    have := mr_sgn21 (tx (pa_sk tx T p))
    exact ⟨fun q => absurd q (by decide), fun q => by omega⟩
  · rw [tk_e h1, h4]; exact ⟨fun _ => rfl, fun _ => rfl⟩
theorem mr_bsm (s : Nat) : ∀ m x, x ∈ pa_bs tx s m → ∃ j, j < m ∧ x = tx (s + j) := by
  intro m
  induction m with
  | zero => intro x h; cases h
  | succ m ih =>
    intro x h
    rcases List.mem_append.mp h with h | h
    · obtain ⟨j, h1, h2⟩ := ih x h
      exact ⟨j, by omega, h2⟩
    · rw [List.mem_singleton.mp h]
      exact ⟨m, by omega, rfl⟩
theorem mr_lt {x : Nat} (h : pa_lt x = true) : 97 ≤ x ∧ x ≤ 122 := by
  unfold pa_lt at h
  rw [Bool.and_eq_true] at h
  exact ⟨Nat.le_of_ble_eq_true h.1, Nat.le_of_ble_eq_true h.2⟩
theorem mr_dg {x : Nat} (h : pa_dg x = true) : 48 ≤ x ∧ x ≤ 57 := by
  unfold pa_dg at h
  rw [Bool.and_eq_true] at h
  exact ⟨Nat.le_of_ble_eq_true h.1, Nat.le_of_ble_eq_true h.2⟩
theorem mr_bsl (s m : Nat) (hm : m ≤ pa_wl tx T s) : ∀ x ∈ pa_bs tx s m, 97 ≤ x ∧ x ≤ 122 := by
  intro x h
  obtain ⟨j, h1, rfl⟩ := mr_bsm s m x h
  exact mr_lt (pa_rn_in (P := fun i => pa_lt (tx i)) (T - s) s j (by unfold pa_wl at hm; omega))
theorem mr_words : ∀ t, t < 21 → (∀ x ∈ pa_words.getD t [], 97 ≤ x ∧ x ≤ 122) ∧ mpk (pa_words.getD t []) < 2 ^ 63 ∧ pa_wtk (pa_words.getD t []) = t := by decide +kernel
theorem mr_isW (h : tkP tx T p sg sa se va w) {t : Nat} (ht : t < 21) : (sg = 1 ∧ w = lN (mpk (pa_words.getD t []))) ↔ pa_tk tx T p = t := by
  obtain ⟨_, _, ⟨h1, h2, h3, h4, h5⟩ | ⟨h1, h2, h3, h4, _⟩ | ⟨h1, h2, h3, h4, h5, h6⟩ | ⟨h1, h4⟩⟩ := h
  · rw [tk_w h1 h2, h3, h5]
    have hb := mr_bsl (tx := tx) (T := T) (pa_sk tx T p) _ (Nat.le_refl _)
    have hw := mr_words t ht
    have hbl := mpk_lt (a := pa_bs tx (pa_sk tx T p) (pa_wl tx T (pa_sk tx T p))) (fun x hx => by have := hb x hx; omega) (by rw [pa_bs_len]; exact h4)
    constructor
    · intro q
      have e := (lN_eqL hbl.1 hw.2.1).mp q.2
      have e2 := mpk_inj (fun x hx => by have := hb x hx; omega) (fun x hx => by have := hw.1 x hx; omega) e
      rw [e2]
      exact hw.2.2
    · intro q
      refine ⟨rfl, ?_⟩
      have e : pa_words.getD t [] = pa_bs tx (pa_sk tx T p) (pa_wl tx T (pa_sk tx T p)) := by
        generalize pa_bs tx (pa_sk tx T p) (pa_wl tx T (pa_sk tx T p)) = l at q
        unfold pa_wtk at q
        by_cases c : pa_words.idxOf l < 21
        · rw [if_pos c] at q
          rw [← q]
          have h2 : pa_words.idxOf l < pa_words.length := c
          unfold List.getD
          rw [List.getElem?_eq_getElem h2, List.getElem_idxOf h2]
          rfl
        · rw [if_neg c] at q; omega
      rw [e]
  · rw [tk_n h1 h2 h3, h4]
    exact ⟨fun q => absurd q.1 (by decide), fun q => by omega⟩
  · rw [tk_s h1 h2 h3, h4]
    have := mr_sgn21 (tx (pa_sk tx T p))
    exact ⟨fun q => absurd q.1 (by decide), fun q => by omega⟩
  · rw [tk_e h1, h4]
    exact ⟨fun q => absurd q.1 (by decide), fun q => by omega⟩
end MT
theorem ev_mlet1 {d x : Nat} {h : am_H} (hx : x < 256) (hl : pa_lt x = true) : am_Ev d 160 0 (am_ent 1 [.int (nI x)]) [] h (some (.int 1), h) := by
  have e := ev_m_isLetter (d := d) (h := h) (x := nI x)
  have h1 := mr_lt hl
  have e2 : sp_m_isLetter (nI x) = 1 := by
    unfold sp_m_isLetter
    rw [if_neg (show ¬ nI x < (97 : Int32) from nI_nlt h1.1 (by omega)), if_neg (show ¬ (122 : Int32) < nI x from nI_nlt (a := 122) h1.2 (by omega))]
  rw [e2] at e
  exact e
theorem ev_mlet0 {d x : Nat} {h : am_H} (hx : x < 256) (hl : pa_lt x = false) : am_Ev d 160 0 (am_ent 1 [.int (nI x)]) [] h (some (.int 0), h) := by
  have e := ev_m_isLetter (d := d) (h := h) (x := nI x)
  have e2 : sp_m_isLetter (nI x) = 0 := by
    unfold sp_m_isLetter
    by_cases h1 : nI x < 97
    · rw [if_pos h1]
    · rw [if_neg h1]
      by_cases h2 : 122 < nI x
      · rw [if_pos h2]
      · exfalso
        have a : 97 ≤ x := Nat.le_of_not_lt (fun q => h1 (nI_lt (b := 97) q (by omega)))
        have c : x ≤ 122 := Nat.le_of_not_lt (fun q => h2 (nI_lt (a := 122) q (by omega)))
        have : pa_lt x = true := by unfold pa_lt; rw [Nat.ble_eq_true_of_le a, Nat.ble_eq_true_of_le c]; rfl
        rw [this] at hl
        cases hl
  rw [e2] at e
  exact e
theorem ev_mdig1 {d x : Nat} {h : am_H} (hx : x < 256) (hl : pa_dg x = true) : am_Ev d 161 0 (am_ent 1 [.int (nI x)]) [] h (some (.int 1), h) := by
  have e := ev_m_isDigit (d := d) (h := h) (x := nI x)
  have h1 := mr_dg hl
  have e2 : sp_m_isDigit (nI x) = 1 := by
    unfold sp_m_isDigit
    rw [if_neg (show ¬ nI x < (48 : Int32) from nI_nlt h1.1 (by omega)), if_neg (show ¬ (57 : Int32) < nI x from nI_nlt (a := 57) h1.2 (by omega))]
  rw [e2] at e
  exact e
theorem ev_mdig0 {d x : Nat} {h : am_H} (hx : x < 256) (hl : pa_dg x = false) : am_Ev d 161 0 (am_ent 1 [.int (nI x)]) [] h (some (.int 0), h) := by
  have e := ev_m_isDigit (d := d) (h := h) (x := nI x)
  have e2 : sp_m_isDigit (nI x) = 0 := by
    unfold sp_m_isDigit
    by_cases h1 : nI x < 48
    · rw [if_pos h1]
    · rw [if_neg h1]
      by_cases h2 : 57 < nI x
      · rw [if_pos h2]
      · exfalso
        have a : 48 ≤ x := Nat.le_of_not_lt (fun q => h1 (nI_lt (b := 48) q (by omega)))
        have c : x ≤ 57 := Nat.le_of_not_lt (fun q => h2 (nI_lt (a := 57) q (by omega)))
        have : pa_dg x = true := by unfold pa_dg; rw [Nat.ble_eq_true_of_le a, Nat.ble_eq_true_of_le c]; rfl
        rw [this] at hl
        cases hl
  rw [e2] at e
  exact e
theorem pa_lt_dg {x : Nat} (h : pa_lt x = true) : pa_dg x = false := by
  have h1 := mr_lt h
  exact Bool.eq_false_iff.mpr (fun q => by have := mr_dg q; omega)
def mqI (I : Nat → Nat → Int32) (sg sa se va fk fp lo : Int32) (j i : Nat) : Int32 := cond (Nat.beq j 80) (cond (Nat.beq i 3) sg (cond (Nat.beq i 4) sa (cond (Nat.beq i 5) se (cond (Nat.beq i 6) va (cond (Nat.beq i 8) fk (cond (Nat.beq i 9) fp (cond (Nat.beq i 12) lo (I 80 i)))))))) (I j i)
theorem mqI_nb : ∀ {i k : Nat}, ¬ i = k → Nat.beq i k = false := fun h => Bool.eq_false_iff.mpr (fun q => h (Nat.eq_of_beq_eq_true q))
theorem mqI_w_sg {I : Nat → Nat → Int32} {sg sa se va fk fp lo : Int32} {y : Int32} : va_up (mqI I sg sa se va fk fp lo) 80 (upd ((mqI I sg sa se va fk fp lo) 80) 3 y) = mqI I y sa se va fk fp lo := by
  funext j i
  unfold va_up upd
  by_cases hj : j = 80
  · subst hj
    by_cases hi : i = 3
    · subst hi; rfl
    · rw [if_pos rfl, if_neg hi]; unfold mqI; simp only [mqI_nb hi, cond_false]
  · rw [if_neg hj]; unfold mqI; simp only [mqI_nb hj, cond_false]
theorem mqI_w_sa {I : Nat → Nat → Int32} {sg sa se va fk fp lo : Int32} {y : Int32} : va_up (mqI I sg sa se va fk fp lo) 80 (upd ((mqI I sg sa se va fk fp lo) 80) 4 y) = mqI I sg y se va fk fp lo := by
  funext j i
  unfold va_up upd
  by_cases hj : j = 80
  · subst hj
    by_cases hi : i = 4
    · subst hi; rfl
    · rw [if_pos rfl, if_neg hi]; unfold mqI; simp only [mqI_nb hi, cond_false]
  · rw [if_neg hj]; unfold mqI; simp only [mqI_nb hj, cond_false]
theorem mqI_w_se {I : Nat → Nat → Int32} {sg sa se va fk fp lo : Int32} {y : Int32} : va_up (mqI I sg sa se va fk fp lo) 80 (upd ((mqI I sg sa se va fk fp lo) 80) 5 y) = mqI I sg sa y va fk fp lo := by
  funext j i
  unfold va_up upd
  by_cases hj : j = 80
  · subst hj
    by_cases hi : i = 5
    · subst hi; rfl
    · rw [if_pos rfl, if_neg hi]; unfold mqI; simp only [mqI_nb hi, cond_false]
  · rw [if_neg hj]; unfold mqI; simp only [mqI_nb hj, cond_false]
theorem mqI_w_va {I : Nat → Nat → Int32} {sg sa se va fk fp lo : Int32} {y : Int32} : va_up (mqI I sg sa se va fk fp lo) 80 (upd ((mqI I sg sa se va fk fp lo) 80) 6 y) = mqI I sg sa se y fk fp lo := by
  funext j i
  unfold va_up upd
  by_cases hj : j = 80
  · subst hj
    by_cases hi : i = 6
    · subst hi; rfl
    · rw [if_pos rfl, if_neg hi]; unfold mqI; simp only [mqI_nb hi, cond_false]
  · rw [if_neg hj]; unfold mqI; simp only [mqI_nb hj, cond_false]
theorem mqI_w_fk {I : Nat → Nat → Int32} {sg sa se va fk fp lo : Int32} {y : Int32} : va_up (mqI I sg sa se va fk fp lo) 80 (upd ((mqI I sg sa se va fk fp lo) 80) 8 y) = mqI I sg sa se va y fp lo := by
  funext j i
  unfold va_up upd
  by_cases hj : j = 80
  · subst hj
    by_cases hi : i = 8
    · subst hi; rfl
    · rw [if_pos rfl, if_neg hi]; unfold mqI; simp only [mqI_nb hi, cond_false]
  · rw [if_neg hj]; unfold mqI; simp only [mqI_nb hj, cond_false]
theorem mqI_w_fp {I : Nat → Nat → Int32} {sg sa se va fk fp lo : Int32} {y : Int32} : va_up (mqI I sg sa se va fk fp lo) 80 (upd ((mqI I sg sa se va fk fp lo) 80) 9 y) = mqI I sg sa se va fk y lo := by
  funext j i
  unfold va_up upd
  by_cases hj : j = 80
  · subst hj
    by_cases hi : i = 9
    · subst hi; rfl
    · rw [if_pos rfl, if_neg hi]; unfold mqI; simp only [mqI_nb hi, cond_false]
  · rw [if_neg hj]; unfold mqI; simp only [mqI_nb hj, cond_false]
theorem mqI_w_lo {I : Nat → Nat → Int32} {sg sa se va fk fp lo : Int32} {y : Int32} : va_up (mqI I sg sa se va fk fp lo) 80 (upd ((mqI I sg sa se va fk fp lo) 80) 12 y) = mqI I sg sa se va fk fp y := by
  funext j i
  unfold va_up upd
  by_cases hj : j = 80
  · subst hj
    by_cases hi : i = 12
    · subst hi; rfl
    · rw [if_pos rfl, if_neg hi]; unfold mqI; simp only [mqI_nb hi, cond_false]
  · rw [if_neg hj]; unfold mqI; simp only [mqI_nb hj, cond_false]
def mwL (L : Nat → Nat → Int64) (w : Int64) (j i : Nat) : Int64 := cond (Nat.beq j 80) (cond (Nat.beq i 7) w (L 80 i)) (L j i)
theorem mwL_nb : ∀ {i k : Nat}, ¬ i = k → Nat.beq i k = false := fun h => Bool.eq_false_iff.mpr (fun q => h (Nat.eq_of_beq_eq_true q))
theorem mwL_w_w {L : Nat → Nat → Int64} {w : Int64} {y : Int64} : va_up (mwL L w) 80 (vp_updL ((mwL L w) 80) 7 y) = mwL L y := by
  funext j i
  unfold va_up vp_updL
  by_cases hj : j = 80
  · subst hj
    by_cases hi : i = 7
    · subst hi; rfl
    · rw [if_pos rfl, if_neg hi]; unfold mwL; simp only [mwL_nb hi, cond_false]
  · rw [if_neg hj]; unfold mwL; simp only [mwL_nb hj, cond_false]
theorem ev_mq_blame0 {d n sl : Nat} {kk : Nat → Nat × Nat} {I : Nat → Nat → Int32} {L : Nat → Nat → Int64} {q : Nat → Nat → Option Nat} {sg sa se va fp lo : Int32} {w : Int64} {x y : Int32}  : am_Ev d 159 0 (am_ent 3 [.ref 80, .int x, .int y]) [] (n, sl, wKK kk, (mqI I sg sa se va 0 fp lo), (mwL L w), wQQ q) (none, (n, sl, wKK kk, (mqI I sg sa se va x y lo), (mwL L w), wQQ q)) := by
  refine tv_ev ?_
  show am_T _ _ 0 [some (.ref 80), some (.int x), some (.int y)] _ _ _
  refine tv_b (pc' := 13) (ls' := [some (.ref 80), some (.int x), some (.int y)]) (st' := []) (h' := (n, sl, wKK kk, va_up (mqI I sg sa se va 0 fp lo) 80 (upd ((mqI I sg sa se va 0 fp lo) 80) 8 x), (mwL L w), wQQ q)) 6 rfl ?_
  refine tv_hI mqI_w_fk ?_
  refine tv_b (pc' := 18) (ls' := [some (.ref 80), some (.int x), some (.int y)]) (st' := []) (h' := (n, sl, wKK kk, va_up (mqI I sg sa se va x fp lo) 80 (upd ((mqI I sg sa se va x fp lo) 80) 9 y), (mwL L w), wQQ q)) 3 rfl ?_
  refine tv_hI mqI_w_fp ?_
  exact tv_rv rfl ⟨rfl, rfl⟩
theorem ev_mq_blameF {d n sl : Nat} {kk : Nat → Nat × Nat} {I : Nat → Nat → Int32} {L : Nat → Nat → Int64} {q : Nat → Nat → Option Nat} {sg sa se va fk fp lo : Int32} {w : Int64} {x y : Int32} (hf : ¬ fk ≤ 0) : am_Ev d 159 0 (am_ent 3 [.ref 80, .int x, .int y]) [] (n, sl, wKK kk, (mqI I sg sa se va fk fp lo), (mwL L w), wQQ q) (none, (n, sl, wKK kk, (mqI I sg sa se va fk fp lo), (mwL L w), wQQ q)) := by
  refine tv_ev ?_
  show am_T _ _ 0 [some (.ref 80), some (.int x), some (.int y)] _ _ _
  refine tv_b (pc' := (if fk ≤ 0 then 8 else 7)) (ls' := [some (.ref 80), some (.int x), some (.int y)]) (st' := []) (h' := (n, sl, wKK kk, (mqI I sg sa se va fk fp lo), (mwL L w), wQQ q)) 3 rfl ?_
  refine tv_f (hf) ?_
  exact tv_rv rfl ⟨rfl, rfl⟩
theorem tv_m_sk {d n sl : Nat} {kk : Nat → Nat × Nat} {I : Nat → Nat → Int32} {L : Nat → Nat → Int64} {q : Nat → Nat → Option Nat} {tx : Nat → Nat} {T : Nat} {sg sa se va fk fp lo : Int32} {w : Int64} {P : Option Value → am_H → Prop} {o2 o3 o4 o5 : Option Value} (hR : mrH tx T I) : ∀ m A : Nat, T - A = m → A ≤ T → am_T d 162 41 [some (.ref 80), some (.int (nI (pa_sk tx T A))), o2, o3, o4, o5] [] (n, sl, wKK kk, (mqI I sg sa se va fk fp lo), (mwL L w), wQQ q) P → am_T d 162 5 [some (.ref 80), some (.int (nI A)), o2, o3, o4, o5] [] (n, sl, wKK kk, (mqI I sg sa se va fk fp lo), (mwL L w), wQQ q) P := by
  have hT := hR.2.1
  intro m
  induction m with
  | zero =>
    intro A hm hA k1
    refine tv_b (pc' := 10) (ls' := [some (.ref 80), some (.int (nI A)), o2, o3, o4, o5]) (st' := [.int (I 80 2), .int (nI A)]) (h' := (n, sl, wKK kk, (mqI I sg sa se va fk fp lo), (mwL L w), wQQ q)) 3 rfl ?_
    refine tv_top (hR.1) ?_
    refine tv_b (pc' := (if (nI T) ≤ (nI A) then 41 else 13)) (ls' := [some (.ref 80), some (.int (nI A)), o2, o3, o4, o5]) (st' := []) (h' := (n, sl, wKK kk, (mqI I sg sa se va fk fp lo), (mwL L w), wQQ q)) 1 rfl ?_
    refine tv_t ((nI_leI (a := T) (b := A) (by omega) (by omega)).mpr (by omega)) ?_
    have e := pa_sk_end (b := tx) (n := T) (p := A) (by omega)
    rw [e] at k1
    exact k1
  | succ m ih =>
    intro A hm hA k1
    have hx := hR.2.2 A (by omega)
    refine tv_b (pc' := 10) (ls' := [some (.ref 80), some (.int (nI A)), o2, o3, o4, o5]) (st' := [.int (I 80 2), .int (nI A)]) (h' := (n, sl, wKK kk, (mqI I sg sa se va fk fp lo), (mwL L w), wQQ q)) 3 rfl ?_
    refine tv_top (hR.1) ?_
    refine tv_b (pc' := (if (nI T) ≤ (nI A) then 41 else 13)) (ls' := [some (.ref 80), some (.int (nI A)), o2, o3, o4, o5]) (st' := []) (h' := (n, sl, wKK kk, (mqI I sg sa se va fk fp lo), (mwL L w), wQQ q)) 1 rfl ?_
    refine tv_f (fun hq => absurd ((nI_leI (a := T) (b := A) (by omega) (by omega)).mp hq) (by omega)) ?_
    refine tv_b (pc' := 18) (ls' := [some (.ref 80), some (.int (nI A)), o2, o3, o4, o5]) (st' := [.int (nI A), .ref 81]) (h' := (n, sl, wKK kk, (mqI I sg sa se va fk fp lo), (mwL L w), wQQ q)) 3 rfl ?_
    refine tv_ialN (k := A) rfl (rfl) (⟨by omega, by omega⟩) ?_
    refine tv_top ((hR.2.2 A (by omega)).2) ?_
    refine tv_b (pc' := (if (nI (tx A)) = 32 then 35 else 24)) (ls' := [some (.ref 80), some (.int (nI A)), o2, o3, o4, o5]) (st' := []) (h' := (n, sl, wKK kk, (mqI I sg sa se va fk fp lo), (mwL L w), wQQ q)) 2 rfl ?_
    refine tv_ifq (nI_eq (a := (tx A)) (b := 32) (by omega) (by omega)) (fun c21 => ?_) (fun c21 => ?_)
    · refine tv_iincN (k := A) (ls' := [some (.ref 80), some (.int (nI (A + 1))), o2, o3, o4, o5]) rfl rfl rfl ?_
      refine tv_b (pc' := 5) (ls' := [some (.ref 80), some (.int (nI (A + 1))), o2, o3, o4, o5]) (st' := []) (h' := (n, sl, wKK kk, (mqI I sg sa se va fk fp lo), (mwL L w), wQQ q)) 1 rfl ?_
      have e := pa_sk_s (b := tx) (n := T) (p := A) (by omega) (by unfold pa_bl; rw [c21]; rfl)
      rw [e] at k1
      exact ih (A + 1) (by omega) (by omega) k1
    · refine tv_b (pc' := 29) (ls' := [some (.ref 80), some (.int (nI A)), o2, o3, o4, o5]) (st' := [.int (nI A), .ref 81]) (h' := (n, sl, wKK kk, (mqI I sg sa se va fk fp lo), (mwL L w), wQQ q)) 3 rfl ?_
      refine tv_ialN (k := A) rfl (rfl) (⟨by omega, by omega⟩) ?_
      refine tv_top ((hR.2.2 A (by omega)).2) ?_
      refine tv_b (pc' := (if (nI (tx A)) = 10 then 35 else 41)) (ls' := [some (.ref 80), some (.int (nI A)), o2, o3, o4, o5]) (st' := []) (h' := (n, sl, wKK kk, (mqI I sg sa se va fk fp lo), (mwL L w), wQQ q)) 2 rfl ?_
      refine tv_ifq (nI_eq (a := (tx A)) (b := 10) (by omega) (by omega)) (fun c32 => ?_) (fun c32 => ?_)
      · refine tv_iincN (k := A) (ls' := [some (.ref 80), some (.int (nI (A + 1))), o2, o3, o4, o5]) rfl rfl rfl ?_
        refine tv_b (pc' := 5) (ls' := [some (.ref 80), some (.int (nI (A + 1))), o2, o3, o4, o5]) (st' := []) (h' := (n, sl, wKK kk, (mqI I sg sa se va fk fp lo), (mwL L w), wQQ q)) 1 rfl ?_
        have e := pa_sk_s (b := tx) (n := T) (p := A) (by omega) (by unfold pa_bl; rw [c32]; rfl)
        rw [e] at k1
        exact ih (A + 1) (by omega) (by omega) k1
      · have e : pa_sk tx T A = A := pa_sk_0 (Bool.eq_false_iff.mpr (fun q => by unfold pa_bl at q; rw [Bool.or_eq_true] at q; exact q.elim (fun q => c32 (Nat.eq_of_beq_eq_true q)) (fun q => c21 (Nat.eq_of_beq_eq_true q))))
        rw [e] at k1
        exact k1
def mlo (b s k : Nat) : Int32 := if b < k then nI (s + b) else -1
theorem mlo_k {b s : Nat} {k : Nat} (h : k < b) : mlo b s (k + 1) = mlo b s k := by unfold mlo; rw [if_neg (by omega), if_neg (by omega)]
theorem mlo_b {b s : Nat} : mlo b s (b + 1) = nI (s + b) := if_pos (by omega)
theorem mlo_g {b s : Nat} {k : Nat} (h : b < k) : mlo b s (k + 1) = mlo b s k := by unfold mlo; rw [if_pos (by omega), if_pos (by omega)]
theorem pa_wl_in {tx : Nat → Nat} {T S k : Nat} (h : k < pa_wl tx T S) : S + k < T ∧ pa_lt (tx (S + k)) = true := by
  unfold pa_wl at h
  have := pa_rn_le (fun i => pa_lt (tx i)) (T - S) S
  exact ⟨by omega, pa_rn_in (P := fun i => pa_lt (tx i)) _ _ k h⟩
theorem pa_wl_out {tx : Nat → Nat} {T S : Nat} (h : S + pa_wl tx T S < T) : pa_lt (tx (S + pa_wl tx T S)) = false := by
  unfold pa_wl at h ⊢
  exact pa_rn_out (P := fun i => pa_lt (tx i)) (T - S) S (by omega)
theorem pa_dl_in {tx : Nat → Nat} {T S k : Nat} (h : k < pa_dl tx T S) : S + k < T ∧ pa_dg (tx (S + k)) = true := by
  unfold pa_dl at h
  have := pa_rn_le (fun i => pa_dg (tx i)) (T - S) S
  exact ⟨by omega, pa_rn_in (P := fun i => pa_dg (tx i)) _ _ k h⟩
theorem pa_dl_out {tx : Nat → Nat} {T S : Nat} (h : S + pa_dl tx T S < T) : pa_dg (tx (S + pa_dl tx T S)) = false := by
  unfold pa_dl at h ⊢
  exact pa_rn_out (P := fun i => pa_dg (tx i)) (T - S) S (by omega)
theorem tv_m_wl {d n sl : Nat} {kk : Nat → Nat × Nat} {I : Nat → Nat → Int32} {L : Nat → Nat → Int64} {q : Nat → Nat → Option Nat} {tx : Nat → Nat} {T : Nat} {sg sa se va fk fp : Int32} {w : Int64} {S : Nat} {P : Option Value → am_H → Prop} (hR : mrH tx T I) (hS : S ≤ T) (k1 : am_T (d + 1) 162 328 [some (.ref 80), some (.int (nI (S + pa_wl tx T S))), some (.int 1), some (.int 0), some (.int 8), some (.int (nI (pa_wl tx T S)))] [] (n, sl, wKK kk, (mqI I sg sa se va fk fp (mlo 8 S (pa_wl tx T S))), (mwL L (lN (mpk (pa_bs tx S (min (pa_wl tx T S) 8))))), wQQ q) P) : ∀ m k : Nat, pa_wl tx T S - k = m → k ≤ pa_wl tx T S → am_T (d + 1) 162 206 [some (.ref 80), some (.int (nI (S + k))), some (.int 1), some (.int 0), some (.int 8), some (.int (nI k))] [] (n, sl, wKK kk, (mqI I sg sa se va fk fp (mlo 8 S (k))), (mwL L (lN (mpk (pa_bs tx S (min (k) 8))))), wQQ q) P := by
  have hT := hR.2.1
  have hle := pa_rn_le (fun i => pa_lt (tx i)) (T - S) S
  have hle2 : pa_wl tx T S ≤ T - S := hle
  intro m
  induction m with
  | zero =>
    intro k hm hk
    obtain rfl : k = pa_wl tx T S := by omega
    refine tv_b (pc' := 211) (ls' := [some (.ref 80), some (.int (nI (S + pa_wl tx T S))), some (.int 1), some (.int 0), some (.int 8), some (.int (nI (pa_wl tx T S)))]) (st' := [.int (I 80 2), .int (nI (S + pa_wl tx T S))]) (h' := (n, sl, wKK kk, (mqI I sg sa se va fk fp (mlo 8 S (pa_wl tx T S))), (mwL L (lN (mpk (pa_bs tx S (min (pa_wl tx T S) 8))))), wQQ q)) 3 rfl ?_
    refine tv_top (hR.1) ?_
    refine tv_b (pc' := (if (nI T) ≤ (nI (S + pa_wl tx T S)) then 328 else 214)) (ls' := [some (.ref 80), some (.int (nI (S + pa_wl tx T S))), some (.int 1), some (.int 0), some (.int 8), some (.int (nI (pa_wl tx T S)))]) (st' := []) (h' := (n, sl, wKK kk, (mqI I sg sa se va fk fp (mlo 8 S (pa_wl tx T S))), (mwL L (lN (mpk (pa_bs tx S (min (pa_wl tx T S) 8))))), wQQ q)) 1 rfl ?_
    refine tv_ifq (nI_leI (a := T) (b := (S + pa_wl tx T S)) (by omega) (by omega)) (fun c211 => ?_) (fun c211 => ?_)
    · exact k1
    · refine tv_b (pc' := 223) (ls' := [some (.ref 80), some (.int (nI (S + pa_wl tx T S))), some (.int 1), some (.int 0), some (.int 8), some (.int (nI (pa_wl tx T S)))]) (st' := [.int (nI (S + pa_wl tx T S)), .ref 81]) (h' := (n, sl, wKK kk, (mqI I sg sa se va fk fp (mlo 8 S (pa_wl tx T S))), (mwL L (lN (mpk (pa_bs tx S (min (pa_wl tx T S) 8))))), wQQ q)) 5 rfl ?_
      refine tv_ialN (k := (S + pa_wl tx T S)) rfl (rfl) (⟨by omega, by omega⟩) ?_
      refine tv_top ((hR.2.2 (S + pa_wl tx T S) (by omega)).2) ?_
      refine tv_csE [.int (nI (tx (S + pa_wl tx T S)))] [] rfl rfl (by omega) rfl (Nat.le_of_ble_eq_true rfl) (Nat.le_of_ble_eq_true rfl) (ev_mlet0 (hR.2.2 _ (by omega)).1 (pa_wl_out (by omega))) ?_
      refine tv_b (pc' := 328) (ls' := [some (.ref 80), some (.int (nI (S + pa_wl tx T S))), some (.int 1), some (.int 0), some (.int 8), some (.int (nI (pa_wl tx T S)))]) (st' := []) (h' := (n, sl, wKK kk, (mqI I sg sa se va fk fp (mlo 8 S (pa_wl tx T S))), (mwL L (lN (mpk (pa_bs tx S (min (pa_wl tx T S) 8))))), wQQ q)) 1 rfl ?_
      exact k1
  | succ m ih =>
    intro k hm hk
    have hin := pa_wl_in (tx := tx) (T := T) (S := S) (k := k) (by omega)
    have hx := hR.2.2 _ hin.1
    rcases Nat.lt_trichotomy k 8 with h8 | h8 | h8
    · refine tv_b (pc' := 211) (ls' := [some (.ref 80), some (.int (nI (S + k))), some (.int 1), some (.int 0), some (.int 8), some (.int (nI k))]) (st' := [.int (I 80 2), .int (nI (S + k))]) (h' := (n, sl, wKK kk, (mqI I sg sa se va fk fp (mlo 8 S (k))), (mwL L (lN (mpk (pa_bs tx S (min (k) 8))))), wQQ q)) 3 rfl ?_
      refine tv_top (hR.1) ?_
      refine tv_b (pc' := (if (nI T) ≤ (nI (S + k)) then 328 else 214)) (ls' := [some (.ref 80), some (.int (nI (S + k))), some (.int 1), some (.int 0), some (.int 8), some (.int (nI k))]) (st' := []) (h' := (n, sl, wKK kk, (mqI I sg sa se va fk fp (mlo 8 S (k))), (mwL L (lN (mpk (pa_bs tx S (min (k) 8))))), wQQ q)) 1 rfl ?_
      refine tv_f (fun hq => absurd ((nI_leI (a := T) (b := (S + k)) (by omega) (by omega)).mp hq) (by omega)) ?_
      refine tv_b (pc' := 223) (ls' := [some (.ref 80), some (.int (nI (S + k))), some (.int 1), some (.int 0), some (.int 8), some (.int (nI k))]) (st' := [.int (nI (S + k)), .ref 81]) (h' := (n, sl, wKK kk, (mqI I sg sa se va fk fp (mlo 8 S (k))), (mwL L (lN (mpk (pa_bs tx S (min (k) 8))))), wQQ q)) 5 rfl ?_
      refine tv_ialN (k := (S + k)) rfl (rfl) (⟨by omega, by omega⟩) ?_
      refine tv_top ((hR.2.2 (S + k) (by omega)).2) ?_
      refine tv_csE [.int (nI (tx (S + k)))] [] rfl rfl (by omega) rfl (Nat.le_of_ble_eq_true rfl) (Nat.le_of_ble_eq_true rfl) (ev_mlet1 (hR.2.2 _ (by omega)).1 hin.2) ?_
      refine tv_b (pc' := (if (nI k) = 8 then 252 else 257)) (ls' := [some (.ref 80), some (.int (nI (S + k))), some (.int 1), some (.int 0), some (.int 8), some (.int (nI k))]) (st' := []) (h' := (n, sl, wKK kk, (mqI I sg sa se va fk fp (mlo 8 S (k))), (mwL L (lN (mpk (pa_bs tx S (min (k) 8))))), wQQ q)) 5 rfl ?_
      refine tv_f (fun hq => absurd ((nI_eq (a := k) (b := 8) (by omega) (by omega)).mp hq) (by omega)) ?_
      refine tv_b (pc' := (if 8 ≤ (nI k) then 287 else 264)) (ls' := [some (.ref 80), some (.int (nI (S + k))), some (.int 1), some (.int 0), some (.int 8), some (.int (nI k))]) (st' := []) (h' := (n, sl, wKK kk, (mqI I sg sa se va fk fp (mlo 8 S (k))), (mwL L (lN (mpk (pa_bs tx S (min (k) 8))))), wQQ q)) 3 rfl ?_
      refine tv_f (fun hq => absurd ((nI_leI (a := 8) (b := k) (by omega) (by omega)).mp hq) (by omega)) ?_
      refine tv_b (pc' := 281) (ls' := [some (.ref 80), some (.int (nI (S + k))), some (.int 1), some (.int 0), some (.int 8), some (.int (nI k))]) (st' := [.int (nI (S + k)), .ref 81, .long ((lN (mpk (pa_bs tx S (min (k) 8)))) <<< ((8 : Int32).toInt64 &&& 63)), .ref 80]) (h' := (n, sl, wKK kk, (mqI I sg sa se va fk fp (mlo 8 S (k))), (mwL L (lN (mpk (pa_bs tx S (min (k) 8))))), wQQ q)) 10 rfl ?_
      refine tv_ialN (k := (S + k)) rfl (rfl) (⟨by omega, by omega⟩) ?_
      refine tv_top ((hR.2.2 (S + k) (by omega)).2) ?_
      refine tv_b (pc' := 287) (ls' := [some (.ref 80), some (.int (nI (S + k))), some (.int 1), some (.int 0), some (.int 8), some (.int (nI k))]) (st' := []) (h' := (n, sl, wKK kk, (mqI I sg sa se va fk fp (mlo 8 S (k))), va_up (mwL L (lN (mpk (pa_bs tx S (min (k) 8))))) 80 (vp_updL ((mwL L (lN (mpk (pa_bs tx S (min (k) 8))))) 80) 7 (((lN (mpk (pa_bs tx S (min (k) 8)))) <<< ((8 : Int32).toInt64 &&& 63)) ||| ((nI (tx (S + k))).toInt64))), wQQ q)) 3 rfl ?_
      refine tv_hL mwL_w_w ?_
      refine tv_b (pc' := (if 8 ≤ (nI k) then 319 else 294)) (ls' := [some (.ref 80), some (.int (nI (S + k))), some (.int 1), some (.int 0), some (.int 8), some (.int (nI k))]) (st' := []) (h' := (n, sl, wKK kk, (mqI I sg sa se va fk fp (mlo 8 S (k))), (mwL L (((lN (mpk (pa_bs tx S (min (k) 8)))) <<< ((8 : Int32).toInt64 &&& 63)) ||| ((nI (tx (S + k))).toInt64))), wQQ q)) 3 rfl ?_
      refine tv_f (fun hq => absurd ((nI_leI (a := 8) (b := k) (by omega) (by omega)).mp hq) (by omega)) ?_
      refine tv_b (pc' := 319) (ls' := [some (.ref 80), some (.int (nI (S + k))), some (.int 1), some (.int 0), some (.int 8), some (.int (nI k))]) (st' := []) (h' := (n, sl, wKK kk, (mqI I sg sa se va fk fp (mlo 8 S (k))), (mwL L (((lN (mpk (pa_bs tx S (min (k) 8)))) <<< ((8 : Int32).toInt64 &&& 63)) ||| ((nI (tx (S + k))).toInt64))), wQQ q)) 2 rfl ?_
      refine tv_iincN (k := k) (ls' := [some (.ref 80), some (.int (nI (S + k))), some (.int 1), some (.int 0), some (.int 8), some (.int (nI (k + 1)))]) rfl rfl rfl ?_
      refine tv_iincN (k := (S + k)) (ls' := [some (.ref 80), some (.int (nI ((S + k) + 1))), some (.int 1), some (.int 0), some (.int 8), some (.int (nI (k + 1)))]) rfl rfl rfl ?_
      refine tv_b (pc' := 206) (ls' := [some (.ref 80), some (.int (nI ((S + k) + 1))), some (.int 1), some (.int 0), some (.int 8), some (.int (nI (k + 1)))]) (st' := []) (h' := (n, sl, wKK kk, (mqI I sg sa se va fk fp (mlo 8 S (k))), (mwL L (((lN (mpk (pa_bs tx S (min (k) 8)))) <<< ((8 : Int32).toInt64 &&& 63)) ||| ((nI (tx (S + k))).toInt64))), wQQ q)) 1 rfl ?_
      have e0 : S + k + 1 = S + (k + 1) := rfl
      have e1 : min (k + 1) 8 = k + 1 := Nat.min_eq_left (by omega)
      have e2 : min k 8 = k := Nat.min_eq_left (by omega)
      have ih2 := ih (k + 1) (by omega) (by omega)
      rw [mlo_k h8, e1, show pa_bs tx S (k + 1) = pa_bs tx S k ++ [tx (S + k)] from rfl, mpk_snoc] at ih2
      have hp := mpk_lt7 (a := pa_bs tx S k) (fun x hx => by have := mr_bsl (tx := tx) (T := T) S k (by omega) x hx; omega) (by rw [pa_bs_len]; omega)
      rw [← mr_step hp hx.1] at ih2
      rw [e2]
      exact ih2
    · refine tv_b (pc' := 211) (ls' := [some (.ref 80), some (.int (nI (S + k))), some (.int 1), some (.int 0), some (.int 8), some (.int (nI k))]) (st' := [.int (I 80 2), .int (nI (S + k))]) (h' := (n, sl, wKK kk, (mqI I sg sa se va fk fp (mlo 8 S (k))), (mwL L (lN (mpk (pa_bs tx S (min (k) 8))))), wQQ q)) 3 rfl ?_
      refine tv_top (hR.1) ?_
      refine tv_b (pc' := (if (nI T) ≤ (nI (S + k)) then 328 else 214)) (ls' := [some (.ref 80), some (.int (nI (S + k))), some (.int 1), some (.int 0), some (.int 8), some (.int (nI k))]) (st' := []) (h' := (n, sl, wKK kk, (mqI I sg sa se va fk fp (mlo 8 S (k))), (mwL L (lN (mpk (pa_bs tx S (min (k) 8))))), wQQ q)) 1 rfl ?_
      refine tv_f (fun hq => absurd ((nI_leI (a := T) (b := (S + k)) (by omega) (by omega)).mp hq) (by omega)) ?_
      refine tv_b (pc' := 223) (ls' := [some (.ref 80), some (.int (nI (S + k))), some (.int 1), some (.int 0), some (.int 8), some (.int (nI k))]) (st' := [.int (nI (S + k)), .ref 81]) (h' := (n, sl, wKK kk, (mqI I sg sa se va fk fp (mlo 8 S (k))), (mwL L (lN (mpk (pa_bs tx S (min (k) 8))))), wQQ q)) 5 rfl ?_
      refine tv_ialN (k := (S + k)) rfl (rfl) (⟨by omega, by omega⟩) ?_
      refine tv_top ((hR.2.2 (S + k) (by omega)).2) ?_
      refine tv_csE [.int (nI (tx (S + k)))] [] rfl rfl (by omega) rfl (Nat.le_of_ble_eq_true rfl) (Nat.le_of_ble_eq_true rfl) (ev_mlet1 (hR.2.2 _ (by omega)).1 hin.2) ?_
      refine tv_b (pc' := (if (nI k) = 8 then 252 else 257)) (ls' := [some (.ref 80), some (.int (nI (S + k))), some (.int 1), some (.int 0), some (.int 8), some (.int (nI k))]) (st' := []) (h' := (n, sl, wKK kk, (mqI I sg sa se va fk fp (mlo 8 S (k))), (mwL L (lN (mpk (pa_bs tx S (min (k) 8))))), wQQ q)) 5 rfl ?_
      refine tv_t ((nI_eq (a := k) (b := 8) (by omega) (by omega)).mpr (by omega)) ?_
      refine tv_b (pc' := 257) (ls' := [some (.ref 80), some (.int (nI (S + k))), some (.int 1), some (.int 0), some (.int 8), some (.int (nI k))]) (st' := []) (h' := (n, sl, wKK kk, va_up (mqI I sg sa se va fk fp (mlo 8 S (k))) 80 (upd ((mqI I sg sa se va fk fp (mlo 8 S (k))) 80) 12 (nI (S + k))), (mwL L (lN (mpk (pa_bs tx S (min (k) 8))))), wQQ q)) 3 rfl ?_
      refine tv_hI mqI_w_lo ?_
      refine tv_b (pc' := (if 8 ≤ (nI k) then 287 else 264)) (ls' := [some (.ref 80), some (.int (nI (S + k))), some (.int 1), some (.int 0), some (.int 8), some (.int (nI k))]) (st' := []) (h' := (n, sl, wKK kk, (mqI I sg sa se va fk fp (nI (S + k))), (mwL L (lN (mpk (pa_bs tx S (min (k) 8))))), wQQ q)) 3 rfl ?_
      refine tv_t ((nI_leI (a := 8) (b := k) (by omega) (by omega)).mpr (by omega)) ?_
      refine tv_b (pc' := (if 8 ≤ (nI k) then 319 else 294)) (ls' := [some (.ref 80), some (.int (nI (S + k))), some (.int 1), some (.int 0), some (.int 8), some (.int (nI k))]) (st' := []) (h' := (n, sl, wKK kk, (mqI I sg sa se va fk fp (nI (S + k))), (mwL L (lN (mpk (pa_bs tx S (min (k) 8))))), wQQ q)) 3 rfl ?_
      refine tv_t ((nI_leI (a := 8) (b := k) (by omega) (by omega)).mpr (by omega)) ?_
      refine tv_iincN (k := k) (ls' := [some (.ref 80), some (.int (nI (S + k))), some (.int 1), some (.int 0), some (.int 8), some (.int (nI (k + 1)))]) rfl rfl rfl ?_
      refine tv_iincN (k := (S + k)) (ls' := [some (.ref 80), some (.int (nI ((S + k) + 1))), some (.int 1), some (.int 0), some (.int 8), some (.int (nI (k + 1)))]) rfl rfl rfl ?_
      refine tv_b (pc' := 206) (ls' := [some (.ref 80), some (.int (nI ((S + k) + 1))), some (.int 1), some (.int 0), some (.int 8), some (.int (nI (k + 1)))]) (st' := []) (h' := (n, sl, wKK kk, (mqI I sg sa se va fk fp (nI (S + k))), (mwL L (lN (mpk (pa_bs tx S (min (k) 8))))), wQQ q)) 1 rfl ?_
      have e0 : S + k + 1 = S + (k + 1) := rfl
      have e1 : min (k + 1) 8 = 8 := Nat.min_eq_right (by omega)
      have e2 : min k 8 = 8 := Nat.min_eq_right (by omega)
      have ih2 := ih (k + 1) (by omega) (by omega)
      have e3 : mlo 8 S (k + 1) = nI (S + k) := by rw [h8]; exact mlo_b
      rw [e3, e1] at ih2
      rw [e2]
      exact ih2
    · refine tv_b (pc' := 211) (ls' := [some (.ref 80), some (.int (nI (S + k))), some (.int 1), some (.int 0), some (.int 8), some (.int (nI k))]) (st' := [.int (I 80 2), .int (nI (S + k))]) (h' := (n, sl, wKK kk, (mqI I sg sa se va fk fp (mlo 8 S (k))), (mwL L (lN (mpk (pa_bs tx S (min (k) 8))))), wQQ q)) 3 rfl ?_
      refine tv_top (hR.1) ?_
      refine tv_b (pc' := (if (nI T) ≤ (nI (S + k)) then 328 else 214)) (ls' := [some (.ref 80), some (.int (nI (S + k))), some (.int 1), some (.int 0), some (.int 8), some (.int (nI k))]) (st' := []) (h' := (n, sl, wKK kk, (mqI I sg sa se va fk fp (mlo 8 S (k))), (mwL L (lN (mpk (pa_bs tx S (min (k) 8))))), wQQ q)) 1 rfl ?_
      refine tv_f (fun hq => absurd ((nI_leI (a := T) (b := (S + k)) (by omega) (by omega)).mp hq) (by omega)) ?_
      refine tv_b (pc' := 223) (ls' := [some (.ref 80), some (.int (nI (S + k))), some (.int 1), some (.int 0), some (.int 8), some (.int (nI k))]) (st' := [.int (nI (S + k)), .ref 81]) (h' := (n, sl, wKK kk, (mqI I sg sa se va fk fp (mlo 8 S (k))), (mwL L (lN (mpk (pa_bs tx S (min (k) 8))))), wQQ q)) 5 rfl ?_
      refine tv_ialN (k := (S + k)) rfl (rfl) (⟨by omega, by omega⟩) ?_
      refine tv_top ((hR.2.2 (S + k) (by omega)).2) ?_
      refine tv_csE [.int (nI (tx (S + k)))] [] rfl rfl (by omega) rfl (Nat.le_of_ble_eq_true rfl) (Nat.le_of_ble_eq_true rfl) (ev_mlet1 (hR.2.2 _ (by omega)).1 hin.2) ?_
      refine tv_b (pc' := (if (nI k) = 8 then 252 else 257)) (ls' := [some (.ref 80), some (.int (nI (S + k))), some (.int 1), some (.int 0), some (.int 8), some (.int (nI k))]) (st' := []) (h' := (n, sl, wKK kk, (mqI I sg sa se va fk fp (mlo 8 S (k))), (mwL L (lN (mpk (pa_bs tx S (min (k) 8))))), wQQ q)) 5 rfl ?_
      refine tv_f (fun hq => absurd ((nI_eq (a := k) (b := 8) (by omega) (by omega)).mp hq) (by omega)) ?_
      refine tv_b (pc' := (if 8 ≤ (nI k) then 287 else 264)) (ls' := [some (.ref 80), some (.int (nI (S + k))), some (.int 1), some (.int 0), some (.int 8), some (.int (nI k))]) (st' := []) (h' := (n, sl, wKK kk, (mqI I sg sa se va fk fp (mlo 8 S (k))), (mwL L (lN (mpk (pa_bs tx S (min (k) 8))))), wQQ q)) 3 rfl ?_
      refine tv_t ((nI_leI (a := 8) (b := k) (by omega) (by omega)).mpr (by omega)) ?_
      refine tv_b (pc' := (if 8 ≤ (nI k) then 319 else 294)) (ls' := [some (.ref 80), some (.int (nI (S + k))), some (.int 1), some (.int 0), some (.int 8), some (.int (nI k))]) (st' := []) (h' := (n, sl, wKK kk, (mqI I sg sa se va fk fp (mlo 8 S (k))), (mwL L (lN (mpk (pa_bs tx S (min (k) 8))))), wQQ q)) 3 rfl ?_
      refine tv_t ((nI_leI (a := 8) (b := k) (by omega) (by omega)).mpr (by omega)) ?_
      refine tv_iincN (k := k) (ls' := [some (.ref 80), some (.int (nI (S + k))), some (.int 1), some (.int 0), some (.int 8), some (.int (nI (k + 1)))]) rfl rfl rfl ?_
      refine tv_iincN (k := (S + k)) (ls' := [some (.ref 80), some (.int (nI ((S + k) + 1))), some (.int 1), some (.int 0), some (.int 8), some (.int (nI (k + 1)))]) rfl rfl rfl ?_
      refine tv_b (pc' := 206) (ls' := [some (.ref 80), some (.int (nI ((S + k) + 1))), some (.int 1), some (.int 0), some (.int 8), some (.int (nI (k + 1)))]) (st' := []) (h' := (n, sl, wKK kk, (mqI I sg sa se va fk fp (mlo 8 S (k))), (mwL L (lN (mpk (pa_bs tx S (min (k) 8))))), wQQ q)) 1 rfl ?_
      have e0 : S + k + 1 = S + (k + 1) := rfl
      have e1 : min (k + 1) 8 = 8 := Nat.min_eq_right (by omega)
      have e2 : min k 8 = 8 := Nat.min_eq_right (by omega)
      have ih2 := ih (k + 1) (by omega) (by omega)
      rw [mlo_g h8, e1] at ih2
      rw [e2]
      exact ih2
theorem tv_m_dl {d n sl : Nat} {kk : Nat → Nat × Nat} {I : Nat → Nat → Int32} {L : Nat → Nat → Int64} {q : Nat → Nat → Option Nat} {tx : Nat → Nat} {T : Nat} {sg sa se va fk fp : Int32} {w : Int64} {S : Nat} {P : Option Value → am_H → Prop} (hR : mrH tx T I) (hS : S ≤ T) (k1 : am_T (d + 1) 162 328 [some (.ref 80), some (.int (nI (S + pa_dl tx T S))), some (.int 0), some (.int 1), some (.int 7), some (.int (nI (pa_dl tx T S)))] [] (n, sl, wKK kk, (mqI I sg sa se (nI (pa_dv tx S (min (pa_dl tx T S) 7))) fk fp (mlo 7 S (pa_dl tx T S))), (mwL L w), wQQ q) P) : ∀ m k : Nat, pa_dl tx T S - k = m → k ≤ pa_dl tx T S → am_T (d + 1) 162 206 [some (.ref 80), some (.int (nI (S + k))), some (.int 0), some (.int 1), some (.int 7), some (.int (nI k))] [] (n, sl, wKK kk, (mqI I sg sa se (nI (pa_dv tx S (min (k) 7))) fk fp (mlo 7 S (k))), (mwL L w), wQQ q) P := by
  have hT := hR.2.1
  have hle := pa_rn_le (fun i => pa_dg (tx i)) (T - S) S
  have hle2 : pa_dl tx T S ≤ T - S := hle
  intro m
  induction m with
  | zero =>
    intro k hm hk
    obtain rfl : k = pa_dl tx T S := by omega
    refine tv_b (pc' := 211) (ls' := [some (.ref 80), some (.int (nI (S + pa_dl tx T S))), some (.int 0), some (.int 1), some (.int 7), some (.int (nI (pa_dl tx T S)))]) (st' := [.int (I 80 2), .int (nI (S + pa_dl tx T S))]) (h' := (n, sl, wKK kk, (mqI I sg sa se (nI (pa_dv tx S (min (pa_dl tx T S) 7))) fk fp (mlo 7 S (pa_dl tx T S))), (mwL L w), wQQ q)) 3 rfl ?_
    refine tv_top (hR.1) ?_
    refine tv_b (pc' := (if (nI T) ≤ (nI (S + pa_dl tx T S)) then 328 else 214)) (ls' := [some (.ref 80), some (.int (nI (S + pa_dl tx T S))), some (.int 0), some (.int 1), some (.int 7), some (.int (nI (pa_dl tx T S)))]) (st' := []) (h' := (n, sl, wKK kk, (mqI I sg sa se (nI (pa_dv tx S (min (pa_dl tx T S) 7))) fk fp (mlo 7 S (pa_dl tx T S))), (mwL L w), wQQ q)) 1 rfl ?_
    refine tv_ifq (nI_leI (a := T) (b := (S + pa_dl tx T S)) (by omega) (by omega)) (fun c211 => ?_) (fun c211 => ?_)
    · exact k1
    · refine tv_b (pc' := 238) (ls' := [some (.ref 80), some (.int (nI (S + pa_dl tx T S))), some (.int 0), some (.int 1), some (.int 7), some (.int (nI (pa_dl tx T S)))]) (st' := [.int (nI (S + pa_dl tx T S)), .ref 81]) (h' := (n, sl, wKK kk, (mqI I sg sa se (nI (pa_dv tx S (min (pa_dl tx T S) 7))) fk fp (mlo 7 S (pa_dl tx T S))), (mwL L w), wQQ q)) 5 rfl ?_
      refine tv_ialN (k := (S + pa_dl tx T S)) rfl (rfl) (⟨by omega, by omega⟩) ?_
      refine tv_top ((hR.2.2 (S + pa_dl tx T S) (by omega)).2) ?_
      refine tv_csE [.int (nI (tx (S + pa_dl tx T S)))] [] rfl rfl (by omega) rfl (Nat.le_of_ble_eq_true rfl) (Nat.le_of_ble_eq_true rfl) (ev_mdig0 (hR.2.2 _ (by omega)).1 (pa_dl_out (by omega))) ?_
      refine tv_b (pc' := 328) (ls' := [some (.ref 80), some (.int (nI (S + pa_dl tx T S))), some (.int 0), some (.int 1), some (.int 7), some (.int (nI (pa_dl tx T S)))]) (st' := []) (h' := (n, sl, wKK kk, (mqI I sg sa se (nI (pa_dv tx S (min (pa_dl tx T S) 7))) fk fp (mlo 7 S (pa_dl tx T S))), (mwL L w), wQQ q)) 1 rfl ?_
      exact k1
  | succ m ih =>
    intro k hm hk
    have hin := pa_dl_in (tx := tx) (T := T) (S := S) (k := k) (by omega)
    have hx := hR.2.2 _ hin.1
    have hd := mr_dg hin.2
    rcases Nat.lt_trichotomy k 7 with h8 | h8 | h8
    · refine tv_b (pc' := 211) (ls' := [some (.ref 80), some (.int (nI (S + k))), some (.int 0), some (.int 1), some (.int 7), some (.int (nI k))]) (st' := [.int (I 80 2), .int (nI (S + k))]) (h' := (n, sl, wKK kk, (mqI I sg sa se (nI (pa_dv tx S (min (k) 7))) fk fp (mlo 7 S (k))), (mwL L w), wQQ q)) 3 rfl ?_
      refine tv_top (hR.1) ?_
      refine tv_b (pc' := (if (nI T) ≤ (nI (S + k)) then 328 else 214)) (ls' := [some (.ref 80), some (.int (nI (S + k))), some (.int 0), some (.int 1), some (.int 7), some (.int (nI k))]) (st' := []) (h' := (n, sl, wKK kk, (mqI I sg sa se (nI (pa_dv tx S (min (k) 7))) fk fp (mlo 7 S (k))), (mwL L w), wQQ q)) 1 rfl ?_
      refine tv_f (fun hq => absurd ((nI_leI (a := T) (b := (S + k)) (by omega) (by omega)).mp hq) (by omega)) ?_
      refine tv_b (pc' := 238) (ls' := [some (.ref 80), some (.int (nI (S + k))), some (.int 0), some (.int 1), some (.int 7), some (.int (nI k))]) (st' := [.int (nI (S + k)), .ref 81]) (h' := (n, sl, wKK kk, (mqI I sg sa se (nI (pa_dv tx S (min (k) 7))) fk fp (mlo 7 S (k))), (mwL L w), wQQ q)) 5 rfl ?_
      refine tv_ialN (k := (S + k)) rfl (rfl) (⟨by omega, by omega⟩) ?_
      refine tv_top ((hR.2.2 (S + k) (by omega)).2) ?_
      refine tv_csE [.int (nI (tx (S + k)))] [] rfl rfl (by omega) rfl (Nat.le_of_ble_eq_true rfl) (Nat.le_of_ble_eq_true rfl) (ev_mdig1 (hR.2.2 _ (by omega)).1 hin.2) ?_
      refine tv_b (pc' := (if (nI k) = 7 then 252 else 257)) (ls' := [some (.ref 80), some (.int (nI (S + k))), some (.int 0), some (.int 1), some (.int 7), some (.int (nI k))]) (st' := []) (h' := (n, sl, wKK kk, (mqI I sg sa se (nI (pa_dv tx S (min (k) 7))) fk fp (mlo 7 S (k))), (mwL L w), wQQ q)) 4 rfl ?_
      refine tv_f (fun hq => absurd ((nI_eq (a := k) (b := 7) (by omega) (by omega)).mp hq) (by omega)) ?_
      refine tv_b (pc' := (if 7 ≤ (nI k) then 287 else 264)) (ls' := [some (.ref 80), some (.int (nI (S + k))), some (.int 0), some (.int 1), some (.int 7), some (.int (nI k))]) (st' := []) (h' := (n, sl, wKK kk, (mqI I sg sa se (nI (pa_dv tx S (min (k) 7))) fk fp (mlo 7 S (k))), (mwL L w), wQQ q)) 3 rfl ?_
      refine tv_f (fun hq => absurd ((nI_leI (a := 7) (b := k) (by omega) (by omega)).mp hq) (by omega)) ?_
      refine tv_b (pc' := (if 7 ≤ (nI k) then 319 else 294)) (ls' := [some (.ref 80), some (.int (nI (S + k))), some (.int 0), some (.int 1), some (.int 7), some (.int (nI k))]) (st' := []) (h' := (n, sl, wKK kk, (mqI I sg sa se (nI (pa_dv tx S (min (k) 7))) fk fp (mlo 7 S (k))), (mwL L w), wQQ q)) 5 rfl ?_
      refine tv_f (fun hq => absurd ((nI_leI (a := 7) (b := k) (by omega) (by omega)).mp hq) (by omega)) ?_
      refine tv_b (pc' := 305) (ls' := [some (.ref 80), some (.int (nI (S + k))), some (.int 0), some (.int 1), some (.int 7), some (.int (nI k))]) (st' := [.int (nI (pa_dv tx S (min (k) 7))), .int 10, .ref 80]) (h' := (n, sl, wKK kk, (mqI I sg sa se (nI (pa_dv tx S (min (k) 7))) fk fp (mlo 7 S (k))), (mwL L w), wQQ q)) 6 rfl ?_
      refine tv_b (pc' := 306) (ls' := [some (.ref 80), some (.int (nI (S + k))), some (.int 0), some (.int 1), some (.int 7), some (.int (nI k))]) (st' := [.int (10 * (nI (pa_dv tx S (min (k) 7)))), .ref 80]) (h' := (n, sl, wKK kk, (mqI I sg sa se (nI (pa_dv tx S (min (k) 7))) fk fp (mlo 7 S (k))), (mwL L w), wQQ q)) 1 rfl ?_
      refine tv_top (show 10 * (nI (pa_dv tx S (min (k) 7))) = nI (10 * (pa_dv tx S (min (k) 7))) from nI_mul 10 (pa_dv tx S (min (k) 7))) ?_
      refine tv_b (pc' := 311) (ls' := [some (.ref 80), some (.int (nI (S + k))), some (.int 0), some (.int 1), some (.int 7), some (.int (nI k))]) (st' := [.int (nI (S + k)), .ref 81, .int (nI (10 * (pa_dv tx S (min (k) 7)))), .ref 80]) (h' := (n, sl, wKK kk, (mqI I sg sa se (nI (pa_dv tx S (min (k) 7))) fk fp (mlo 7 S (k))), (mwL L w), wQQ q)) 3 rfl ?_
      refine tv_ialN (k := (S + k)) rfl (rfl) (⟨by omega, by omega⟩) ?_
      refine tv_top ((hR.2.2 (S + k) (by omega)).2) ?_
      refine tv_b (pc' := 313) (ls' := [some (.ref 80), some (.int (nI (S + k))), some (.int 0), some (.int 1), some (.int 7), some (.int (nI k))]) (st' := [.int ((nI (10 * (pa_dv tx S (min (k) 7)))) + (nI (tx (S + k)))), .ref 80]) (h' := (n, sl, wKK kk, (mqI I sg sa se (nI (pa_dv tx S (min (k) 7))) fk fp (mlo 7 S (k))), (mwL L w), wQQ q)) 1 rfl ?_
      refine tv_top (show (nI (10 * (pa_dv tx S (min (k) 7)))) + (nI (tx (S + k))) = nI ((10 * (pa_dv tx S (min (k) 7))) + (tx (S + k))) from nI_add (10 * (pa_dv tx S (min (k) 7))) (tx (S + k))) ?_
      refine tv_b (pc' := 315) (ls' := [some (.ref 80), some (.int (nI (S + k))), some (.int 0), some (.int 1), some (.int 7), some (.int (nI k))]) (st' := [.int 48, .int (nI ((10 * (pa_dv tx S (min (k) 7))) + (tx (S + k)))), .ref 80]) (h' := (n, sl, wKK kk, (mqI I sg sa se (nI (pa_dv tx S (min (k) 7))) fk fp (mlo 7 S (k))), (mwL L w), wQQ q)) 1 rfl ?_
      refine tv_b (pc' := 316) (ls' := [some (.ref 80), some (.int (nI (S + k))), some (.int 0), some (.int 1), some (.int 7), some (.int (nI k))]) (st' := [.int ((nI ((10 * (pa_dv tx S (min (k) 7))) + (tx (S + k)))) - 48), .ref 80]) (h' := (n, sl, wKK kk, (mqI I sg sa se (nI (pa_dv tx S (min (k) 7))) fk fp (mlo 7 S (k))), (mwL L w), wQQ q)) 1 rfl ?_
      refine tv_top (show (nI ((10 * (pa_dv tx S (min (k) 7))) + (tx (S + k)))) - 48 = nI (((10 * (pa_dv tx S (min (k) 7))) + (tx (S + k))) - 48) from nI_sub (a := (10 * (pa_dv tx S (min (k) 7))) + (tx (S + k))) (b := 48) (by omega)) ?_
      refine tv_b (pc' := 319) (ls' := [some (.ref 80), some (.int (nI (S + k))), some (.int 0), some (.int 1), some (.int 7), some (.int (nI k))]) (st' := []) (h' := (n, sl, wKK kk, va_up (mqI I sg sa se (nI (pa_dv tx S (min (k) 7))) fk fp (mlo 7 S (k))) 80 (upd ((mqI I sg sa se (nI (pa_dv tx S (min (k) 7))) fk fp (mlo 7 S (k))) 80) 6 (nI (((10 * (pa_dv tx S (min (k) 7))) + (tx (S + k))) - 48))), (mwL L w), wQQ q)) 1 rfl ?_
      refine tv_hI mqI_w_va ?_
      refine tv_iincN (k := k) (ls' := [some (.ref 80), some (.int (nI (S + k))), some (.int 0), some (.int 1), some (.int 7), some (.int (nI (k + 1)))]) rfl rfl rfl ?_
      refine tv_iincN (k := (S + k)) (ls' := [some (.ref 80), some (.int (nI ((S + k) + 1))), some (.int 0), some (.int 1), some (.int 7), some (.int (nI (k + 1)))]) rfl rfl rfl ?_
      refine tv_b (pc' := 206) (ls' := [some (.ref 80), some (.int (nI ((S + k) + 1))), some (.int 0), some (.int 1), some (.int 7), some (.int (nI (k + 1)))]) (st' := []) (h' := (n, sl, wKK kk, (mqI I sg sa se (nI (((10 * (pa_dv tx S (min (k) 7))) + (tx (S + k))) - 48)) fk fp (mlo 7 S (k))), (mwL L w), wQQ q)) 1 rfl ?_
      have e0 : S + k + 1 = S + (k + 1) := rfl
      have e1 : min (k + 1) 7 = k + 1 := Nat.min_eq_left (by omega)
      have e2 : min k 7 = k := Nat.min_eq_left (by omega)
      have ih2 := ih (k + 1) (by omega) (by omega)
      have hd := mr_dg hin.2
      rw [mlo_k h8, e1, show pa_dv tx S (k + 1) = 10 * pa_dv tx S k + (tx (S + k) - 48) from rfl] at ih2
      rw [e2, show 10 * pa_dv tx S k + tx (S + k) - 48 = 10 * pa_dv tx S k + (tx (S + k) - 48) by omega]
      exact ih2
    · refine tv_b (pc' := 211) (ls' := [some (.ref 80), some (.int (nI (S + k))), some (.int 0), some (.int 1), some (.int 7), some (.int (nI k))]) (st' := [.int (I 80 2), .int (nI (S + k))]) (h' := (n, sl, wKK kk, (mqI I sg sa se (nI (pa_dv tx S (min (k) 7))) fk fp (mlo 7 S (k))), (mwL L w), wQQ q)) 3 rfl ?_
      refine tv_top (hR.1) ?_
      refine tv_b (pc' := (if (nI T) ≤ (nI (S + k)) then 328 else 214)) (ls' := [some (.ref 80), some (.int (nI (S + k))), some (.int 0), some (.int 1), some (.int 7), some (.int (nI k))]) (st' := []) (h' := (n, sl, wKK kk, (mqI I sg sa se (nI (pa_dv tx S (min (k) 7))) fk fp (mlo 7 S (k))), (mwL L w), wQQ q)) 1 rfl ?_
      refine tv_f (fun hq => absurd ((nI_leI (a := T) (b := (S + k)) (by omega) (by omega)).mp hq) (by omega)) ?_
      refine tv_b (pc' := 238) (ls' := [some (.ref 80), some (.int (nI (S + k))), some (.int 0), some (.int 1), some (.int 7), some (.int (nI k))]) (st' := [.int (nI (S + k)), .ref 81]) (h' := (n, sl, wKK kk, (mqI I sg sa se (nI (pa_dv tx S (min (k) 7))) fk fp (mlo 7 S (k))), (mwL L w), wQQ q)) 5 rfl ?_
      refine tv_ialN (k := (S + k)) rfl (rfl) (⟨by omega, by omega⟩) ?_
      refine tv_top ((hR.2.2 (S + k) (by omega)).2) ?_
      refine tv_csE [.int (nI (tx (S + k)))] [] rfl rfl (by omega) rfl (Nat.le_of_ble_eq_true rfl) (Nat.le_of_ble_eq_true rfl) (ev_mdig1 (hR.2.2 _ (by omega)).1 hin.2) ?_
      refine tv_b (pc' := (if (nI k) = 7 then 252 else 257)) (ls' := [some (.ref 80), some (.int (nI (S + k))), some (.int 0), some (.int 1), some (.int 7), some (.int (nI k))]) (st' := []) (h' := (n, sl, wKK kk, (mqI I sg sa se (nI (pa_dv tx S (min (k) 7))) fk fp (mlo 7 S (k))), (mwL L w), wQQ q)) 4 rfl ?_
      refine tv_t ((nI_eq (a := k) (b := 7) (by omega) (by omega)).mpr (by omega)) ?_
      refine tv_b (pc' := 257) (ls' := [some (.ref 80), some (.int (nI (S + k))), some (.int 0), some (.int 1), some (.int 7), some (.int (nI k))]) (st' := []) (h' := (n, sl, wKK kk, va_up (mqI I sg sa se (nI (pa_dv tx S (min (k) 7))) fk fp (mlo 7 S (k))) 80 (upd ((mqI I sg sa se (nI (pa_dv tx S (min (k) 7))) fk fp (mlo 7 S (k))) 80) 12 (nI (S + k))), (mwL L w), wQQ q)) 3 rfl ?_
      refine tv_hI mqI_w_lo ?_
      refine tv_b (pc' := (if 7 ≤ (nI k) then 287 else 264)) (ls' := [some (.ref 80), some (.int (nI (S + k))), some (.int 0), some (.int 1), some (.int 7), some (.int (nI k))]) (st' := []) (h' := (n, sl, wKK kk, (mqI I sg sa se (nI (pa_dv tx S (min (k) 7))) fk fp (nI (S + k))), (mwL L w), wQQ q)) 3 rfl ?_
      refine tv_t ((nI_leI (a := 7) (b := k) (by omega) (by omega)).mpr (by omega)) ?_
      refine tv_b (pc' := (if 7 ≤ (nI k) then 319 else 294)) (ls' := [some (.ref 80), some (.int (nI (S + k))), some (.int 0), some (.int 1), some (.int 7), some (.int (nI k))]) (st' := []) (h' := (n, sl, wKK kk, (mqI I sg sa se (nI (pa_dv tx S (min (k) 7))) fk fp (nI (S + k))), (mwL L w), wQQ q)) 3 rfl ?_
      refine tv_t ((nI_leI (a := 7) (b := k) (by omega) (by omega)).mpr (by omega)) ?_
      refine tv_iincN (k := k) (ls' := [some (.ref 80), some (.int (nI (S + k))), some (.int 0), some (.int 1), some (.int 7), some (.int (nI (k + 1)))]) rfl rfl rfl ?_
      refine tv_iincN (k := (S + k)) (ls' := [some (.ref 80), some (.int (nI ((S + k) + 1))), some (.int 0), some (.int 1), some (.int 7), some (.int (nI (k + 1)))]) rfl rfl rfl ?_
      refine tv_b (pc' := 206) (ls' := [some (.ref 80), some (.int (nI ((S + k) + 1))), some (.int 0), some (.int 1), some (.int 7), some (.int (nI (k + 1)))]) (st' := []) (h' := (n, sl, wKK kk, (mqI I sg sa se (nI (pa_dv tx S (min (k) 7))) fk fp (nI (S + k))), (mwL L w), wQQ q)) 1 rfl ?_
      have e0 : S + k + 1 = S + (k + 1) := rfl
      have e1 : min (k + 1) 7 = 7 := Nat.min_eq_right (by omega)
      have e2 : min k 7 = 7 := Nat.min_eq_right (by omega)
      have ih2 := ih (k + 1) (by omega) (by omega)
      have e3 : mlo 7 S (k + 1) = nI (S + k) := by rw [h8]; exact mlo_b
      rw [e3, e1] at ih2
      rw [e2]
      exact ih2
    · refine tv_b (pc' := 211) (ls' := [some (.ref 80), some (.int (nI (S + k))), some (.int 0), some (.int 1), some (.int 7), some (.int (nI k))]) (st' := [.int (I 80 2), .int (nI (S + k))]) (h' := (n, sl, wKK kk, (mqI I sg sa se (nI (pa_dv tx S (min (k) 7))) fk fp (mlo 7 S (k))), (mwL L w), wQQ q)) 3 rfl ?_
      refine tv_top (hR.1) ?_
      refine tv_b (pc' := (if (nI T) ≤ (nI (S + k)) then 328 else 214)) (ls' := [some (.ref 80), some (.int (nI (S + k))), some (.int 0), some (.int 1), some (.int 7), some (.int (nI k))]) (st' := []) (h' := (n, sl, wKK kk, (mqI I sg sa se (nI (pa_dv tx S (min (k) 7))) fk fp (mlo 7 S (k))), (mwL L w), wQQ q)) 1 rfl ?_
      refine tv_f (fun hq => absurd ((nI_leI (a := T) (b := (S + k)) (by omega) (by omega)).mp hq) (by omega)) ?_
      refine tv_b (pc' := 238) (ls' := [some (.ref 80), some (.int (nI (S + k))), some (.int 0), some (.int 1), some (.int 7), some (.int (nI k))]) (st' := [.int (nI (S + k)), .ref 81]) (h' := (n, sl, wKK kk, (mqI I sg sa se (nI (pa_dv tx S (min (k) 7))) fk fp (mlo 7 S (k))), (mwL L w), wQQ q)) 5 rfl ?_
      refine tv_ialN (k := (S + k)) rfl (rfl) (⟨by omega, by omega⟩) ?_
      refine tv_top ((hR.2.2 (S + k) (by omega)).2) ?_
      refine tv_csE [.int (nI (tx (S + k)))] [] rfl rfl (by omega) rfl (Nat.le_of_ble_eq_true rfl) (Nat.le_of_ble_eq_true rfl) (ev_mdig1 (hR.2.2 _ (by omega)).1 hin.2) ?_
      refine tv_b (pc' := (if (nI k) = 7 then 252 else 257)) (ls' := [some (.ref 80), some (.int (nI (S + k))), some (.int 0), some (.int 1), some (.int 7), some (.int (nI k))]) (st' := []) (h' := (n, sl, wKK kk, (mqI I sg sa se (nI (pa_dv tx S (min (k) 7))) fk fp (mlo 7 S (k))), (mwL L w), wQQ q)) 4 rfl ?_
      refine tv_f (fun hq => absurd ((nI_eq (a := k) (b := 7) (by omega) (by omega)).mp hq) (by omega)) ?_
      refine tv_b (pc' := (if 7 ≤ (nI k) then 287 else 264)) (ls' := [some (.ref 80), some (.int (nI (S + k))), some (.int 0), some (.int 1), some (.int 7), some (.int (nI k))]) (st' := []) (h' := (n, sl, wKK kk, (mqI I sg sa se (nI (pa_dv tx S (min (k) 7))) fk fp (mlo 7 S (k))), (mwL L w), wQQ q)) 3 rfl ?_
      refine tv_t ((nI_leI (a := 7) (b := k) (by omega) (by omega)).mpr (by omega)) ?_
      refine tv_b (pc' := (if 7 ≤ (nI k) then 319 else 294)) (ls' := [some (.ref 80), some (.int (nI (S + k))), some (.int 0), some (.int 1), some (.int 7), some (.int (nI k))]) (st' := []) (h' := (n, sl, wKK kk, (mqI I sg sa se (nI (pa_dv tx S (min (k) 7))) fk fp (mlo 7 S (k))), (mwL L w), wQQ q)) 3 rfl ?_
      refine tv_t ((nI_leI (a := 7) (b := k) (by omega) (by omega)).mpr (by omega)) ?_
      refine tv_iincN (k := k) (ls' := [some (.ref 80), some (.int (nI (S + k))), some (.int 0), some (.int 1), some (.int 7), some (.int (nI (k + 1)))]) rfl rfl rfl ?_
      refine tv_iincN (k := (S + k)) (ls' := [some (.ref 80), some (.int (nI ((S + k) + 1))), some (.int 0), some (.int 1), some (.int 7), some (.int (nI (k + 1)))]) rfl rfl rfl ?_
      refine tv_b (pc' := 206) (ls' := [some (.ref 80), some (.int (nI ((S + k) + 1))), some (.int 0), some (.int 1), some (.int 7), some (.int (nI (k + 1)))]) (st' := []) (h' := (n, sl, wKK kk, (mqI I sg sa se (nI (pa_dv tx S (min (k) 7))) fk fp (mlo 7 S (k))), (mwL L w), wQQ q)) 1 rfl ?_
      have e0 : S + k + 1 = S + (k + 1) := rfl
      have e1 : min (k + 1) 7 = 7 := Nat.min_eq_right (by omega)
      have e2 : min k 7 = 7 := Nat.min_eq_right (by omega)
      have ih2 := ih (k + 1) (by omega) (by omega)
      rw [mlo_g h8, e1] at ih2
      rw [e2]
      exact ih2
