/-! THE LEAST EARTH TO DRAW, purely -/
theorem ediv_m {a b c : Int} (h : a ≤ b) (hc : 0 < c) : a / c ≤ b / c := Int.ediv_le_ediv hc h
section DM
variable {X : Nat → Nat → Int32}
theorem mom_m (hT : wfT X) (d : Nat) {l l' : Int} (h : l ≤ l') : mom X d l ≤ mom X d l' := by
  unfold mom
  have : zS (fun r => (X 95 r).toInt * oh X r l) 8 ≤ zS (fun r => (X 95 r).toInt * oh X r l') 8 := zS_le (fun r hr => by
    obtain ⟨⟨t1, t2⟩, ⟨h1, h2⟩, _⟩ := hT.2.2.1 r hr
    refine Int.mul_le_mul_of_nonneg_left ?_ t1
    unfold oh
    have := ediv_m (c := 1000000) (Int.mul_le_mul_of_nonneg_left h h1) (by decide)
    omega)
  omega
theorem dG_m (hT : wfT X) {c d : Nat} (hc : c < 16) (hd : d < 400) {l l' : Int} (h : l ≤ l') : (2 * (c : Int) - 15) * dG X c d l ≤ (2 * (c : Int) - 15) * dG X c d l' := by
  have hm := mom_m hT d h
  have hw := wat_b hT hd
  have hst := hT.1 c hc
  unfold dG prZ
  by_cases hs : 0 ≤ 2 * (c : Int) - 15
  · refine Int.mul_le_mul_of_nonneg_left ?_ hs
    have h1 : ldZ (tot X d) (mom X d l) c ≤ ldZ (tot X d) (mom X d l') c := by
      unfold ldZ
      have h2 := Int.mul_le_mul_of_nonneg_right hm hs
      have := ediv_m (a := tot X d * 42500 + mom X d l * (2 * (c : Int) - 15)) (b := tot X d * 42500 + mom X d l' * (2 * (c : Int) - 15)) (c := 680000) (by omega) (by decide)
      omega
    have h3 := ediv_m (c := 10 * (X 94 c).toInt) (Int.mul_le_mul_of_nonneg_right h1 (show 0 ≤ 100 + watZ X d by omega)) (by omega)
    omega
  · refine Int.mul_le_mul_of_nonpos_left (by omega) ?_
    have h1 : ldZ (tot X d) (mom X d l') c ≤ ldZ (tot X d) (mom X d l) c := by
      unfold ldZ
      have h2 := Int.mul_le_mul_of_nonpos_right hm (show 2 * (c : Int) - 15 ≤ 0 by omega)
      have := ediv_m (a := tot X d * 42500 + mom X d l' * (2 * (c : Int) - 15)) (b := tot X d * 42500 + mom X d l * (2 * (c : Int) - 15)) (c := 680000) (by omega) (by decide)
      omega
    have h3 := ediv_m (c := 10 * (X 94 c).toInt) (Int.mul_le_mul_of_nonneg_right h1 (show 0 ≤ 100 + watZ X d by omega)) (by omega)
    omega
theorem lz_m {s t : Int} (h : s ≤ t) : lz s ≤ lz t := by
  unfold lz
  have := ediv_m (c := 1360) (Int.mul_le_mul_of_nonneg_left h (show (0 : Int) ≤ 1000 by decide)) (by decide)
  omega
theorem xs_add {f g : Nat → Int} : xs (fun c => f c + g c) = xs f + xs g := by
  unfold xs
  have e : zS (fun c => (2 * (c : Int) - 15) * (f c + g c)) 16 = zS (fun c => (2 * (c : Int) - 15) * f c + (2 * (c : Int) - 15) * g c) 16 := zS_c (fun c _ => Int.mul_add _ _ _)
  rw [e, zS_add]
end DM
section SE
variable (X : Nat → Nat → Int32) (lc cl : Nat → Nat) (D : Nat) (aim cei : Int)
def nxtZ (d : Nat) (σ : Nat → Int) (j : Nat) : Nat → Int := fun c => σ c + dG X c d (lz (xs σ)) + 50 * (if j ≠ 0 ∧ c = cl (j - 1) then (lc (j - 1) : Int) else 0)
def muN (j : Nat) : Nat := if j = 0 then 0 else lc (j - 1)
abbrev bst := Option (Nat × (Nat → Nat))
def okB : bst → Nat → Bool
  | none, _ => true
  | some w, v => decide (v < w.1)
def leB : bst → Nat → Prop
  | none, _ => False
  | some w, v => w.1 ≤ v
def updN (ch : Nat → Nat) (g j : Nat) : Nat → Nat := fun i => if i = g then j else ch i
def chdZ (f : (Nat → Int) → Nat → (Nat → Nat) → bst → bst) (g : Nat) (σ : Nat → Int) (lit : Nat) (ch : Nat → Nat) (j : Nat) (b : bst) : bst :=
  if j ≠ 0 ∧ lc (j - 1) = 0 then b else if ¬ okB b (lit + muN lc j) = true then b else if cei < lz (xs (nxtZ X lc cl (D + g) σ j)) then b else f (nxtZ X lc cl (D + g) σ j) (lit + muN lc j) (updN ch g j) b
def kidZ (f : (Nat → Int) → Nat → (Nat → Nat) → bst → bst) (g : Nat) (σ : Nat → Int) (lit : Nat) (ch : Nat → Nat) : Nat → Nat → bst → bst
  | 0, _, b => b
  | r + 1, j, b => kidZ f g σ lit ch r (j + 1) (chdZ X lc cl D cei f g σ lit ch j b)
def nodeZ : Nat → Nat → (Nat → Int) → Nat → (Nat → Nat) → bst → bst
  | 0, _, σ, lit, ch, b => if lz (xs σ) ≤ aim then some (lit, ch) else b
  | m + 1, g, σ, lit, ch, b => kidZ X lc cl D cei (nodeZ m (g + 1)) g σ lit ch 4 0 b
/-- what more a way from here may draw -/
def rchZ : Nat → Nat → (Nat → Int) → Nat → Prop
  | 0, _, σ, a => lz (xs σ) ≤ aim ∧ a = 0
  | m + 1, g, σ, a => ∃ j, j < 4 ∧ ¬ (j ≠ 0 ∧ lc (j - 1) = 0) ∧ lz (xs (nxtZ X lc cl (D + g) σ j)) ≤ cei ∧ ∃ a', rchZ m (g + 1) (nxtZ X lc cl (D + g) σ j) a' ∧ a = muN lc j + a'
variable {X lc cl D aim cei}
theorem nxt_m (hT : wfT X) {d : Nat} (hd : d < 400) {σ τ : Nat → Int} (h : xs σ ≤ xs τ) (j : Nat) : xs (nxtZ X lc cl d σ j) ≤ xs (nxtZ X lc cl d τ j) := by
  unfold nxtZ
  rw [xs_add, xs_add, xs_add, xs_add]
  have : xs (fun c => dG X c d (lz (xs σ))) ≤ xs (fun c => dG X c d (lz (xs τ))) := zS_le (fun c hc => dG_m hT hc hd (lz_m h))
  omega
theorem rch_m (hT : wfT X) : ∀ m g, D + g + m ≤ 400 → ∀ {σ τ : Nat → Int}, xs σ ≤ xs τ → ∀ a, rchZ X lc cl D aim cei m g τ a → rchZ X lc cl D aim cei m g σ a := by
  intro m
  induction m with
  | zero =>
    intro g hg σ τ h a hr
    exact ⟨Int.le_trans (lz_m h) hr.1, hr.2⟩
  | succ m ih =>
    intro g hg σ τ h a hr
    obtain ⟨j, j1, j2, j3, a', j4, j5⟩ := hr
    have hn := nxt_m (lc := lc) (cl := cl) hT (d := D + g) (by omega) h j
    exact ⟨j, j1, j2, Int.le_trans (lz_m hn) j3, a', ih (g + 1) (by omega) hn a' j4, j5⟩
theorem leB_m {b : bst} {v w : Nat} (h : leB b v) (hw : v ≤ w) : leB b w := by
  cases b with
  | none => exact h
  | some x => exact Nat.le_trans h hw
theorem okB_n {b : bst} {v : Nat} : ¬ okB b v = true ↔ leB b v := by
  cases b with
  | none => exact ⟨fun h => absurd rfl h, fun h => h.elim⟩
  | some x =>
    show ¬ decide (v < x.1) = true ↔ x.1 ≤ v
    rw [decide_eq_true_iff]
    omega
/-- a child that can't better leaves all -/
theorem chd_n : ∀ m g (σ : Nat → Int) (lit : Nat) (ch : Nat → Nat) (b : bst), (∀ a, rchZ X lc cl D aim cei (m + 1) g σ a → leB b (lit + a)) → ∀ j, j < 4 → chdZ X lc cl D cei (nodeZ X lc cl D aim cei m (g + 1)) g σ lit ch j b = b := by
  intro m
  induction m with
  | zero =>
    intro g σ lit ch b h j hj
    unfold chdZ
    by_cases h1 : j ≠ 0 ∧ lc (j - 1) = 0
    · rw [if_pos h1]
    · rw [if_neg h1]
      by_cases h2 : ¬ okB b (lit + muN lc j) = true
      · rw [if_pos h2]
      · rw [if_neg h2]
        by_cases h3 : cei < lz (xs (nxtZ X lc cl (D + g) σ j))
        · rw [if_pos h3]
        · rw [if_neg h3]
          show (if lz (xs (nxtZ X lc cl (D + g) σ j)) ≤ aim then _ else b) = b
          by_cases h4 : lz (xs (nxtZ X lc cl (D + g) σ j)) ≤ aim
          · exact absurd (okB_n.mpr (h (muN lc j) ⟨j, hj, h1, by omega, 0, ⟨h4, rfl⟩, by omega⟩)) h2
          · rw [if_neg h4]
  | succ m ih =>
    intro g σ lit ch b h j hj
    unfold chdZ
    by_cases h1 : j ≠ 0 ∧ lc (j - 1) = 0
    · rw [if_pos h1]
    · rw [if_neg h1]
      by_cases h2 : ¬ okB b (lit + muN lc j) = true
      · rw [if_pos h2]
      · rw [if_neg h2]
        by_cases h3 : cei < lz (xs (nxtZ X lc cl (D + g) σ j))
        · rw [if_pos h3]
        · rw [if_neg h3]
          have hq := ih (g + 1) (nxtZ X lc cl (D + g) σ j) (lit + muN lc j) (updN ch g j) b (fun a ha => by
            have := h (muN lc j + a) ⟨j, hj, h1, by omega, a, ha, rfl⟩
            rw [Nat.add_assoc]; exact this)
          have hk : ∀ r i, r + i = 4 → kidZ X lc cl D cei (nodeZ X lc cl D aim cei m (g + 1 + 1)) (g + 1) (nxtZ X lc cl (D + g) σ j) (lit + muN lc j) (updN ch g j) r i b = b := by
            intro r
            induction r with
            | zero => intro i _; rfl
            | succ r ihr =>
              intro i hi
              show kidZ X lc cl D cei (nodeZ X lc cl D aim cei m (g + 1 + 1)) (g + 1) (nxtZ X lc cl (D + g) σ j) (lit + muN lc j) (updN ch g j) r (i + 1) (chdZ X lc cl D cei (nodeZ X lc cl D aim cei m (g + 1 + 1)) (g + 1) (nxtZ X lc cl (D + g) σ j) (lit + muN lc j) (updN ch g j) i b) = b
              rw [hq i (by omega)]
              exact ihr (i + 1) (by omega)
          exact hk 4 0 rfl
theorem node_n {m g : Nat} {σ : Nat → Int} {lit : Nat} {ch : Nat → Nat} {b : bst} (h : ∀ a, rchZ X lc cl D aim cei (m + 1) g σ a → leB b (lit + a)) : nodeZ X lc cl D aim cei (m + 1) g σ lit ch b = b := by
  have hq := chd_n m g σ lit ch b h
  have hk : ∀ r i, r + i = 4 → kidZ X lc cl D cei (nodeZ X lc cl D aim cei m (g + 1)) g σ lit ch r i b = b := by
    intro r
    induction r with
    | zero => intro i _; rfl
    | succ r ihr =>
      intro i hi
      show kidZ X lc cl D cei (nodeZ X lc cl D aim cei m (g + 1)) g σ lit ch r (i + 1) (chdZ X lc cl D cei (nodeZ X lc cl D aim cei m (g + 1)) g σ lit ch i b) = b
      rw [hq i (by omega)]
      exact ihr (i + 1) (by omega)
  exact hk 4 0 rfl
/-- the search never loses, and finds what can be reached -/
theorem node_b : ∀ m g (σ : Nat → Int) (lit : Nat) (ch : Nat → Nat) (b : bst), okB b lit = true → (∀ v, leB b v → leB (nodeZ X lc cl D aim cei m g σ lit ch b) v) ∧ ∀ a, rchZ X lc cl D aim cei m g σ a → leB (nodeZ X lc cl D aim cei m g σ lit ch b) (lit + a) := by
  intro m
  induction m with
  | zero =>
    intro g σ lit ch b hok
    show (∀ v, leB b v → leB (if lz (xs σ) ≤ aim then some (lit, ch) else b) v) ∧ ∀ a, (lz (xs σ) ≤ aim ∧ a = 0) → leB (if lz (xs σ) ≤ aim then some (lit, ch) else b) (lit + a)
    by_cases h : lz (xs σ) ≤ aim
    · rw [if_pos h]
      refine ⟨fun v hv => ?_, fun a _ => Nat.le_add_right _ _⟩
      cases b with
      | none => exact hv.elim
      | some w =>
        have := of_decide_eq_true hok
        have h2 : w.1 ≤ v := hv
        show lit ≤ v
        omega
    · rw [if_neg h]
      exact ⟨fun v hv => hv, fun a ha => absurd ha.1 h⟩
  | succ m ih =>
    intro g σ lit ch b hok
    have hc : ∀ j b, (∀ v, leB b v → leB (chdZ X lc cl D cei (nodeZ X lc cl D aim cei m (g + 1)) g σ lit ch j b) v) ∧ (¬ (j ≠ 0 ∧ lc (j - 1) = 0) → lz (xs (nxtZ X lc cl (D + g) σ j)) ≤ cei → ∀ a', rchZ X lc cl D aim cei m (g + 1) (nxtZ X lc cl (D + g) σ j) a' → leB (chdZ X lc cl D cei (nodeZ X lc cl D aim cei m (g + 1)) g σ lit ch j b) (lit + (muN lc j + a'))) := by
      intro j b
      unfold chdZ
      by_cases h1 : j ≠ 0 ∧ lc (j - 1) = 0
      · rw [if_pos h1]; exact ⟨fun v hv => hv, fun z => absurd h1 z⟩
      · rw [if_neg h1]
        by_cases h2 : ¬ okB b (lit + muN lc j) = true
        · rw [if_pos h2]
          exact ⟨fun v hv => hv, fun _ _ a' _ => leB_m (okB_n.mp h2) (by omega)⟩
        · rw [if_neg h2]
          by_cases h3 : cei < lz (xs (nxtZ X lc cl (D + g) σ j))
          · rw [if_pos h3]; exact ⟨fun v hv => hv, fun _ z => absurd h3 (by omega)⟩
          · rw [if_neg h3]
            obtain ⟨i1, i2⟩ := ih (g + 1) (nxtZ X lc cl (D + g) σ j) (lit + muN lc j) (updN ch g j) b (Classical.not_not.mp h2)
            exact ⟨i1, fun _ _ a' ha => by rw [← Nat.add_assoc]; exact i2 a' ha⟩
    have hk : ∀ r i b, r + i = 4 → (∀ v, leB b v → leB (kidZ X lc cl D cei (nodeZ X lc cl D aim cei m (g + 1)) g σ lit ch r i b) v) ∧ ∀ j, i ≤ j → j < 4 → ¬ (j ≠ 0 ∧ lc (j - 1) = 0) → lz (xs (nxtZ X lc cl (D + g) σ j)) ≤ cei → ∀ a', rchZ X lc cl D aim cei m (g + 1) (nxtZ X lc cl (D + g) σ j) a' → leB (kidZ X lc cl D cei (nodeZ X lc cl D aim cei m (g + 1)) g σ lit ch r i b) (lit + (muN lc j + a')) := by
      intro r
      induction r with
      | zero => intro i b hi; exact ⟨fun v hv => hv, fun j j1 j2 => absurd j2 (by omega)⟩
      | succ r ihr =>
        intro i b hi
        obtain ⟨c1, c2⟩ := hc i b
        obtain ⟨k1, k2⟩ := ihr (i + 1) (chdZ X lc cl D cei (nodeZ X lc cl D aim cei m (g + 1)) g σ lit ch i b) (by omega)
        refine ⟨fun v hv => k1 v (c1 v hv), fun j j1 j2 j3 j4 a' ha => ?_⟩
        by_cases z : j = i
        · subst z; exact k1 _ (c2 j3 j4 a' ha)
        · exact k2 j (by omega) j2 j3 j4 a' ha
    obtain ⟨k1, k2⟩ := hk 4 0 b rfl
    exact ⟨k1, fun a ha => by
      obtain ⟨j, j1, j2, j3, a', j4, rfl⟩ := ha
      exact k2 j (Nat.zero_le _) j1 j2 j3 a' j4⟩
end SE
