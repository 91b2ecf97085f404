/-! THE GROUND, purely -/
def nC (X : Nat → Nat → Int32) : Nat := (X 80 45).toNatClampNeg
def nNow (X : Nat → Nat → Int32) : Nat := if X 80 46 = -1 then nC X else (X 80 46).toNatClampNeg
def vdN (X : Nat → Nat → Int32) (n : Nat) : Nat := (X 112 n).toNatClampNeg
def dyN (X : Nat → Nat → Int32) (n : Nat) : Nat := (X 108 n).toNatClampNeg
def thN (X : Nat → Nat → Int32) (n : Nat) : Nat := (X 111 n).toNatClampNeg
def clN (X : Nat → Nat → Int32) (n : Nat) : Nat := (X 109 n).toNatClampNeg
def kn (X : Nat → Nat → Int32) (n : Nat) : Bool := decide (1 ≤ n ∧ n ≤ nNow X ∧ (vdN X n = 0 ∨ nNow X < vdN X n))
def wfA (X : Nat → Nat → Int32) (n : Nat) : Prop := (X 112 n = nI (vdN X n) ∧ vdN X n ≤ nC X) ∧ X 108 n = nI (dyN X n) ∧ dyN X n < 400 ∧
  ((X 107 n = 0 ∧ X 111 n = nI (thN X n) ∧ dyN X n ≤ thN X n ∧ thN X n < 400 ∧ 1 ≤ (X 109 n).toInt ∧ (X 109 n).toInt ≤ 1000 ∧ -20000 ≤ (X 110 n).toInt ∧ (X 110 n).toInt ≤ 20000) ∨
   (X 107 n = 1 ∧ X 109 n = nI (clN X n) ∧ clN X n < 16 ∧ 1 ≤ (X 110 n).toInt ∧ (X 110 n).toInt ≤ 1000) ∨
   (X 107 n = 2 ∧ X 109 n = nI (clN X n) ∧ clN X n < 16) ∨
   (X 107 n = 3 ∧ X 109 n = nI (clN X n) ∧ clN X n < 4 ∧ -1000000000 ≤ (X 110 n).toInt ∧ (X 110 n).toInt ≤ 1000000000) ∨
   X 107 n = 4 ∨ X 107 n = 5)
/-- the book stands well -/
def wfB (X : Nat → Nat → Int32) : Prop := (X 80 45 = nI (nC X) ∧ nC X ≤ 200) ∧ (X 80 46 = -1 ∨ (X 80 46 = nI (X 80 46).toNatClampNeg ∧ (X 80 46).toNatClampNeg ≤ nC X)) ∧ (∀ n, 1 ≤ n → n ≤ nC X → wfA X n)
/-- the tower stands well -/
def wfT (X : Nat → Nat → Int32) : Prop := (∀ c, c < 16 → 1 ≤ (X 94 c).toInt ∧ (X 94 c).toInt ≤ 1000) ∧ (∀ j, X 94 j ≤ 1000) ∧
  (∀ r, r < 8 → (0 ≤ (X 95 r).toInt ∧ (X 95 r).toInt ≤ 5000) ∧ (0 ≤ (X 96 r).toInt ∧ (X 96 r).toInt ≤ 100) ∧ (-500 ≤ (X 97 r).toInt ∧ (X 97 r).toInt ≤ 500) ∧ (1 ≤ (X 98 r).toInt ∧ (X 98 r).toInt ≤ 100) ∧ (0 ≤ (X 99 r).toInt ∧ (X 99 r).toInt ≤ 1000000)) ∧
  (∀ d, d < 400 → 0 ≤ (X 100 d).toInt ∧ (X 100 d).toInt ≤ 100)
def gT (X : Nat → Nat → Int32) (f : Nat → Bool) (d : Nat) : Int := zS (fun i => if f (i + 1) = true ∧ X 107 (i + 1) = 0 ∧ dyN X (i + 1) ≤ d ∧ d ≤ thN X (i + 1) then (X 109 (i + 1)).toInt else 0) (nC X)
def gM (X : Nat → Nat → Int32) (f : Nat → Bool) (d : Nat) : Int := zS (fun i => if f (i + 1) = true ∧ X 107 (i + 1) = 0 ∧ dyN X (i + 1) ≤ d ∧ d ≤ thN X (i + 1) then (X 109 (i + 1)).toInt * (X 110 (i + 1)).toInt else 0) (nC X)
def gLi (X : Nat → Nat → Int32) (f : Nat → Bool) (c d : Nat) : Int := zS (fun i => if f (i + 1) = true ∧ X 107 (i + 1) = 1 ∧ dyN X (i + 1) = d ∧ clN X (i + 1) = c then (X 110 (i + 1)).toInt else 0) (nC X)
def gLd (X : Nat → Nat → Int32) (f : Nat → Bool) (d : Nat) : Int := zS (fun i => if f (i + 1) = true ∧ X 107 (i + 1) = 1 ∧ dyN X (i + 1) = d then (X 110 (i + 1)).toInt else 0) (nC X)
def gFr (X : Nat → Nat → Int32) (f : Nat → Bool) (c d : Nat) : Int := zS (fun i => if f (i + 1) = true ∧ X 107 (i + 1) = 2 ∧ dyN X (i + 1) = d ∧ clN X (i + 1) = c then 1 else 0) (nC X)
def oh (X : Nat → Nat → Int32) (r : Nat) (l : Int) : Int := (X 97 r).toInt + (X 96 r).toInt * l / 1000000
def tot (X : Nat → Nat → Int32) (d : Nat) : Int := zS (fun r => (X 95 r).toInt) 8 + gT X (kn X) d
def mom (X : Nat → Nat → Int32) (d : Nat) (l : Int) : Int := zS (fun r => (X 95 r).toInt * oh X r l) 8 + gM X (kn X) d
def ldZ (t m : Int) (c : Nat) : Int := max 0 ((t * 42500 + m * (2 * c - 15)) / 680000)
def watZ (X : Nat → Nat → Int32) (d : Nat) : Int := (wf 50 (X 101) (X 100) d).toInt
def wkZ (X : Nat → Nat → Int32) (f : Nat → Bool) (c d : Nat) : Int := 50 * gLi X f c d - 2000 * gFr X f c d + (if 0 < d then 3000 * gFr X f c (d - 1) else 0)
def prZ (X : Nat → Nat → Int32) (c d : Nat) (l : Int) : Int := ldZ (tot X d) (mom X d l) c * (100 + watZ X d) / (10 * (X 94 c).toInt)
def dG (X : Nat → Nat → Int32) (c d : Nat) (l : Int) : Int := prZ X c d l + wkZ X (kn X) c d
def lz (s : Int) : Int := max (-1000000000) (min 1000000000 (1000 * s / 1360))
def xs (s : Nat → Int) : Int := zS (fun c => (2 * (c : Int) - 15) * s c) 16
def pS (X : Nat → Nat → Int32) : Nat → (Nat → Int) × Int
  | 0 => (fun _ => 0, 0)
  | D + 1 => (fun c => (pS X D).1 c + dG X c D (pS X D).2, lz (xs (fun c => (pS X D).1 c + dG X c D (pS X D).2)))
/-! bounds -/
theorem mulB {a b A B : Int} (ha : -A ≤ a ∧ a ≤ A) (hb : -B ≤ b ∧ b ≤ B) : -(A * B) ≤ a * b ∧ a * b ≤ A * B := by
  have h1 : a.natAbs ≤ A.natAbs := by omega
  have h2 : b.natAbs ≤ B.natAbs := by omega
  have h3 : (a * b).natAbs ≤ (A * B).natAbs := by rw [Int.natAbs_mul, Int.natAbs_mul]; exact Nat.mul_le_mul h1 h2
  have h4 : 0 ≤ A * B := Int.mul_nonneg (by omega) (by omega)
  omega
theorem divB {a b A : Int} (ha : -A ≤ a ∧ a ≤ A) (hb : 0 < b) : -A ≤ a / b ∧ a / b ≤ A := by
  constructor
  · rcases Int.le_total 0 a with h | h
    · have := Int.ediv_nonneg h (by omega : 0 ≤ b); omega
    · have h2 : -A * b ≤ a := by
        have : A * 1 ≤ A * b := Int.mul_le_mul_of_nonneg_left (by omega) (by omega)
        rw [Int.neg_mul]; omega
      exact Int.le_ediv_of_mul_le hb h2
  · rcases Int.le_total 0 a with h | h
    · exact Int.le_trans (Int.ediv_le_self b h) ha.2
    · have : a / b ≤ 0 := Int.ediv_le_of_le_mul hb (by omega)
      omega
theorem wf_b {b : Int32} {f g : Nat → Int32} {A B : Int} (hb : A ≤ b.toInt ∧ b.toInt ≤ B) : ∀ {d : Nat}, (∀ k, k ≤ d → A ≤ (g k).toInt ∧ (g k).toInt ≤ B) → A ≤ (wf b f g d).toInt ∧ (wf b f g d).toInt ≤ B := by
  intro d
  induction d with
  | zero =>
    intro h
    show A ≤ (if f 0 = 0 then b else g 0).toInt ∧ _
    by_cases c : f 0 = 0
    · simp only [wf, if_pos c]; exact hb
    · simp only [wf, if_neg c]; exact h 0 (Nat.le_refl _)
  | succ d ih =>
    intro h
    by_cases c : f (d + 1) = 0
    · simp only [wf, if_pos c]; exact ih (fun k hk => h k (by omega))
    · simp only [wf, if_neg c]; exact h (d + 1) (Nat.le_refl _)
section PB64
variable {X : Nat → Nat → Int32} {f : Nat → Bool}
theorem wat_b (hT : wfT X) {d : Nat} (hd : d < 400) : 0 ≤ watZ X d ∧ watZ X d ≤ 100 := wf_b ⟨by decide, by decide⟩ (fun k hk => hT.2.2.2 k (by omega))
theorem gT_b (hB : wfB X) (d : Nat) : -200000 ≤ gT X f d ∧ gT X f d ≤ 200000 := by
  have h := zS_b (f := fun i => if f (i + 1) = true ∧ X 107 (i + 1) = 0 ∧ dyN X (i + 1) ≤ d ∧ d ≤ thN X (i + 1) then (X 109 (i + 1)).toInt else 0) (B := 1000) (n := nC X) (fun i hi => by
    split
    · rename_i h
      obtain ⟨_, _, _, a | a | a | a | a | a⟩ := hB.2.2 (i + 1) (by omega) (by omega)
      · omega
      all_goals (exfalso; have := h.2.1; rw [this] at a; revert a; first | (rintro ⟨a, _⟩; revert a; decide) | decide)
    · omega)
  have := hB.1.2
  unfold gT
  omega
theorem gM_b (hB : wfB X) (d : Nat) : -4000000000 ≤ gM X f d ∧ gM X f d ≤ 4000000000 := by
  have h := zS_b (f := fun i => if f (i + 1) = true ∧ X 107 (i + 1) = 0 ∧ dyN X (i + 1) ≤ d ∧ d ≤ thN X (i + 1) then (X 109 (i + 1)).toInt * (X 110 (i + 1)).toInt else 0) (B := 20000000) (n := nC X) (fun i hi => by
    split
    · rename_i h
      obtain ⟨_, _, _, a | a | a | a | a | a⟩ := hB.2.2 (i + 1) (by omega) (by omega)
      · exact mulB (A := 1000) (B := 20000) (by omega) (by omega)
      all_goals (exfalso; have := h.2.1; rw [this] at a; revert a; first | (rintro ⟨a, _⟩; revert a; decide) | decide)
    · omega)
  have := hB.1.2
  unfold gM
  omega
theorem gLi_b (hB : wfB X) (c d : Nat) : 0 ≤ gLi X f c d ∧ gLi X f c d ≤ 200000 := by
  have h0 : ∀ i, i < nC X → 0 ≤ (if f (i + 1) = true ∧ X 107 (i + 1) = 1 ∧ dyN X (i + 1) = d ∧ clN X (i + 1) = c then (X 110 (i + 1)).toInt else 0) ∧ (if f (i + 1) = true ∧ X 107 (i + 1) = 1 ∧ dyN X (i + 1) = d ∧ clN X (i + 1) = c then (X 110 (i + 1)).toInt else 0) ≤ 1000 := by
    intro i hi
    split
    · rename_i h
      obtain ⟨_, _, _, a | a | a | a | a | a⟩ := hB.2.2 (i + 1) (by omega) (by omega)
      · exfalso; have := h.2.1; rw [this] at a; revert a; rintro ⟨a, _⟩; revert a; decide
      · omega
      all_goals (exfalso; have := h.2.1; rw [this] at a; revert a; first | (rintro ⟨a, _⟩; revert a; decide) | decide)
    · omega
  have h := zS_b (B := 1000) (n := nC X) (fun i hi => ⟨by have := h0 i hi; omega, (h0 i hi).2⟩)
  have h2 := zS_0 (n := nC X) (fun i hi => (h0 i hi).1)
  have := hB.1.2
  unfold gLi
  omega
theorem gFr_b (hB : wfB X) (c d : Nat) : 0 ≤ gFr X f c d ∧ gFr X f c d ≤ 200 := by
  have h0 : ∀ i, i < nC X → 0 ≤ (if f (i + 1) = true ∧ X 107 (i + 1) = 2 ∧ dyN X (i + 1) = d ∧ clN X (i + 1) = c then (1 : Int) else 0) ∧ (if f (i + 1) = true ∧ X 107 (i + 1) = 2 ∧ dyN X (i + 1) = d ∧ clN X (i + 1) = c then (1 : Int) else 0) ≤ 1 := by
    intro i hi
    split <;> omega
  have h := zS_b (B := 1) (n := nC X) (fun i hi => ⟨by have := h0 i hi; omega, (h0 i hi).2⟩)
  have h2 := zS_0 (n := nC X) (fun i hi => (h0 i hi).1)
  have := hB.1.2
  unfold gFr
  omega
theorem wkZ_b (hB : wfB X) (c d : Nat) : -12000000 ≤ wkZ X f c d ∧ wkZ X f c d ≤ 12000000 := by
  have h1 := gLi_b (f := f) hB c d
  have h2 := gFr_b (f := f) hB c d
  have h3 := gFr_b (f := f) hB c (d - 1)
  unfold wkZ
  split <;> omega
theorem oh_b (hT : wfT X) {r : Nat} (hr : r < 8) {l : Int} (hl : -1000000000 ≤ l ∧ l ≤ 1000000000) : (-100000000000 ≤ (X 96 r).toInt * l ∧ (X 96 r).toInt * l ≤ 100000000000) ∧ -100501 ≤ oh X r l ∧ oh X r l ≤ 100501 := by
  have h := hT.2.2.1 r hr
  have h1 := mulB (a := (X 96 r).toInt) (b := l) (A := 100) (B := 1000000000) (by omega) hl
  unfold oh
  omega
theorem tot_b (hT : wfT X) (hB : wfB X) (d : Nat) : -300000 ≤ tot X d ∧ tot X d ≤ 300000 := by
  have h := zS_b (f := fun r => (X 95 r).toInt) (B := 5000) (n := 8) (fun r hr => by have := hT.2.2.1 r hr; omega)
  have h2 := gT_b (f := kn X) hB d
  unfold tot
  omega
theorem momr_b (hT : wfT X) {r : Nat} (hr : r < 8) {l : Int} (hl : -1000000000 ≤ l ∧ l ≤ 1000000000) : -502505000 ≤ (X 95 r).toInt * oh X r l ∧ (X 95 r).toInt * oh X r l ≤ 502505000 := by
  have h := hT.2.2.1 r hr
  exact mulB (A := 5000) (B := 100501) (by omega) (oh_b hT hr hl).2
theorem mom_b (hT : wfT X) (hB : wfB X) (d : Nat) {l : Int} (hl : -1000000000 ≤ l ∧ l ≤ 1000000000) : -9000000000 ≤ mom X d l ∧ mom X d l ≤ 9000000000 := by
  have h := zS_b (f := fun r => (X 95 r).toInt * oh X r l) (B := 502505000) (n := 8) (fun r hr => momr_b hT hr hl)
  have h2 := gM_b (f := kn X) hB d
  unfold mom
  omega
theorem ldin_b {t m : Int} {c : Nat} (hc : c < 16) (ht : -300000 ≤ t ∧ t ≤ 300000) (hm : -9000000000 ≤ m ∧ m ≤ 9000000000) : -160000000000 ≤ t * 42500 + m * (2 * c - 15) ∧ t * 42500 + m * (2 * c - 15) ≤ 160000000000 := by
  have h1 := mulB (a := m) (b := 2 * (c : Int) - 15) (A := 9000000000) (B := 15) hm (by omega)
  omega
theorem ldZ_b {t m : Int} {c : Nat} (hc : c < 16) (ht : -300000 ≤ t ∧ t ≤ 300000) (hm : -9000000000 ≤ m ∧ m ≤ 9000000000) : 0 ≤ ldZ t m c ∧ ldZ t m c ≤ 240000 := by
  have h1 := ldin_b hc ht hm
  unfold ldZ
  omega
theorem prin_b (hT : wfT X) {c d : Nat} {t m : Int} (hc : c < 16) (hd : d < 400) (ht : -300000 ≤ t ∧ t ≤ 300000) (hm : -9000000000 ≤ m ∧ m ≤ 9000000000) : 0 ≤ ldZ t m c * (100 + watZ X d) ∧ ldZ t m c * (100 + watZ X d) ≤ 48000000 := by
  have h1 := ldZ_b hc ht hm
  have h2 := wat_b hT hd
  have h3 := mulB (a := ldZ t m c) (b := 100 + watZ X d) (A := 240000) (B := 200) (by omega) (by omega)
  exact ⟨Int.mul_nonneg h1.1 (by omega), by omega⟩
theorem dG_b (hT : wfT X) (hB : wfB X) {c d : Nat} {l : Int} (hc : c < 16) (hd : d < 400) (hl : -1000000000 ≤ l ∧ l ≤ 1000000000) : (0 ≤ prZ X c d l ∧ prZ X c d l ≤ 48000000) ∧ -60000000 ≤ dG X c d l ∧ dG X c d l ≤ 60000000 := by
  have h1 := prin_b (X := X) (c := c) (d := d) hT hc hd (tot_b hT hB d) (mom_b hT hB d hl)
  have h2 := hT.1 c hc
  have h3 := divB (a := ldZ (tot X d) (mom X d l) c * (100 + watZ X d)) (b := 10 * (X 94 c).toInt) (A := 48000000) (by omega) (by omega)
  have h4 : 0 ≤ prZ X c d l := Int.ediv_nonneg h1.1 (by omega)
  have h5 := wkZ_b (f := kn X) hB c d
  have h6 : prZ X c d l ≤ 48000000 := h3.2
  unfold dG
  omega
theorem lz_b (s : Int) : -1000000000 ≤ lz s ∧ lz s ≤ 1000000000 := by unfold lz; omega
theorem pS_b (hT : wfT X) (hB : wfB X) : ∀ D : Nat, D ≤ 400 → (∀ c, c < 16 → -(60000000 * (D : Int)) ≤ (pS X D).1 c ∧ (pS X D).1 c ≤ 60000000 * (D : Int)) ∧ -1000000000 ≤ (pS X D).2 ∧ (pS X D).2 ≤ 1000000000 := by
  intro D
  induction D with
  | zero => intro _; exact ⟨fun c _ => ⟨by show -(60000000 * (0 : Int)) ≤ 0; omega, by show (0 : Int) ≤ 60000000 * (0 : Int); omega⟩, by show (-1000000000 : Int) ≤ 0; omega, by show (0 : Int) ≤ 1000000000; omega⟩
  | succ D ih =>
    intro h
    have h1 := ih (by omega)
    refine ⟨fun c hc => ?_, lz_b _⟩
    have h2 := h1.1 c hc
    have h3 := (dG_b hT hB (c := c) (d := D) hc (by omega) h1.2).2
    show _ ≤ (pS X D).1 c + dG X c D (pS X D).2 ∧ (pS X D).1 c + dG X c D (pS X D).2 ≤ _
    push_cast
    omega
theorem xs_b {s : Nat → Int} {B : Int} (h : ∀ c, c < 16 → -B ≤ s c ∧ s c ≤ B) : -(240 * B) ≤ xs s ∧ xs s ≤ 240 * B := by
  have h1 := zS_b (f := fun c => (2 * (c : Int) - 15) * s c) (B := 15 * B) (n := 16) (fun c hc => mulB (A := 15) (B := B) (by omega) (h c hc))
  unfold xs
  omega
end PB64
