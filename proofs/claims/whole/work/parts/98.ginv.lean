/-! THE WHOLE INVARIANT -/
/-- the reader's side -/
def rInv (kk : Nat → Nat × Nat) (I : Nat → Nat → Int32) (tx : Nat → Nat) (T : Nat) : Prop := rdH tx T I ∧ rdW kk I ∧ I 80 1 = nI T ∧ (∀ i, i < T → I 81 i = nI (tx i)) ∧ I 57 12 = I 80 10 ∧ I 57 13 = I 80 11
/-- what is told of days -/
def tInv (I : Nat → Nat → Int32) : Prop := (∀ d, d < 400 → (I 3 d = 0 ↔ I 101 d = 0)) ∧ (∀ d, d < 400 → (I 6 d = 0 ↔ I 103 d = 0)) ∧ (∀ d, d < 400 → I 5 d = wf 0 (I 103) (I 102) d) ∧ (∀ d, d < 400 → -20 ≤ (I 102 d).toInt ∧ (I 102 d).toInt ≤ 50)
/-- the gauges -/
def uInv (I : Nat → Nat → Int32) : Prop := ∀ g, g < 4 → (I 65 g = I 104 g ∧ I 66 g = I 105 g ∧ I 67 g = I 106 g) ∧ (-100 ≤ (I 104 g).toInt ∧ (I 104 g).toInt ≤ 100) ∧ (-1000 ≤ (I 105 g).toInt ∧ (I 105 g).toInt ≤ 1000) ∧ (0 ≤ (I 106 g).toInt ∧ (I 106 g).toInt ≤ 1000000)
/-- the pipes that draw -/
def sInv (I : Nat → Nat → Int32) : Prop := (∀ k, k < 3 → I 72 k = I 121 k ∧ I 73 k = I 122 k ∧ (0 ≤ (I 121 k).toInt ∧ (I 121 k).toInt < 16) ∧ (0 ≤ (I 122 k).toInt ∧ (I 122 k).toInt ≤ 1000)) ∧ ((I 71 10 = 0 ∧ I 80 68 = -1) ∨ ∃ N, 1 ≤ N ∧ N ≤ 8 ∧ I 71 10 = nI N ∧ I 80 68 = nI N ∧ ∀ i, i < N → I 124 i = (if 0 ≤ I 75 i then I 75 i else -2))
/-- the sum over a set's bits -/
def bsZ (f : Nat → Int) (s : Nat) : Nat → Int
  | 0 => 0
  | k + 1 => bsZ f s k + (if s / 2 ^ k % 2 = 1 then f k else 0)
/-- the causes -/
def cInv (I : Nat → Nat → Int32) : Prop := ∃ N, N ≤ 10 ∧ I 77 2 = nI N ∧ I 80 71 = nI N ∧ (∀ k, k < N → -1000000 ≤ (I 125 k).toInt ∧ (I 125 k).toInt ≤ 1000000 ∧ -1000000 ≤ (I 126 k).toInt ∧ (I 126 k).toInt ≤ 1000000) ∧ ∀ s, s < 2 ^ N → I 78 s = jI (bsZ (fun k => (I 125 k).toInt) s N) ∧ I 79 s = jI (bsZ (fun k => (I 126 k).toInt) s N)
/-- breaches -/
def muZ (X : Nat → Nat → Int32) (n : Nat) : Int32 := if X 107 n = 0 then X 109 n else if X 107 n = 1 then X 110 n else 1
def isB (X : Nat → Nat → Int32) (M : Nat → List (Nat × Nat × List Nat)) (n : Nat) : Bool := decide (kn X n = true ∧ (X 107 n = 0 ∨ X 107 n = 1 ∨ X 107 n = 2) ∧ ¬ vdZ X M (X 107 n).toNatClampNeg (muZ X n) (dyN X n) = 0)
def brl (X : Nat → Nat → Int32) (M : Nat → List (Nat × Nat × List Nat)) : Nat → List Nat
  | 0 => []
  | k + 1 => if isB X M (k + 1) = true then brl X M k ++ [k + 1] else brl X M k
/-- the judge's memory -/
def jInv (b : Nat) (I : Nat → Nat → Int32) (C : Nat) (M : Nat → List (Nat × Nat × List Nat)) : Prop := ∃ u v : Nat, I 55 4 = nI u ∧ I 13 12 = nI v ∧ u ≤ b ∧ v ≤ b ∧ (I 60 10 = -1 ∨ ∃ u0 v0 : Nat, u0 ≤ u ∧ v0 ≤ v ∧ I 60 10 = nI u0 ∧ I 60 11 = nI v0 ∧ (u0 = u → v0 = v → I 60 9 = nI (brl I M C).length ∧ ∀ i, i < (brl I M C).length → I 63 i = nI ((brl I M C).getD i 0)))
def wInv (k n sl : Nat) (kk : Nat → Nat × Nat) (q : Nat → Nat → Option Nat) (I : Nat → Nat → Int32) (L : Nat → Nat → Int64) : Prop := ∃ C ah M tx T, gInv n kk q I L C ah M ∧ rInv kk I tx T ∧ tInv I ∧ uInv I ∧ sInv I ∧ cInv I ∧ jInv (201 * k) I C M ∧ n ≤ 131 + 2 * k ∧ sl ≤ 231806 + 820 * k
def hInv (k : Nat) (h : am_H) : Prop := ∃ n sl kk I L q, h = (n, sl, wKK kk, I, L, wQQ q) ∧ wInv k n sl kk q I L
/-! the breaches hang on the known acts -/
theorem rN_st {X : Nat → Nat → Int32} {D a : Nat} : ∀ b, (∀ k, a ≤ k → k < a + b → kn X (k + 1) = false) → rN X D (a + b) = rN X D a := by
  intro b
  induction b with
  | zero => intro _; rfl
  | succ b ih =>
    intro h
    show (if kn X (a + b + 1) = true ∧ _ then a + b + 1 else rN X D (a + b)) = _
    rw [if_neg (fun z => by rw [h (a + b) (by omega) (by omega)] at z; exact absurd z.1 (by decide))]
    exact ih (fun k k1 k2 => h k k1 (by omega))
theorem kn_hiF {X : Nat → Nat → Int32} {k : Nat} (h : nNow X ≤ k) : kn X (k + 1) = false := by
  unfold kn
  exact decide_eq_false (fun z => by omega)
theorem rN_nowk {X : Nat → Nat → Int32} {D k : Nat} (h : nNow X ≤ k) : rN X D k = rN X D (nNow X) := by
  have := rN_st (X := X) (D := D) (a := nNow X) (k - nNow X) (fun j j1 _ => kn_hiF j1)
  rw [show nNow X + (k - nNow X) = k by omega] at this
  exact this
theorem sXY_b {X Y : Nat → Nat → Int32} {f g : Nat → Bool} {C e0 : Nat} (hX : nC X = C) (hY : nC Y = C + e0) (hg : ∀ i, C ≤ i → i < C + e0 → g (i + 1) = false) (ha : aE X Y C) (hf : ∀ i, i < C → f (i + 1) = g (i + 1)) (d : Nat) : sXY X f Y g d := by
  have e : ∀ (P Q : Nat → Prop) (dP : ∀ i, Decidable (P i)) (dQ : ∀ i, Decidable (Q i)) (v w : Nat → Int), (∀ i, i < C → ((P i ↔ Q i) ∧ v i = w i)) → zS (fun i => if f (i + 1) = true ∧ P i then v i else 0) (nC X) = zS (fun i => if g (i + 1) = true ∧ Q i then w i else 0) (nC Y) := by
    intro P Q dP dQ v w h
    have e1 : zS (fun i => if f (i + 1) = true ∧ P i then v i else 0) C = zS (fun i => if g (i + 1) = true ∧ Q i then w i else 0) C := zS_c (fun i hi => by
      obtain ⟨h1, h2⟩ := h i hi
      show (if f (i + 1) = true ∧ P i then v i else 0) = (if g (i + 1) = true ∧ Q i then w i else 0)
      rw [hf i hi, h2]
      by_cases c : g (i + 1) = true ∧ P i
      · rw [if_pos c, if_pos ⟨c.1, h1.mp c.2⟩]
      · rw [if_neg c, if_neg (fun z => c ⟨z.1, h1.mpr z.2⟩)])
    rw [hX, e1, hY]
    clear hY
    induction e0 with
    | zero => rfl
    | succ e0 ih =>
      show _ = zS _ (C + e0) + (if g (C + e0 + 1) = true ∧ Q (C + e0) then w (C + e0) else 0)
      rw [if_neg (fun z => by rw [hg (C + e0) (by omega) (by omega)] at z; exact absurd z.1 (by decide)), Int.add_zero]
      exact ih (fun i i1 i2 => hg i i1 (by omega))
  have ea : ∀ i, i < C → X 107 (i + 1) = Y 107 (i + 1) ∧ dyN X (i + 1) = dyN Y (i + 1) ∧ thN X (i + 1) = thN Y (i + 1) ∧ clN X (i + 1) = clN Y (i + 1) ∧ X 109 (i + 1) = Y 109 (i + 1) ∧ X 110 (i + 1) = Y 110 (i + 1) := by
    intro i hi
    obtain ⟨h1, h2, h3, h4, h5⟩ := ha (i + 1) (by omega) (by omega)
    unfold dyN thN clN
    rw [h1, h2, h3, h4, h5]
    exact ⟨rfl, rfl, rfl, rfl, rfl, rfl⟩
  have eFr : ∀ c d, gFr X f c d = gFr Y g c d := fun c d => e (fun i => X 107 (i + 1) = 2 ∧ dyN X (i + 1) = d ∧ clN X (i + 1) = c) (fun i => Y 107 (i + 1) = 2 ∧ dyN Y (i + 1) = d ∧ clN Y (i + 1) = c) (fun i => inferInstance) (fun i => inferInstance) (fun _ => 1) (fun _ => 1) (fun i hi => by obtain ⟨h1, h2, h3, h4, h5, h6⟩ := ea i hi; rw [h1, h2, h4]; exact ⟨Iff.rfl, rfl⟩)
  have eLi : ∀ c d, gLi X f c d = gLi Y g c d := fun c d => e (fun i => X 107 (i + 1) = 1 ∧ dyN X (i + 1) = d ∧ clN X (i + 1) = c) (fun i => Y 107 (i + 1) = 1 ∧ dyN Y (i + 1) = d ∧ clN Y (i + 1) = c) (fun i => inferInstance) (fun i => inferInstance) (fun i => (X 110 (i + 1)).toInt) (fun i => (Y 110 (i + 1)).toInt) (fun i hi => by obtain ⟨h1, h2, h3, h4, h5, h6⟩ := ea i hi; rw [h1, h2, h4, h6]; exact ⟨Iff.rfl, rfl⟩)
  refine ⟨e (fun i => X 107 (i + 1) = 0 ∧ dyN X (i + 1) ≤ d ∧ d ≤ thN X (i + 1)) (fun i => Y 107 (i + 1) = 0 ∧ dyN Y (i + 1) ≤ d ∧ d ≤ thN Y (i + 1)) (fun i => inferInstance) (fun i => inferInstance) (fun i => (X 109 (i + 1)).toInt) (fun i => (Y 109 (i + 1)).toInt) (fun i hi => by obtain ⟨h1, h2, h3, h4, h5, h6⟩ := ea i hi; rw [h1, h2, h3, h5]; exact ⟨Iff.rfl, rfl⟩),
    e (fun i => X 107 (i + 1) = 0 ∧ dyN X (i + 1) ≤ d ∧ d ≤ thN X (i + 1)) (fun i => Y 107 (i + 1) = 0 ∧ dyN Y (i + 1) ≤ d ∧ d ≤ thN Y (i + 1)) (fun i => inferInstance) (fun i => inferInstance) (fun i => (X 109 (i + 1)).toInt * (X 110 (i + 1)).toInt) (fun i => (Y 109 (i + 1)).toInt * (Y 110 (i + 1)).toInt) (fun i hi => by obtain ⟨h1, h2, h3, h4, h5, h6⟩ := ea i hi; rw [h1, h2, h3, h5, h6]; exact ⟨Iff.rfl, rfl⟩),
    e (fun i => X 107 (i + 1) = 1 ∧ dyN X (i + 1) = d) (fun i => Y 107 (i + 1) = 1 ∧ dyN Y (i + 1) = d) (fun i => inferInstance) (fun i => inferInstance) (fun i => (X 110 (i + 1)).toInt) (fun i => (Y 110 (i + 1)).toInt) (fun i hi => by obtain ⟨h1, h2, h3, h4, h5, h6⟩ := ea i hi; rw [h1, h2, h6]; exact ⟨Iff.rfl, rfl⟩), fun c _ => ?_⟩
  unfold wkZ
  rw [eLi, eFr, eFr]
/-- the tower's rows alike, as far as lean and load look -/
def rT6 (X Y : Nat → Nat → Int32) : Prop := X 94 = Y 94 ∧ X 95 = Y 95 ∧ X 96 = Y 96 ∧ X 97 = Y 97
theorem pS_w {X Y : Nat → Nat → Int32} (hT : rT6 X Y) {R : Nat} (hw : ∀ d, d < R → watZ X d = watZ Y d) (h : ∀ d, d < R → sXY X (kn X) Y (kn Y) d) : ∀ D, D ≤ R → ((∀ c, c < 16 → (pS X D).1 c = (pS Y D).1 c) ∧ (pS X D).2 = (pS Y D).2) ∧ wsZ X D = wsZ Y D ∧ drZ X D = drZ Y D := by
  obtain ⟨t1, t2, t3, t4⟩ := hT
  intro D
  induction D with
  | zero => intro _; exact ⟨⟨fun c _ => rfl, rfl⟩, rfl, rfl⟩
  | succ D ih =>
    intro hD
    obtain ⟨⟨i1, i2⟩, i3, i4⟩ := ih (by omega)
    obtain ⟨s1, s2, s3, s4⟩ := h D (by omega)
    have eoh : ∀ l r, oh X r l = oh Y r l := fun l r => by unfold oh; rw [t4, t3]
    have etot : tot X D = tot Y D := by unfold tot; rw [t2, s1]
    have emom : ∀ l, mom X D l = mom Y D l := fun l => by
      unfold mom
      rw [t2, s2]
      exact congrArg (· + gM Y (kn Y) D) (zS_c (fun r _ => by rw [eoh]))
    have edG : ∀ c l, c < 16 → dG X c D l = dG Y c D l := fun c l hc => by
      unfold dG prZ
      rw [etot, emom, hw D (by omega), t1, s4 c hc]
    have e1 : ∀ c, c < 16 → (pS X (D + 1)).1 c = (pS Y (D + 1)).1 c := fun c hc => by
      show (pS X D).1 c + dG X c D (pS X D).2 = (pS Y D).1 c + dG Y c D (pS Y D).2
      rw [i1 c hc, i2, edG c _ hc]
    have e2 : (pS X (D + 1)).2 = (pS Y (D + 1)).2 := by
      show lz (xs (fun c => (pS X (D + 1)).1 c)) = lz (xs (fun c => (pS Y (D + 1)).1 c))
      refine congrArg lz ?_
      unfold xs
      exact zS_c (fun c hc => congrArg (fun z => (2 * (c : Int) - 15) * z) (e1 c hc))
    refine ⟨⟨e1, e2⟩, ?_, ?_⟩
    · show max (wsZ X D) (pS X (D + 1)).2 = max (wsZ Y D) (pS Y (D + 1)).2
      rw [i3, e2]
    · show drZ X D + gLd X (kn X) D = drZ Y D + gLd Y (kn Y) D
      rw [i4, s3]
section BRL
variable {X Y : Nat → Nat → Int32} {C e0 : Nat} {M M' : Nat → List (Nat × Nat × List Nat)}
theorem gr_b (hT : rT6 X Y) (hw : ∀ d, d < 400 → watZ X d = watZ Y d) (hs : ∀ d, sXY X (kn X) Y (kn Y) d) {D : Nat} (hD : D < 400) : (pS X D).2 = (pS Y D).2 ∧ ldF X D = ldF Y D ∧ fcF X D = fcF Y D := by
  have eoh : ∀ l r, oh X r l = oh Y r l := fun l r => by unfold oh; rw [hT.2.2.2, hT.2.2.1]
  obtain ⟨s1, s2, s3, s4⟩ := hs D
  have etot : tot X D = tot Y D := by unfold tot; rw [hT.2.1, s1]
  have emom : ∀ l, mom X D l = mom Y D l := fun l => by
    unfold mom
    rw [hT.2.1, s2]
    exact congrArg (· + gM Y (kn Y) D) (zS_c (fun r _ => by rw [eoh]))
  have ewat := hw D hD
  obtain ⟨⟨p1, p2⟩, p3, p4⟩ := pS_w hT (R := D) (fun d hd => hw d (by omega)) (fun d _ => hs d) D (Nat.le_refl _)
  obtain ⟨⟨_, p5⟩, _, _⟩ := pS_w hT (R := D) (fun d hd => hw d (by omega)) (fun d _ => hs d) (D - 1) (by omega)
  refine ⟨p2, funext fun c => ?_, funext fun i => ?_⟩
  · unfold ldF
    rw [etot, emom, p2]
  · unfold fcF fcZ
    rw [p2, p5, p3, ewat, s1, p4]
theorem brl_c (hB : wfB X) (hB' : wfB Y) (hX : nC X = C) (hY : nC Y = C + e0) (hk : ∀ i, i < C + e0 → kn Y (i + 1) = kn X (i + 1)) (ha : aE Y X C) (hT : rT6 X Y) (hw : ∀ d, d < 400 → watZ X d = watZ Y d) (hM : ∀ n, n ≤ C → M' n = M n) : brl Y M' (C + e0) = brl X M C := by
  have hnX : nNow X ≤ C := by rw [← hX]; exact (nNow_v hB).2
  have hnY : nNow Y ≤ C + e0 := by rw [← hY]; exact (nNow_v hB').2
  have hg : ∀ i, C ≤ i → i < C + e0 → kn Y (i + 1) = false := fun i i1 i2 => by rw [hk i i2]; exact kn_hiF (by omega)
  have ha' : aE X Y C := fun n n1 n2 => by obtain ⟨a1, a2, a3, a4, a5⟩ := ha n n1 n2; exact ⟨a1.symm, a2.symm, a3.symm, a4.symm, a5.symm⟩
  have hs := sXY_b hX hY hg ha' (fun i hi => (hk i (by omega)).symm)
  have hr : ∀ D k, k ≤ C → rN Y D k = rN X D k := by
    intro D k
    induction k with
    | zero => intro _; rfl
    | succ k ih =>
      intro hkC
      have hle := rN_le (X := X) (D := D) k
      have e1 := ih (by omega)
      obtain ⟨a1, a2, _⟩ := ha (k + 1) (by omega) (by omega)
      have ed : ∀ j, 1 ≤ j → j ≤ C → dyN Y j = dyN X j := fun j j1 j2 => by unfold dyN; rw [(ha j j1 j2).2.1]
      unfold rN
      rw [e1, hk k (by omega), a1, ed (k + 1) (by omega) (by omega)]
      by_cases z : rN X D k = 0
      · simp only [z, true_or, and_true]
      · rw [ed (rN X D k) (by omega) (by omega)]
  have hrn : ∀ D, rN Y D (nNow Y) = rN X D (nNow X) := fun D => by
    rw [← rN_nowk hnY, rN_st e0 hg, hr D C (Nat.le_refl _), rN_nowk hnX]
  have hv : ∀ W much D, D < 400 → vdZ Y M' W much D = vdZ X M W much D := fun W much D hD => by
    obtain ⟨g1, g2, g3⟩ := gr_b hT hw hs hD
    unfold vdZ
    rw [hrn D, hM _ (by have := rN_le (X := X) (D := D) (nNow X); omega)]
    have : vfZ Y D = vfZ X D := funext fun cs => by unfold vfZ; rw [g2, g3]
    rw [this]
  have h1 : ∀ k, k ≤ C → brl Y M' k = brl X M k := by
    intro k
    induction k with
    | zero => intro _; rfl
    | succ k ih =>
      intro hkC
      obtain ⟨a1, a2, a3, a4, a5⟩ := ha (k + 1) (by omega) (by omega)
      have : isB Y M' (k + 1) = isB X M (k + 1) := by
        unfold isB muZ dyN
        rw [hk k (by omega), a1, a2, a3, a4, hv _ _ (X 108 (k + 1)).toNatClampNeg (hB.2.2 (k + 1) (by omega) (by omega)).2.2.1]
      unfold brl
      rw [this, ih (by omega)]
  have h2 : ∀ e, e ≤ e0 → brl Y M' (C + e) = brl Y M' C := by
    intro e
    induction e with
    | zero => intro _; rfl
    | succ e ih =>
      intro he
      show (if isB Y M' (C + e + 1) = true then _ else brl Y M' (C + e)) = _
      rw [if_neg (fun z => by
        unfold isB at z
        have := (of_decide_eq_true z).1
        rw [hg (C + e) (by omega) (by omega)] at this
        exact absurd this (by decide))]
      exact ih (by omega)
  rw [h2 e0 (Nat.le_refl _), h1 C (Nat.le_refl _)]
end BRL
theorem jInv_f {b C C' : Nat} {I I' : Nat → Nat → Int32} {M M' : Nat → List (Nat × Nat × List Nat)} (hb : b ≤ 1000000) (h : jInv b I C M) (hB : wfB I) (hB' : wfB I') (hC : nC I = C) (hC' : nC I' = C') (hle : C ≤ C') (hc : cntF I I' C') (hT : rT6 I I') (hw : ∀ d, d < 400 → watZ I d = watZ I' d) (hM : ∀ n, n ≤ C → M' n = M n) (h60 : ∀ k, k ≠ 4 → I' 60 k = I 60 k) (h63 : I' 63 = I 63) : jInv (b + 201) I' C' M' := by
  obtain ⟨u, v, h1, h2, h3, h4, h5⟩ := h
  obtain ⟨m, m', c1, c2, c3, c4, c5, c6⟩ := hc
  refine ⟨u + m, v + m', by rw [c3, h1, nI_add], by rw [c4, h2, nI_add], by omega, by omega, ?_⟩
  rw [h60 10 (by decide), h60 11 (by decide), h60 9 (by decide), h63]
  rcases h5 with h5 | ⟨u0, v0, k1, k2, k3, k4, k5⟩
  · exact Or.inl h5
  · refine Or.inr ⟨u0, v0, by omega, by omega, k3, k4, fun e1 e2 => ?_⟩
    have hm : m = 0 := by omega
    have e := brl_c (M := M) (M' := M') (e0 := C' - C) hB hB' hC (by rw [hC']; omega) (fun i hi => c5 hm i (by omega)) (by rw [hC] at c6; exact c6) hT hw hM
    rw [show C + (C' - C) = C' by omega] at e
    rw [e]
    exact k5 (by omega) (by omega)
/-- what all pieces but ground and reader look at -/
def oFi (I I' : Nat → Nat → Int32) : Prop := (∀ j, j < 13 → I' j = I j) ∧ (∀ j, 61 ≤ j → j < 80 → I' j = I j) ∧ (∀ k, k ≠ 4 → I' 60 k = I 60 k) ∧ (∀ j, ((94 ≤ j ∧ j ≤ 106) ∨ 119 ≤ j) → j < 127 → I' j = I j) ∧ I' 80 68 = I 80 68 ∧ I' 80 71 = I 80 71
theorem tInv_f {I I' : Nat → Nat → Int32} (h : oFi I I') (g : tInv I) : tInv I' := by
  obtain ⟨h1, h2, h3, h4, h5, h6⟩ := h
  unfold tInv
  rw [h1 3 (by decide), h1 5 (by decide), h1 6 (by decide), h4 101 (by decide) (by decide), h4 102 (by decide) (by decide), h4 103 (by decide) (by decide)]
  exact g
theorem uInv_f {I I' : Nat → Nat → Int32} (h : oFi I I') (g : uInv I) : uInv I' := by
  obtain ⟨h1, h2, h3, h4, h5, h6⟩ := h
  unfold uInv
  rw [h2 65 (by decide) (by decide), h2 66 (by decide) (by decide), h2 67 (by decide) (by decide), h4 104 (by decide) (by decide), h4 105 (by decide) (by decide), h4 106 (by decide) (by decide)]
  exact g
theorem sInv_f {I I' : Nat → Nat → Int32} (h : oFi I I') (g : sInv I) : sInv I' := by
  obtain ⟨h1, h2, h3, h4, h5, h6⟩ := h
  unfold sInv
  rw [h2 71 (by decide) (by decide), h2 72 (by decide) (by decide), h2 73 (by decide) (by decide), h2 75 (by decide) (by decide), h4 121 (by decide) (by decide), h4 122 (by decide) (by decide), h4 124 (by decide) (by decide), h5]
  exact g
theorem cInv_f {I I' : Nat → Nat → Int32} (h : oFi I I') (g : cInv I) : cInv I' := by
  obtain ⟨h1, h2, h3, h4, h5, h6⟩ := h
  unfold cInv
  rw [h2 77 (by decide) (by decide), h2 78 (by decide) (by decide), h2 79 (by decide) (by decide), h4 125 (by decide) (by decide), h4 126 (by decide) (by decide), h6]
  exact g
theorem oFi_rT {I I' : Nat → Nat → Int32} (h : oFi I I') : rT6 I I' := ⟨(h.2.2.2.1 94 (by decide) (by decide)).symm, (h.2.2.2.1 95 (by decide) (by decide)).symm, (h.2.2.2.1 96 (by decide) (by decide)).symm, (h.2.2.2.1 97 (by decide) (by decide)).symm⟩
theorem oFi_w {I I' : Nat → Nat → Int32} (h : oFi I I') (d : Nat) : watZ I d = watZ I' d := by
  unfold watZ
  rw [h.2.2.2.1 100 (by decide) (by decide), h.2.2.2.1 101 (by decide) (by decide)]
theorem rInv_f {kk kk' : Nat → Nat × Nat} {I I' : Nat → Nat → Int32} {tx : Nat → Nat} {T : Nat} (h57 : I' 57 = I 57) (h58 : I' 58 = I 58) (h81 : I' 81 = I 81) (h1 : I' 80 1 = I 80 1) (h10 : I' 80 10 = I 80 10) (h11 : I' 80 11 = I 80 11) (hs : ∀ w, w < 21 → I' (am_B + 1 + w) = I (am_B + 1 + w) ∧ kk' (am_B + 1 + w) = kk (am_B + 1 + w)) (g : rInv kk I tx T) : rInv kk' I' tx T := by
  obtain ⟨⟨a1, a2, a3⟩, b, c1, c2, c3, c4⟩ := g
  exact ⟨⟨by rw [h57]; exact a1, a2, fun i hi => by rw [h58]; exact a3 i hi⟩, fun w hw => by rw [(hs w hw).1, (hs w hw).2]; exact b w hw, by rw [h1]; exact c1, fun i hi => by rw [h81]; exact c2 i hi, by rw [h57, h10]; exact c3, by rw [h57, h11]; exact c4⟩
theorem sl_up {k sl sl' : Nat} (hsl : sl ≤ 231806 + 820 * k) (h : sl' ≤ sl + 820) : sl' ≤ 231806 + 820 * (k + 1) := by
  rw [Nat.mul_succ, ← Nat.add_assoc]
  exact Nat.le_trans h (Nat.add_le_add_right hsl 820)
/-- any call that leaves the pieces -/
theorem wInv_f {k n sl n' sl' C C' : Nat} {kk' : Nat → Nat × Nat} {q' : Nat → Nat → Option Nat} {I I' : Nat → Nat → Int32} {L' : Nat → Nat → Int64} {ah' : Nat → Nat} {M M' : Nat → List (Nat × Nat × List Nat)} {tx : Nat → Nat} {T : Nat} (hk : k ≤ 512) (hB : wfB I) (hC : nC I = C) (ht : tInv I) (hu : uInv I) (hs : sInv I) (hc : cInv I) (hj : jInv (201 * k) I C M) (hn : n ≤ 131 + 2 * k) (hsl : sl ≤ 231806 + 820 * k) (g' : gInv n' kk' q' I' L' C' ah' M') (hr : rInv kk' I' tx T) (f : oFi I I') (hcn : cntF I I' C') (hle : C ≤ C') (hM : ∀ n, n ≤ C → M' n = M n) (hn' : n' ≤ n + 2) (hsl' : sl' ≤ sl + 820) : wInv (k + 1) n' sl' kk' q' I' L' := by
  have h1 : n' ≤ 131 + 2 * (k + 1) := by omega
  have h2 : sl' ≤ 231806 + 820 * (k + 1) := sl_up hsl hsl'
  have h3 : jInv (201 * k + 201) I' C' M' := jInv_f (b := 201 * k) (by omega) hj hB g'.2.1 hC g'.2.2.1.2.2.1.2.1 hle hcn (oFi_rT f) (fun d _ => oFi_w f d) hM f.2.2.1 (f.2.1 63 (by decide) (by decide))
  rw [show 201 * k + 201 = 201 * (k + 1) by omega] at h3
  exact ⟨C', ah', M', tx, T, g', hr, tInv_f f ht, uInv_f f hu, sInv_f f hs, cInv_f f hc, h3, h1, h2⟩
theorem oFv_i {n' : Nat} {kk kk' : Nat → Nat × Nat} {I I' : Nat → Nat → Int32} {L L' : Nat → Nat → Int64} (h : oFv n' kk kk' I I' L L') : oFi I I' := ⟨h.2.2.1, fun j j1 j2 => h.1 j (by omega) j2 (by omega), h.2.1, fun j j1 j2 => h.2.2.2.1 j (by omega) j2, h.2.2.2.2.1 68 (by decide) (by decide), h.2.2.2.2.1 71 (by decide) (by decide)⟩
/-- THE CALLS SO FAR KEEP THE WHOLE INVARIANT -/
theorem ojV_h {k n sl C : Nat} {kk : Nat → Nat × Nat} {q : Nat → Nat → Option Nat} {I : Nat → Nat → Int32} {L : Nat → Nat → Int64} {ah : Nat → Nat} {M : Nat → List (Nat × Nat × List Nat)} {tx : Nat → Nat} {T : Nat} {h2 : am_H} (hk : k ≤ 512) (g : gInv n kk q I L C ah M) (hr : rInv kk I tx T) (ht : tInv I) (hu : uInv I) (hs : sInv I) (hc : cInv I) (hj : jInv (201 * k) I C M) (hn : n ≤ 131 + 2 * k) (hsl : sl ≤ 231806 + 820 * k) (h : ojV n sl kk I L C M h2) : hInv (k + 1) h2 := by
  obtain ⟨n', sl', kk', I', L', q', C', ah', rfl, g', f, cn, ⟨b1, b2, b3⟩, b4⟩ := h
  have hnn : n' ≤ am_B := by unfold am_B; omega
  exact ⟨n', sl', kk', I', L', q', rfl, wInv_f hk g.2.1 g.2.2.1.2.2.1.2.1 ht hu hs hc hj hn hsl g' (rInv_f (f.1 57 (by decide) (by decide) (by decide)) (f.1 58 (by decide) (by decide) (by decide)) (f.2.2.2.1 81 (by decide) (by decide)) (f.2.2.2.2.1 1 (by decide) (by decide)) (f.2.2.2.2.1 10 (by decide) (by decide)) (f.2.2.2.2.1 11 (by decide) (by decide)) (fun w hw => f.2.2.2.2.2.2 (am_B + 1 + w) (by omega)) hr) (oFv_i f) cn b4 (fun _ _ => rfl) b2 b3⟩
