/-! THE CLASS'S GROUND BEHIND A CHANGE OF THE BOOK -/
def rT (X Y : Nat → Nat → Int32) : Prop := ∀ j, 94 ≤ j → j ≤ 103 → X j = Y j
def sXY (X : Nat → Nat → Int32) (f : Nat → Bool) (Y : Nat → Nat → Int32) (g : Nat → Bool) (d : Nat) : Prop := gT X f d = gT Y g d ∧ gM X f d = gM Y g d ∧ gLd X f d = gLd Y g d ∧ ∀ c, c < 16 → wkZ X f c d = wkZ Y g c d
theorem pS_s {X Y : Nat → Nat → Int32} (hT : rT X Y) {R : Nat} (h : ∀ d, d < R → sXY X (kn X) Y (kn Y) d) : ∀ D, D ≤ R → ((∀ c, c < 16 → (pS X D).1 c = (pS Y D).1 c) ∧ (pS X D).2 = (pS Y D).2) ∧ wsZ X D = wsZ Y D ∧ drZ X D = drZ Y D := by
  intro D
  induction D with
  | zero => intro _; exact ⟨⟨fun c _ => rfl, rfl⟩, rfl, rfl⟩
  | succ D ih =>
    intro hD
    obtain ⟨⟨i1, i2⟩, i3, i4⟩ := ih (by omega)
    obtain ⟨s1, s2, s3, s4⟩ := h D (by omega)
    have eoh : ∀ l r, oh X r l = oh Y r l := fun l r => by unfold oh; rw [hT 97 (by decide) (by decide), hT 96 (by decide) (by decide)]
    have etot : tot X D = tot Y D := by unfold tot; rw [hT 95 (by decide) (by decide), s1]
    have emom : ∀ l, mom X D l = mom Y D l := fun l => by
      unfold mom
      rw [hT 95 (by decide) (by decide), s2]
      exact congrArg (· + gM Y (kn Y) D) (zS_c (fun r _ => by rw [eoh]))
    have ewat : watZ X D = watZ Y D := by unfold watZ; rw [hT 101 (by decide) (by decide), hT 100 (by decide) (by decide)]
    have edG : ∀ c l, c < 16 → dG X c D l = dG Y c D l := fun c l hc => by
      unfold dG prZ
      rw [etot, emom, ewat, hT 94 (by decide) (by decide), s4 c hc]
    have e1 : ∀ c, c < 16 → (pS X (D + 1)).1 c = (pS Y (D + 1)).1 c := fun c hc => by
      show (pS X D).1 c + dG X c D (pS X D).2 = (pS Y D).1 c + dG Y c D (pS Y D).2
      rw [i1 c hc, i2, edG c _ hc]
    have e2 : (pS X (D + 1)).2 = (pS Y (D + 1)).2 := by
      show lz (xs (fun c => (pS X (D + 1)).1 c)) = lz (xs (fun c => (pS Y (D + 1)).1 c))
      refine congrArg lz ?_
      unfold xs
      exact zS_c (fun c hc => congrArg (fun z => (2 * (c : Int) - 15) * z) (e1 c hc))
    refine ⟨⟨e1, e2⟩, ?_, ?_⟩
    · show max (wsZ X D) (pS X (D + 1)).2 = max (wsZ Y D) (pS Y (D + 1)).2
      rw [i3, e2]
    · show drZ X D + gLd X (kn X) D = drZ Y D + gLd Y (kn Y) D
      rw [i4, s3]
theorem cRow_s {X Y I J : Nat → Nat → Int32} {L M : Nat → Nat → Int64} (hT : rT X Y) {R : Nat} (h : ∀ d, d < R → sXY X (kn X) Y (kn Y) d) (h52 : J 52 = I 52) (h53 : J 53 = I 53) (h54 : J 54 = I 54) (hL : ∀ c, c < 16 → M (36 + c) = L (36 + c)) {D : Nat} (hD : D ≤ R) (hr : cRow I L X D) : cRow J M Y D := by
  obtain ⟨⟨e1, e2⟩, e3, e4⟩ := pS_s hT h D hD
  obtain ⟨q1, q2, q3, q4⟩ := hr
  exact ⟨by rw [h52, ← e2]; exact q1, by rw [h53, ← e3]; exact q2, by rw [h54, ← e4]; exact q3, fun c hc => by rw [hL c hc, ← e1 c hc]; exact q4 c hc⟩
/-- acts alike -/
def aE (X Y : Nat → Nat → Int32) (C : Nat) : Prop := ∀ n, 1 ≤ n → n ≤ C → X 107 n = Y 107 n ∧ X 108 n = Y 108 n ∧ X 109 n = Y 109 n ∧ X 110 n = Y 110 n ∧ X 111 n = Y 111 n
theorem zS_s {f : Nat → Int} {n : Nat} : zS f (n + 1) = zS f n + f n := rfl
theorem sXY_a {X Y : Nat → Nat → Int32} {f g : Nat → Bool} {C : Nat} (hX : nC X = C) (hY : nC Y = C ∨ (nC Y = C + 1 ∧ g (C + 1) = false)) (ha : aE X Y C) (hf : ∀ i, i < C → f (i + 1) = g (i + 1)) (d : Nat) : sXY X f Y g d := by
  have e : ∀ (P Q : Nat → Prop) (dP : ∀ i, Decidable (P i)) (dQ : ∀ i, Decidable (Q i)) (v w : Nat → Int), (∀ i, i < C → ((P i ↔ Q i) ∧ v i = w i)) → zS (fun i => if f (i + 1) = true ∧ P i then v i else 0) (nC X) = zS (fun i => if g (i + 1) = true ∧ Q i then w i else 0) (nC Y) := by
    intro P Q dP dQ v w h
    have e1 : zS (fun i => if f (i + 1) = true ∧ P i then v i else 0) C = zS (fun i => if g (i + 1) = true ∧ Q i then w i else 0) C := zS_c (fun i hi => by
      obtain ⟨h1, h2⟩ := h i hi
      show (if f (i + 1) = true ∧ P i then v i else 0) = (if g (i + 1) = true ∧ Q i then w i else 0)
      rw [hf i hi, h2]
      by_cases c : g (i + 1) = true ∧ P i
      · rw [if_pos c, if_pos ⟨c.1, h1.mp c.2⟩]
      · rw [if_neg c, if_neg (fun z => c ⟨z.1, h1.mpr z.2⟩)])
    rw [hX, e1]
    rcases hY with h | ⟨h, h'⟩
    · rw [h]
    · rw [h, zS_s]
      show _ = _ + (if g (C + 1) = true ∧ Q C then w C else 0)
      rw [if_neg (fun z => by rw [h'] at z; exact absurd z.1 (by decide)), Int.add_zero]
  have ea : ∀ i, i < C → X 107 (i + 1) = Y 107 (i + 1) ∧ dyN X (i + 1) = dyN Y (i + 1) ∧ thN X (i + 1) = thN Y (i + 1) ∧ clN X (i + 1) = clN Y (i + 1) ∧ X 109 (i + 1) = Y 109 (i + 1) ∧ X 110 (i + 1) = Y 110 (i + 1) := by
    intro i hi
    obtain ⟨h1, h2, h3, h4, h5⟩ := ha (i + 1) (by omega) (by omega)
    unfold dyN thN clN
    rw [h1, h2, h3, h4, h5]
    exact ⟨rfl, rfl, rfl, rfl, rfl, rfl⟩
  have eFr : ∀ c d, gFr X f c d = gFr Y g c d := fun c d => e (fun i => X 107 (i + 1) = 2 ∧ dyN X (i + 1) = d ∧ clN X (i + 1) = c) (fun i => Y 107 (i + 1) = 2 ∧ dyN Y (i + 1) = d ∧ clN Y (i + 1) = c) (fun i => inferInstance) (fun i => inferInstance) (fun _ => 1) (fun _ => 1) (fun i hi => by obtain ⟨h1, h2, h3, h4, h5, h6⟩ := ea i hi; rw [h1, h2, h4]; exact ⟨Iff.rfl, rfl⟩)
  have eLi : ∀ c d, gLi X f c d = gLi Y g c d := fun c d => e (fun i => X 107 (i + 1) = 1 ∧ dyN X (i + 1) = d ∧ clN X (i + 1) = c) (fun i => Y 107 (i + 1) = 1 ∧ dyN Y (i + 1) = d ∧ clN Y (i + 1) = c) (fun i => inferInstance) (fun i => inferInstance) (fun i => (X 110 (i + 1)).toInt) (fun i => (Y 110 (i + 1)).toInt) (fun i hi => by obtain ⟨h1, h2, h3, h4, h5, h6⟩ := ea i hi; rw [h1, h2, h4, h6]; exact ⟨Iff.rfl, rfl⟩)
  refine ⟨e (fun i => X 107 (i + 1) = 0 ∧ dyN X (i + 1) ≤ d ∧ d ≤ thN X (i + 1)) (fun i => Y 107 (i + 1) = 0 ∧ dyN Y (i + 1) ≤ d ∧ d ≤ thN Y (i + 1)) (fun i => inferInstance) (fun i => inferInstance) (fun i => (X 109 (i + 1)).toInt) (fun i => (Y 109 (i + 1)).toInt) (fun i hi => by obtain ⟨h1, h2, h3, h4, h5, h6⟩ := ea i hi; rw [h1, h2, h3, h5]; exact ⟨Iff.rfl, rfl⟩),
    e (fun i => X 107 (i + 1) = 0 ∧ dyN X (i + 1) ≤ d ∧ d ≤ thN X (i + 1)) (fun i => Y 107 (i + 1) = 0 ∧ dyN Y (i + 1) ≤ d ∧ d ≤ thN Y (i + 1)) (fun i => inferInstance) (fun i => inferInstance) (fun i => (X 109 (i + 1)).toInt * (X 110 (i + 1)).toInt) (fun i => (Y 109 (i + 1)).toInt * (Y 110 (i + 1)).toInt) (fun i hi => by obtain ⟨h1, h2, h3, h4, h5, h6⟩ := ea i hi; rw [h1, h2, h3, h5, h6]; exact ⟨Iff.rfl, rfl⟩),
    e (fun i => X 107 (i + 1) = 1 ∧ dyN X (i + 1) = d) (fun i => Y 107 (i + 1) = 1 ∧ dyN Y (i + 1) = d) (fun i => inferInstance) (fun i => inferInstance) (fun i => (X 110 (i + 1)).toInt) (fun i => (Y 110 (i + 1)).toInt) (fun i hi => by obtain ⟨h1, h2, h3, h4, h5, h6⟩ := ea i hi; rw [h1, h2, h6]; exact ⟨Iff.rfl, rfl⟩), fun c _ => ?_⟩
  unfold wkZ
  rw [eLi, eFr, eFr]
/-- the class's book -/
def cBook (n : Nat) (kk : Nat → Nat × Nat) (q : Nat → Nat → Option Nat) (I X : Nat → Nat → Int32) (C : Nat) (ah : Nat → Nat) (f : Nat → Bool) : Prop := (am_Bk kk q C ah ∧ (∀ i, i < C → ah i < n) ∧ (∀ i j, i < C → j < C → ah i = ah j → i = j)) ∧ nC X = C ∧ (∀ i, i < C → cAct I X (i + 1) (ah i)) ∧ I 55 2 = X 80 45 ∧ I 55 3 = X 80 46 ∧ (∀ i, i < C → I (ah i) 8 = bz (f (i + 1)))
/-- the class's ground -/
def cGr (n : Nat) (kk : Nat → Nat × Nat) (q : Nat → Nat → Option Nat) (I : Nat → Nat → Int32) (L : Nat → Nat → Int64) (X : Nat → Nat → Int32) (C : Nat) (ah : Nat → Nat) : Prop := cTow I X ∧ cWet I X ∧ cBook n kk q I X C ah (kn X) ∧ cSum I L X (kn X) ∧ cDay I L X
theorem tv_b_learnG {d n sl : Nat} {kk : Nat → Nat × Nat} {I : Nat → Nat → Int32} {L : Nat → Nat → Int64} {q : Nat → Nat → Option Nat} {X0 X : Nat → Nat → Int32} {C : Nat} {ah : Nat → Nat} {f : Nat → Bool} (hB : wfB X) (hc : cTow I X) (hw : cWet I X) (hb : cBook n kk q I X C ah f) (hs : cSum I L X f) (hd : cDay I L X0) (hT : rT X0 X) (hx : ∀ d, sXY X0 (kn X0) X f d) : am_T (d + 3) 14 0 (am_ent 5 [.ref 55]) [] (n, sl, wKK kk, I, L, wQQ q) (fun rv h' => rv = none ∧ ∃ I' L' R, h' = (n, sl, wKK kk, I', L', wQQ q) ∧ cGr n kk q I' L' X C ah ∧ LI X C ah f (kn X) R I L I' L' C) := by
  obtain ⟨R, hR, hR4, hrow⟩ := hd
  obtain ⟨⟨b1, b2, b3⟩, b4, b5, b6, b7, b8⟩ := hb
  obtain ⟨rv, h', e, rfl, I', L', rfl, hl⟩ := tv_b_learn (d := d) (sl := sl) b1 b4 hB b3 b5 b6 b7 hR4 hs hR b8
  refine ⟨none, _, e, rfl, I', L', R, rfl, ?_, hl⟩
  obtain ⟨a1, ⟨R1, r1, r2, r3⟩, a3, a4, a5, a6, a7, a8, _⟩ := hl
  have hah : ∀ i, i < C → 131 ≤ ah i := fun i hi => (b1 i hi).2.1
  have lo : ∀ j, j < 131 → j ≠ 13 → j ≠ 15 → j ≠ 17 → j ≠ 55 → (j < 19 ∨ 34 < j) → I' j = I j := fun j j1 j2 j3 j4 j5 j6 => a5 j j2 j3 j4 j5 j6 (fun i hi => by have := hah i hi; omega)
  refine ⟨?_, ?_, ⟨⟨b1, b2, b3⟩, b4, fun i hi => ?_, by rw [a6 2 (by decide)]; exact b6, by rw [a6 3 (by decide)]; exact b7, a3⟩, a1, R1, r1, by omega, fun D hD => ?_⟩
  · unfold cTow
    rw [lo 14 (by decide) (by decide) (by decide) (by decide) (by decide) (by decide), lo 8 (by decide) (by decide) (by decide) (by decide) (by decide) (by decide), lo 9 (by decide) (by decide) (by decide) (by decide) (by decide) (by decide), lo 10 (by decide) (by decide) (by decide) (by decide) (by decide) (by decide), lo 11 (by decide) (by decide) (by decide) (by decide) (by decide) (by decide), lo 12 (by decide) (by decide) (by decide) (by decide) (by decide) (by decide)]
    exact hc
  · unfold cWet
    rw [lo 2 (by decide) (by decide) (by decide) (by decide) (by decide) (by decide)]
    exact hw
  · unfold cAct
    rw [a4 i hi 0 (by decide), a4 i hi 1 (by decide), a4 i hi 2 (by decide), a4 i hi 3 (by decide), a4 i hi 4 (by decide), a4 i hi 5 (by decide), a4 i hi 7 (by decide)]
    exact b5 i hi
  · refine cRow_s (I := I) (L := L) (R := R1) hT (fun d hd => ?_) (lo 52 (by decide) (by decide) (by decide) (by decide) (by decide) (by decide)) (lo 53 (by decide) (by decide) (by decide) (by decide) (by decide) (by decide)) (lo 54 (by decide) (by decide) (by decide) (by decide) (by decide) (by decide)) (fun c hc => a8 _ (by omega)) hD (hrow D (by omega))
    obtain ⟨x1, x2, x3, x4⟩ := hx d
    obtain ⟨y1, y2, y3, y4⟩ := r3 d hd
    exact ⟨x1.trans y1, x2.trans y2, x3.trans y3, fun c hc => (x4 c hc).trans (y4 c hc)⟩
