/-! A NEW ACT ON A GROUND THAT STANDS -/
theorem cSum_xy {X Y I J : Nat → Nat → Int32} {L M : Nat → Nat → Int64} {f g : Nat → Bool} (h : ∀ d, d < 400 → sXY X f Y g d) (h15 : J 15 = I 15) (h17 : J 17 = I 17) (h19 : ∀ c, c < 16 → J (19 + c) = I (19 + c)) (h16 : M 16 = L 16) (hs : cSum I L X f) : cSum J M Y g := by
  intro d hd
  obtain ⟨q1, q2, q3, q4⟩ := hs d hd
  obtain ⟨e1, e2, e3, e4⟩ := h d hd
  exact ⟨by rw [h15, ← e1]; exact q1, by rw [h16, ← e2]; exact q2, by rw [h17, ← e3]; exact q3, fun c hc => by rw [h19 c hc, ← e4 c hc]; exact q4 c hc⟩
theorem sXY_r {X : Nat → Nat → Int32} {f : Nat → Bool} {d : Nat} : sXY X f X f d := ⟨rfl, rfl, rfl, fun _ _ => rfl⟩
theorem kn_gt {X : Nat → Nat → Int32} (hB : wfB X) {n : Nat} (h : nC X < n) : kn X n = false := kn_f (fun z => by have := (nNow_v hB).2; omega)
theorem cAct_r {I J X Y : Nat → Nat → Int32} {m a : Nat} (h : J a = I a) (hx : X 107 m = Y 107 m ∧ X 108 m = Y 108 m ∧ X 109 m = Y 109 m ∧ X 110 m = Y 110 m ∧ X 111 m = Y 111 m ∧ X 112 m = Y 112 m) (c : cAct I X m a) : cAct J Y m a := by
  obtain ⟨e1, e2, e3, e4, e5, e6⟩ := hx
  unfold cAct at c ⊢
  rw [h, ← e1, ← e2, ← e3, ← e4, ← e5, ← e6]
  exact c
/-- the book's rows with an act more -/
def enX (X0 X : Nat → Nat → Int32) (C : Nat) (s x a b c : Int32) : Prop := nC X0 = C ∧ X 80 45 = nI (C + 1) ∧ X 80 46 = X0 80 46 ∧ rT X0 X ∧ aE X0 X C ∧ X 107 (C + 1) = s ∧ X 108 (C + 1) = x ∧ X 109 (C + 1) = a ∧ X 110 (C + 1) = b ∧ X 111 (C + 1) = c ∧ X 112 (C + 1) = 0
theorem enX_nC {X0 X : Nat → Nat → Int32} {C : Nat} {s x a b c : Int32} (hC : C < 200) (h : enX X0 X C s x a b c) : nC X = C + 1 := by
  unfold nC
  rw [h.2.1, nI_clamp (by omega)]
theorem enX_B {X0 X : Nat → Nat → Int32} {C : Nat} {s x a b c : Int32} (hC : C < 200) (hB : wfB X0) (h : enX X0 X C s x a b c) (hv : ∀ i, 1 ≤ i → i ≤ C → X 112 i = nI (vdN X i) ∧ vdN X i ≤ C + 1) (hA : wfA X (C + 1)) : wfB X := by
  have e := enX_nC hC h
  obtain ⟨h0, h1, h2, h3, h4, _⟩ := h
  refine ⟨⟨by rw [e]; exact h1, by omega⟩, ?_, fun n n1 n2 => ?_⟩
  · rw [h2, e]
    rcases hB.2.1 with z | ⟨z1, z2⟩
    · exact Or.inl z
    · exact Or.inr ⟨z1, by omega⟩
  · by_cases c : n = C + 1
    · rw [c]; exact hA
    · obtain ⟨w1, w2⟩ := hB.2.2 n n1 (by omega)
      obtain ⟨q1, q2, q3, q4, q5⟩ := h4 n n1 (by omega)
      obtain ⟨v1, v2⟩ := hv n n1 (by omega)
      refine ⟨⟨v1, by rw [e]; exact v2⟩, ?_⟩
      unfold dyN thN clN
      rw [← q1, ← q2, ← q3, ← q4, ← q5]
      exact w2
theorem tv_b_wrn {d n sl : Nat} {kk : Nat → Nat × Nat} {I : Nat → Nat → Int32} {L : Nat → Nat → Int64} {q q1 : Nat → Nat → Option Nat} {X0 X : Nat → Nat → Int32} {C : Nat} {ah : Nat → Nat} {r : Nat → Int32} {s x a b c : Int32} (hC2 : C < 200) (hB0 : wfB X0) (hB : wfB X) (hen : enX X0 X C s x a b c) (hc : cTow I X0) (hw : cWet I X0) (b1 : am_Bk kk q C ah) (b2 : ∀ i, i < C → ah i < n) (b3 : ∀ i j, i < C → j < C → ah i = ah j → i = j) (b5 : ∀ i, i < C → cAct I X (i + 1) (ah i)) (b5a : cAct (va_up I n r) X (C + 1) n) (r8 : r 8 = 0) (h2 : I 55 2 = X0 80 45) (h3 : I 55 3 = X0 80 46) (b8 : ∀ i, i < C → I (ah i) 8 = bz (kn X0 (i + 1))) (hs : cSum I L X0 (kn X0)) (hd : cDay I L X0) (hn : 131 ≤ n) (hq : q1 56 = q 56) :
    am_T (d + 4) 10 0 (am_ent 2 [.ref 55, .ref n]) [] (n + 1, sl, wKK (va_up kk n (0, 0)), va_up I n r, va_up L n (fun _ => 0), wQQ q1) (fun rv h' => rv = some (.int (nI (C + 1))) ∧ ∃ I' L' R, h' = (n + 1, sl, wKK (va_up kk n (0, 0)), I', L', wQQ (va_up q1 56 (va_up (q1 56) C (some n)))) ∧ cGr (n + 1) (va_up kk n (0, 0)) (va_up q1 56 (va_up (q1 56) C (some n))) I' L' X (C + 1) (ahN ah C n) ∧ LI X (C + 1) (ahN ah C n) (kn X0) (kn X) R (va_up (va_up I n r) 55 (upd ((va_up I n r) 55) 2 (nI (C + 1)))) (va_up L n (fun _ => 0)) I' L' (C + 1)) := by
  have e := enX_nC hC2 hen
  obtain ⟨e0, e1, e2, e3, e4, e5⟩ := hen
  have hlo : ∀ j, j < n → va_up I n r j = I j := fun j hj => va_n1 (by omega)
  have hsx : ∀ d, sXY X0 (kn X0) X (kn X0) d := fun d => sXY_a e0 (Or.inr ⟨e, kn_gt hB0 (by omega)⟩) e4 (fun _ _ => rfl) d
  refine tv_b_write (X0 := X0) hB (by
    unfold cTow
    rw [hlo 14 (by omega), hlo 8 (by omega), hlo 9 (by omega), hlo 10 (by omega), hlo 11 (by omega), hlo 12 (by omega), ← e3 94 (by decide) (by decide), ← e3 95 (by decide) (by decide), ← e3 96 (by decide) (by decide), ← e3 97 (by decide) (by decide), ← e3 98 (by decide) (by decide), ← e3 99 (by decide) (by decide)]
    exact hc) (by
    unfold cWet
    rw [hlo 2 (by omega), ← e3 101 (by decide) (by decide), ← e3 100 (by decide) (by decide)]
    exact hw) (fun i hi => ?_) (fun i hi => by have := b2 i hi; omega) b3 ⟨hn, va_e1⟩ (by omega) (fun i hi => by have := b2 i hi; omega) e (fun i hi => ?_) b5a (by rw [hlo 55 (by omega), h2, hB0.1.1, e0]) (by rw [hlo 55 (by omega), h3, e2]) (fun i hi => by rw [hlo _ (b2 i hi)]; exact b8 i hi) (by rw [va_e1]; exact r8) (kn_gt hB0 (by omega)) ?_ ?_ e3 hsx
  · obtain ⟨z1, z2, z3⟩ := b1 i hi
    have := b2 i hi
    exact ⟨by rw [hq]; exact z1, z2, by rw [va_n1 (by omega)]; exact z3⟩
  · exact cAct_r (hlo _ (b2 i hi)) ⟨rfl, rfl, rfl, rfl, rfl, rfl⟩ (b5 i hi)
  · exact cSum_xy (fun d _ => hsx d) (hlo 15 (by omega)) (hlo 17 (by omega)) (fun c hc => hlo _ (by omega)) (va_n1 (by omega)) hs
  · obtain ⟨R, r1, r2, r3⟩ := hd
    exact ⟨R, by rw [hlo 13 (by omega)]; exact r1, r2, fun D hD => cRow_s (R := D) (fun _ _ _ => rfl) (fun d _ => sXY_r) (hlo 52 (by omega)) (hlo 53 (by omega)) (hlo 54 (by omega)) (fun c hc => va_n1 (by omega)) (Nat.le_refl _) (r3 D hD)⟩
