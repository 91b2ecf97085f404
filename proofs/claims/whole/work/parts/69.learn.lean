/-! THE CLASS'S BOOK LEARNS -/
def bz (b : Bool) : Int32 := if b = true then 1 else 0
def sEq (X : Nat → Nat → Int32) (f g : Nat → Bool) (d : Nat) : Prop := gT X f d = gT X g d ∧ gM X f d = gM X g d ∧ gLd X f d = gLd X g d ∧ ∀ c, c < 16 → wkZ X f c d = wkZ X g c d
section G69
variable {X : Nat → Nat → Int32} {f g : Nat → Bool} {n : Nat} {b : Bool}
theorem sEq_t {h : Nat → Bool} {d : Nat} (a : sEq X f g d) (c : sEq X g h d) : sEq X f h d := ⟨a.1.trans c.1, a.2.1.trans c.2.1, a.2.2.1.trans c.2.2.1, fun k hk => (a.2.2.2 k hk).trans (c.2.2.2 k hk)⟩
theorem sEq_x (h : ∀ i, i < nC X → f (i + 1) = g (i + 1)) (d : Nat) : sEq X f g d := by
  have e : ∀ {α : Type} (F : Bool → Nat → α) (i : Nat), i < nC X → F (f (i + 1)) i = F (g (i + 1)) i := fun F i hi => by rw [h i hi]
  have e4 : ∀ c d, gLi X f c d = gLi X g c d := fun c d => zS_c (fun i hi => e (fun z i => if z = true ∧ X 107 (i + 1) = 1 ∧ dyN X (i + 1) = d ∧ clN X (i + 1) = c then (X 110 (i + 1)).toInt else 0) i hi)
  have e5 : ∀ c d, gFr X f c d = gFr X g c d := fun c d => zS_c (fun i hi => e (fun z i => if z = true ∧ X 107 (i + 1) = 2 ∧ dyN X (i + 1) = d ∧ clN X (i + 1) = c then 1 else 0) i hi)
  refine ⟨zS_c (fun i hi => e (fun z i => if z = true ∧ X 107 (i + 1) = 0 ∧ dyN X (i + 1) ≤ d ∧ d ≤ thN X (i + 1) then (X 109 (i + 1)).toInt else 0) i hi), zS_c (fun i hi => e (fun z i => if z = true ∧ X 107 (i + 1) = 0 ∧ dyN X (i + 1) ≤ d ∧ d ≤ thN X (i + 1) then (X 109 (i + 1)).toInt * (X 110 (i + 1)).toInt else 0) i hi), zS_c (fun i hi => e (fun z i => if z = true ∧ X 107 (i + 1) = 1 ∧ dyN X (i + 1) = d then (X 110 (i + 1)).toInt else 0) i hi), fun c _ => ?_⟩
  unfold wkZ
  rw [e4, e5, e5]
theorem sEq_up (h1 : 1 ≤ n) (h2 : n ≤ nC X) (hf : f n = !b) {d : Nat} (h : (X 107 n ≠ 0 ∧ X 107 n ≠ 1 ∧ X 107 n ≠ 2) ∨ d < dyN X n) : sEq X f (updf f n b) d := by
  refine ⟨?_, ?_, ?_, fun c hc => ?_⟩
  · rw [gT_up h1 h2 hf, if_neg (show ¬ (X 107 n = 0 ∧ dyN X n ≤ d ∧ d ≤ thN X n) from fun z => h.elim (fun y => y.1 z.1) (fun y => by omega)), Int.mul_zero, Int.add_zero]
  · rw [gM_up h1 h2 hf, if_neg (show ¬ (X 107 n = 0 ∧ dyN X n ≤ d ∧ d ≤ thN X n) from fun z => h.elim (fun y => y.1 z.1) (fun y => by omega)), Int.mul_zero, Int.add_zero]
  · rw [gLd_up h1 h2 hf, if_neg (show ¬ (X 107 n = 1 ∧ dyN X n = d) from fun z => h.elim (fun y => y.2.1 z.1) (fun y => by omega)), Int.mul_zero, Int.add_zero]
  · unfold wkZ
    rw [gLi_up h1 h2 hf, gFr_up h1 h2 hf, gFr_up h1 h2 hf, if_neg (show ¬ (X 107 n = 1 ∧ dyN X n = d ∧ clN X n = c) from fun z => h.elim (fun y => y.2.1 z.1) (fun y => by omega)), if_neg (show ¬ (X 107 n = 2 ∧ dyN X n = d ∧ clN X n = c) from fun z => h.elim (fun y => y.2.2 z.1) (fun y => by omega)), if_neg (show ¬ (X 107 n = 2 ∧ dyN X n = d - 1 ∧ clN X n = c) from fun z => h.elim (fun y => y.2.2 z.1) (fun y => by omega))]
    simp only [Int.mul_zero, Int.add_zero]
theorem cSum_x {I : Nat → Nat → Int32} {L : Nat → Nat → Int64} (h : ∀ d, d < 400 → sEq X f g d) (hs : cSum I L X f) : cSum I L X g := by
  intro d hd
  obtain ⟨q1, q2, q3, q4⟩ := hs d hd
  obtain ⟨e1, e2, e3, e4⟩ := h d hd
  exact ⟨by rw [← e1]; exact q1, by rw [← e2]; exact q2, by rw [← e3]; exact q3, fun c hc => by rw [← e4 c hc]; exact q4 c hc⟩
end G69
/-- what learn has done behind k acts -/
def LI (X : Nat → Nat → Int32) (C : Nat) (ah : Nat → Nat) (f fk : Nat → Bool) (R : Nat) (I : Nat → Nat → Int32) (L : Nat → Nat → Int64) (I1 : Nat → Nat → Int32) (L1 : Nat → Nat → Int64) (k : Nat) : Prop :=
  cSum I1 L1 X fk ∧ (∃ R1, I1 13 11 = nI R1 ∧ R1 ≤ R ∧ ∀ d, d < R1 → sEq X f fk d) ∧ (∀ i, i < C → I1 (ah i) 8 = bz (fk (i + 1))) ∧ (∀ i, i < C → ∀ j, j ≠ 8 → I1 (ah i) j = I (ah i) j) ∧
  (∀ j, j ≠ 13 → j ≠ 15 → j ≠ 17 → j ≠ 55 → (j < 19 ∨ 34 < j) → (∀ i, i < C → j ≠ ah i) → I1 j = I j) ∧ (∀ j, j ≠ 4 → I1 55 j = I 55 j) ∧ (∀ j, j ≠ 11 → j ≠ 12 → I1 13 j = I 13 j) ∧ (∀ j, j ≠ 16 → L1 j = L j) ∧
  (∃ m m' : Nat, m' ≤ m ∧ m ≤ k ∧ I1 55 4 = I 55 4 + nI m ∧ I1 13 12 = I 13 12 + nI m' ∧ (m = 0 → (∀ i, i < C → fk (i + 1) = f (i + 1)) ∧ I1 13 = I 13))
theorem LI_0 {X : Nat → Nat → Int32} {C : Nat} {ah : Nat → Nat} {f : Nat → Bool} {R : Nat} {I : Nat → Nat → Int32} {L : Nat → Nat → Int64} (hs : cSum I L X f) (hR : I 13 11 = nI R) (hf : ∀ i, i < C → I (ah i) 8 = bz (f (i + 1))) : LI X C ah f f R I L I L 0 :=
  ⟨hs, ⟨R, hR, Nat.le_refl _, fun d _ => sEq_x (fun _ _ => rfl) d⟩, hf, fun _ _ _ _ => rfl, fun _ _ _ _ _ _ _ => rfl, fun _ _ => rfl, fun _ _ _ => rfl, fun _ _ => rfl, ⟨0, 0, Nat.le_refl _, Nat.le_refl _, (Int32.add_zero _).symm, (Int32.add_zero _).symm, fun _ => ⟨fun _ _ => rfl, rfl⟩⟩⟩
theorem LI_x {X : Nat → Nat → Int32} {C : Nat} {ah : Nat → Nat} {f fk g : Nat → Bool} {R k : Nat} {I I1 : Nat → Nat → Int32} {L L1 : Nat → Nat → Int64} (hC : nC X = C) (h : ∀ i, i < C → fk (i + 1) = g (i + 1)) (a : LI X C ah f fk R I L I1 L1 k) : LI X C ah f g R I L I1 L1 k := by
  obtain ⟨a1, ⟨R1, r1, r2, r3⟩, a3, a4, a5, a6, a7, a8, ⟨m, m', m1, m2, m3, m4, m5⟩⟩ := a
  have hx : ∀ d, sEq X fk g d := sEq_x (by rw [hC]; exact h)
  exact ⟨cSum_x (fun d _ => hx d) a1, ⟨R1, r1, r2, fun d hd => sEq_t (r3 d hd) (hx d)⟩, fun i hi => by rw [← h i hi]; exact a3 i hi, a4, a5, a6, a7, a8, ⟨m, m', m1, m2, m3, m4, fun e => ⟨fun i hi => by rw [← h i hi]; exact (m5 e).1 i hi, (m5 e).2⟩⟩⟩
theorem LI_k {X : Nat → Nat → Int32} {C : Nat} {ah : Nat → Nat} {f fk : Nat → Bool} {R k : Nat} {I I1 : Nat → Nat → Int32} {L L1 : Nat → Nat → Int64} (a : LI X C ah f fk R I L I1 L1 k) : LI X C ah f fk R I L I1 L1 (k + 1) := by
  obtain ⟨a1, a2, a3, a4, a5, a6, a7, a8, ⟨m, m', m1, m2, m3⟩⟩ := a
  exact ⟨a1, a2, a3, a4, a5, a6, a7, a8, ⟨m, m', m1, by omega, m3⟩⟩
/-- an act turned -/
theorem LI_s {X : Nat → Nat → Int32} {C : Nat} {ah : Nat → Nat} {f fk : Nat → Bool} {R k R1 : Nat} {I I1 I2 J : Nat → Nat → Int32} {L L1 L2 : Nat → Nat → Int64} {b : Bool} (hC : nC X = C) (hC2 : C ≤ 200) (hk : k < C) (hA : wfA X (k + 1)) (hah : ∀ i, i < C → 131 ≤ ah i) (hinj : ∀ i j, i < C → j < C → ah i = ah j → i = j) (a : LI X C ah f fk R I L I1 L1 k) (hfk : ∀ i, k ≤ i → fk (i + 1) = f (i + 1)) (hb : fk (k + 1) = !b) (hR1 : I1 13 11 = nI R1) (hR14 : R1 ≤ 400) (hR4 : R ≤ 400)
    (hJ : J = va_up (va_up I1 (ah k) (upd (I1 (ah k)) 8 (bz b))) 55 (upd (I1 55) 4 (I1 55 4 + 1))) (p1 : cSum I2 L2 X (updf fk (k + 1) b)) (p2 : tkFr J I2 L1 L2) (p3 : tkP13 X J I2 (k + 1) R1) : LI X C ah f (updf fk (k + 1) b) R I L I2 L2 (k + 1) := by
  obtain ⟨a1, ⟨R1', r1, r2, r3⟩, a3, a4, a5, a6, a7, a8, ⟨m, m', m1, m2, m3, m4, m5⟩⟩ := a
  have eR : R1' = R1 := (nI_eq (by omega) (by omega)).mp (r1.symm.trans hR1)
  subst eR
  obtain ⟨f1, f2, f3⟩ := p2
  have nk : ah k ≠ 55 := by have := hah k hk; omega
  have nk13 : ah k ≠ 13 := by have := hah k hk; omega
  have hac : ∀ i, i < C → ∀ j, I2 (ah i) j = if i = k ∧ j = 8 then bz b else I1 (ah i) j := by
    intro i hi j
    have hi1 := hah i hi
    rw [f1 (ah i) (by omega) (by omega) (by omega) (by omega), hJ, va_n1 (by omega)]
    by_cases e : i = k
    · subst e
      rw [va_e1]
      by_cases e8 : j = 8
      · subst e8; rw [upd_e, if_pos ⟨rfl, rfl⟩]
      · rw [upd_n e8, if_neg (fun z => e8 z.2)]
    · rw [va_n1 (fun z => e (hinj i k hi hk z)), if_neg (fun z => e z.1)]
  have eJ13 : J 13 = I1 13 := by rw [hJ, va_n1 (by decide), va_n1 (fun z => nk13 z.symm)]
  have eJ55 : J 55 = upd (I1 55) 4 (I1 55 4 + 1) := by rw [hJ, va_e1]
  have e55 : I2 55 = upd (I1 55) 4 (I1 55 4 + 1) := by rw [f1 55 (by decide) (by decide) (by decide) (by decide), eJ55]
  have hkind : (X 107 (k + 1) = 0 ∨ X 107 (k + 1) = 1 ∨ X 107 (k + 1) = 2) ∨ (X 107 (k + 1) = 3 ∨ X 107 (k + 1) = 4 ∨ X 107 (k + 1) = 5) := by
    obtain ⟨_, _, _, a | a | a | a | a | a⟩ := hA
    · exact Or.inl (Or.inl a.1)
    · exact Or.inl (Or.inr (Or.inl a.1))
    · exact Or.inl (Or.inr (Or.inr a.1))
    · exact Or.inr (Or.inl a.1)
    · exact Or.inr (Or.inr (Or.inl a))
    · exact Or.inr (Or.inr (Or.inr a))
  have hR' : ∃ R2, I2 13 11 = nI R2 ∧ R2 ≤ R1' ∧ (∀ d, d < R2 → (X 107 (k + 1) ≠ 0 ∧ X 107 (k + 1) ≠ 1 ∧ X 107 (k + 1) ≠ 2) ∨ d < dyN X (k + 1)) ∧ ∃ e : Nat, e ≤ 1 ∧ I2 13 12 = I1 13 12 + nI e := by
    rcases hkind with h | h
    · obtain ⟨q1, q2⟩ := p3.1 h
      refine ⟨min R1' (dyN X (k + 1)), q1, by omega, fun d hd => Or.inr (by omega), 1, Nat.le_refl _, ?_⟩
      rw [q2, eJ13]; rfl
    · have q := p3.2 h
      refine ⟨R1', by rw [q, eJ13]; exact r1, Nat.le_refl _, fun d hd => Or.inl ?_, 0, by omega, ?_⟩
      · rcases h with h | h | h <;> rw [h] <;> decide
      · rw [q, eJ13]; exact (Int32.add_zero _).symm
  obtain ⟨R2, s1, s2, s3, e, s4, s5⟩ := hR'
  refine ⟨p1, ⟨R2, s1, by omega, fun d hd => sEq_t (r3 d (by omega)) (sEq_up (by omega) (by omega) hb (s3 d hd))⟩, fun i hi => ?_, fun i hi j hj => ?_, fun j j1 j2 j3 j4 j5 j6 => ?_, fun j hj => ?_, fun j h1 h2 => ?_, fun j hj => (f3 j hj).trans (a8 j hj), ⟨m + 1, m' + e, by omega, by omega, ?_, ?_, fun z => by omega⟩⟩
  · rw [hac i hi 8]
    by_cases c : i = k
    · subst c; rw [if_pos ⟨rfl, rfl⟩]; unfold updf; rw [if_pos rfl]
    · rw [if_neg (fun z => c z.1), a3 i hi]; unfold updf; rw [if_neg (by omega)]
  · rw [hac i hi j, if_neg (fun z => hj z.2)]; exact a4 i hi j hj
  · rw [f1 j j1 j2 j3 j5, hJ, va_n1 j4, va_n1 (j6 k hk)]; exact a5 j j1 j2 j3 j4 j5 j6
  · rw [e55, upd_n hj]; exact a6 j hj
  · rw [f2 j h1 h2, eJ13]; exact a7 j h1 h2
  · rw [e55, upd_e, m3, Int32.add_assoc]; exact congrArg (I 55 4 + ·) (nI_add m 1)
  · rw [s5, m4, Int32.add_assoc]; exact congrArg (I 13 12 + ·) (nI_add m' e)
theorem kn_t {X : Nat → Nat → Int32} {n : Nat} (h1 : 1 ≤ n) (h2 : n ≤ nNow X) (h3 : vdN X n = 0 ∨ nNow X < vdN X n) : kn X n = true := decide_eq_true ⟨h1, h2, h3⟩
theorem kn_f {X : Nat → Nat → Int32} {n : Nat} (h : ¬ (n ≤ nNow X ∧ (vdN X n = 0 ∨ nNow X < vdN X n))) : kn X n = false := decide_eq_false (fun z => h z.2)
theorem nNow_v {X : Nat → Nat → Int32} (hB : wfB X) : (if X 80 46 = -1 then X 80 45 else X 80 46) = nI (nNow X) ∧ nNow X ≤ nC X := by
  obtain ⟨⟨b1, b2⟩, b3, _⟩ := hB
  unfold nNow
  by_cases c : X 80 46 = -1
  · rw [if_pos c, if_pos c]; exact ⟨b1, Nat.le_refl _⟩
  · rw [if_neg c, if_neg c]
    rcases b3 with h | h
    · exact absurd h c
    · exact h
theorem ev_knownAt1 {d n sl : Nat} {kk : Nat → Nat × Nat} {I X : Nat → Nat → Int32} {L : Nat → Nat → Int64} {q : Nat → Nat → Option Nat} (hB : wfB X) (h2 : I 55 2 = X 80 45) (h3 : I 55 3 = X 80 46) : am_Ev d 8 0 (am_ent 1 [.ref 55]) [] (n, sl, wKK kk, I, L, wQQ q) (some (.int (nI (nNow X))), (n, sl, wKK kk, I, L, wQQ q)) := by
  have e := ev_b_knownAt (d := d) (n := n) (sl := sl) (k := kk) (I := I) (L := L) (q := q)
  unfold sp_b_knownAt at e
  rw [h2, h3, (nNow_v hB).1] at e
  exact e
set_option maxHeartbeats 4000000 in
theorem tv_b_lrn {d n sl : Nat} {kk : Nat → Nat × Nat} {I : Nat → Nat → Int32} {L : Nat → Nat → Int64} {q : Nat → Nat → Option Nat} {X : Nat → Nat → Int32} {C R : Nat} {ah : Nat → Nat} {f : Nat → Bool} {o3 o4 : Option Value} (hBk : am_Bk kk q C ah) (hC : nC X = C) (hB : wfB X) (hinj : ∀ i j, i < C → j < C → ah i = ah j → i = j) (hact : ∀ i, i < C → cAct I X (i + 1) (ah i)) (h2 : I 55 2 = X 80 45) (h3 : I 55 3 = X 80 46) (hR4 : R ≤ 400) : ∀ (m k : Nat) (fk : Nat → Bool) (I1 : Nat → Nat → Int32) (L1 : Nat → Nat → Int64) (o3 o4 : Option Value), k + m = C → LI X C ah f fk R I L I1 L1 k → (∀ i, i < k → fk (i + 1) = kn X (i + 1)) → (∀ i, k ≤ i → fk (i + 1) = f (i + 1)) → am_T (d + 3) 14 7 [some (.ref 55), some (.int (nI (nNow X))), some (.int (nI (k + 1))), o3, o4] [] (n, sl, wKK kk, I1, L1, wQQ q) (fun rv h' => rv = none ∧ ∃ I' L', h' = (n, sl, wKK kk, I', L', wQQ q) ∧ LI X C ah f (kn X) R I L I' L' C) := by
  have hC2 : C ≤ 200 := by rw [← hC]; exact hB.1.2
  have hn := nNow_v hB
  have h45 : X 80 45 = nI C := by rw [← hC]; exact hB.1.1
  have hah : ∀ i, i < C → 131 ≤ ah i := fun i hi => (hBk i hi).2.1
  intro m
  induction m with
  | zero =>
    intro k fk I1 L1 o3 o4 hkm hl hd1 hd2
    obtain rfl : k = C := by omega
    have hc55 : I1 55 2 = nI k := by rw [hl.2.2.2.2.2.1 2 (by decide), h2]; exact h45
    refine tv_b (pc' := 12) (ls' := [some (.ref 55), some (.int (nI (nNow X))), some (.int (nI (k + 1))), o3, o4]) (st' := [.int (I1 55 2), .int (nI (k + 1))]) (h' := (n, sl, wKK kk, I1, L1, wQQ q)) 3 rfl ?_
    refine tv_top (hc55) ?_
    refine tv_b (pc' := (if (nI k) < (nI (k + 1)) then 104 else 15)) (ls' := [some (.ref 55), some (.int (nI (nNow X))), some (.int (nI (k + 1))), o3, o4]) (st' := []) (h' := (n, sl, wKK kk, I1, L1, wQQ q)) 1 rfl ?_
    refine tv_t ((nI_ltI (a := k) (b := (k + 1)) (by omega) (by omega)).mpr (by omega)) ?_
    exact tv_rv rfl ⟨rfl, _, _, rfl, LI_x hC (fun i hi => hd1 i hi) hl⟩
  | succ m ih =>
    intro k fk I1 L1 o3 o4 hkm hl hd1 hd2
    have hk : k < C := by omega
    have hc55 : I1 55 2 = nI C := by rw [hl.2.2.2.2.2.1 2 (by decide), h2]; exact h45
    have hA := hB.2.2 (k + 1) (by omega) (by omega)
    have hv7 : I1 (ah k) 7 = nI (vdN X (k + 1)) := by rw [hl.2.2.2.1 k hk 7 (by decide), (hact k hk).2.2.1]; exact hA.1.1
    have hvd := hA.1.2
    have hfk := hd2 k (Nat.le_refl _)
    have hk55 : ah k ≠ 55 := by have := hah k hk; omega
    obtain ⟨R1, hR1, hR1R, _⟩ := hl.2.1
    have htk : ∀ (b : Bool) (J : Nat → Nat → Int32), J = va_up (va_up I1 (ah k) (upd (I1 (ah k)) 8 (bz b))) 55 (upd (I1 55) 4 (I1 55 4 + 1)) → cAct J X (k + 1) (ah k) ∧ cSum J L1 X fk ∧ J 13 11 = nI R1 := by
      intro b J hJ
      have e0 : ∀ j, j ≠ 8 → J (ah k) j = I (ah k) j := fun j hj => by rw [hJ, va_n1 hk55, va_e1, upd_n hj]; exact hl.2.2.2.1 k hk j hj
      have e1 : ∀ j, j < 131 → j ≠ 55 → J j = I1 j := fun j hj hj2 => by rw [hJ, va_n1 hj2, va_n1 (by have := hah k hk; omega)]
      refine ⟨?_, ?_, by rw [e1 13 (by decide) (by decide)]; exact hR1⟩
      · unfold cAct
        rw [e0 0 (by decide), e0 1 (by decide), e0 2 (by decide), e0 3 (by decide), e0 4 (by decide), e0 5 (by decide), e0 7 (by decide)]
        exact hact k hk
      · intro dd hdd
        rw [e1 15 (by decide) (by decide), e1 17 (by decide) (by decide)]
        obtain ⟨q1, q2, q3, q4⟩ := hl.1 dd hdd
        exact ⟨q1, q2, q3, fun c hc => by rw [e1 (19 + c) (by omega) (by omega)]; exact q4 c hc⟩
    cases hfb : f (k + 1)
    · have h8 : I1 (ah k) 8 = 0 := by rw [hl.2.2.1 k hk, hfk, hfb]; rfl
      refine tv_b (pc' := 12) (ls' := [some (.ref 55), some (.int (nI (nNow X))), some (.int (nI (k + 1))), o3, o4]) (st' := [.int (I1 55 2), .int (nI (k + 1))]) (h' := (n, sl, wKK kk, I1, L1, wQQ q)) 3 rfl ?_
      refine tv_top (hc55) ?_
      refine tv_b (pc' := (if (nI C) < (nI (k + 1)) then 104 else 15)) (ls' := [some (.ref 55), some (.int (nI (nNow X))), some (.int (nI (k + 1))), o3, o4]) (st' := []) (h' := (n, sl, wKK kk, I1, L1, wQQ q)) 1 rfl ?_
      refine tv_f (fun hq => absurd ((nI_ltI (a := C) (b := (k + 1)) (by omega) (by omega)).mp hq) (by omega)) ?_
      refine tv_b (pc' := 17) (ls' := [some (.ref 55), some (.int (nI (nNow X))), some (.int (nI (k + 1))), o3, o4]) (st' := [.int (nI (k + 1)), .ref 55]) (h' := (n, sl, wKK kk, I1, L1, wQQ q)) 2 rfl ?_
      refine tv_cvE [.int (nI (k + 1))] [] rfl rfl (by omega) rfl (Nat.le_of_ble_eq_true rfl) (Nat.le_of_ble_eq_true rfl) (Or.inr (Or.inr rfl)) (ev_b_act hBk hc55 hC2 hk) ?_
      refine tv_b (pc' := (if (nI (nNow X)) < (nI (k + 1)) then 52 else 33)) (ls' := [some (.ref 55), some (.int (nI (nNow X))), some (.int (nI (k + 1))), some (.ref (ah k)), o4]) (st' := []) (h' := (n, sl, wKK kk, I1, L1, wQQ q)) 6 rfl ?_
      refine tv_ifq (nI_ltI (a := (nNow X)) (b := (k + 1)) (by omega) (by omega)) (fun c30 => ?_) (fun c30 => ?_)
      · refine tv_b (pc' := 58) (ls' := [some (.ref 55), some (.int (nI (nNow X))), some (.int (nI (k + 1))), some (.ref (ah k)), some (.int 0)]) (st' := [.ref (ah k), .int 0]) (h' := (n, sl, wKK kk, I1, L1, wQQ q)) 4 rfl ?_
        refine tv_gfa rfl (Or.inr rfl) (am_acK (hBk k hk).2) ?_
        refine tv_top (h8) ?_
        refine tv_b (pc' := 98) (ls' := [some (.ref 55), some (.int (nI (nNow X))), some (.int (nI (k + 1))), some (.ref (ah k)), some (.int 0)]) (st' := []) (h' := (n, sl, wKK kk, I1, L1, wQQ q)) 1 rfl ?_
        refine tv_iincN (k := (k + 1)) (ls' := [some (.ref 55), some (.int (nI (nNow X))), some (.int (nI ((k + 1) + 1))), some (.ref (ah k)), some (.int 0)]) rfl rfl rfl ?_
        refine tv_b (pc' := 7) (ls' := [some (.ref 55), some (.int (nI (nNow X))), some (.int (nI ((k + 1) + 1))), some (.ref (ah k)), some (.int 0)]) (st' := []) (h' := (n, sl, wKK kk, I1, L1, wQQ q)) 1 rfl ?_
        have hkn : kn X (k + 1) = false := kn_f (by omega)
        refine ih (k + 1) fk _ _ _ _ (by omega) (LI_k hl) (fun i hi => ?_) (fun i hi => hd2 i (by omega))
        by_cases e : i = k
        · subst e; rw [hfk, hfb, hkn]
        · exact hd1 i (by omega)
      · refine tv_b (pc' := 34) (ls' := [some (.ref 55), some (.int (nI (nNow X))), some (.int (nI (k + 1))), some (.ref (ah k)), o4]) (st' := [.ref (ah k)]) (h' := (n, sl, wKK kk, I1, L1, wQQ q)) 1 rfl ?_
        refine tv_gfa rfl (Or.inl rfl) (am_acK (hBk k hk).2) ?_
        refine tv_top (hv7) ?_
        refine tv_b (pc' := (if (nI (vdN X (k + 1))) = 0 then 48 else 40)) (ls' := [some (.ref 55), some (.int (nI (nNow X))), some (.int (nI (k + 1))), some (.ref (ah k)), o4]) (st' := []) (h' := (n, sl, wKK kk, I1, L1, wQQ q)) 1 rfl ?_
        refine tv_ifq (nI_eq (a := (vdN X (k + 1))) (b := 0) (by omega) (by omega)) (fun c37 => ?_) (fun c37 => ?_)
        · refine tv_b (pc' := 58) (ls' := [some (.ref 55), some (.int (nI (nNow X))), some (.int (nI (k + 1))), some (.ref (ah k)), some (.int 1)]) (st' := [.ref (ah k), .int 1]) (h' := (n, sl, wKK kk, I1, L1, wQQ q)) 5 rfl ?_
          refine tv_gfa rfl (Or.inr rfl) (am_acK (hBk k hk).2) ?_
          refine tv_top (h8) ?_
          refine tv_b (pc' := 67) (ls' := [some (.ref 55), some (.int (nI (nNow X))), some (.int (nI (k + 1))), some (.ref (ah k)), some (.int 1)]) (st' := [.int 1, .ref (ah k)]) (h' := (n, sl, wKK kk, I1, L1, wQQ q)) 3 rfl ?_
          refine tv_pfa rfl (Or.inr ⟨rfl, by decide⟩) (am_acK (hBk k hk).2) ?_
          refine tv_b (pc' := 80) (ls' := [some (.ref 55), some (.int (nI (nNow X))), some (.int (nI (k + 1))), some (.ref (ah k)), some (.int 1)]) (st' := []) (h' := (n, sl, wKK kk, va_up (va_up I1 (ah k) (upd (I1 (ah k)) 8 1)) 55 (upd (va_up I1 (ah k) (upd (I1 (ah k)) 8 1) 55) 4 (((va_up I1 (ah k) (upd (I1 (ah k)) 8 1)) 55 4) + 1)), L1, wQQ q)) 6 rfl ?_
          refine tv_b (pc' := 95) (ls' := [some (.ref 55), some (.int (nI (nNow X))), some (.int (nI (k + 1))), some (.ref (ah k)), some (.int 1)]) (st' := [.int 1, .ref (ah k), .ref 13]) (h' := (n, sl, wKK kk, va_up (va_up I1 (ah k) (upd (I1 (ah k)) 8 1)) 55 (upd (va_up I1 (ah k) (upd (I1 (ah k)) 8 1) 55) 4 (((va_up I1 (ah k) (upd (I1 (ah k)) 8 1)) 55 4) + 1)), L1, wQQ q)) 7 rfl ?_
          refine tv_top (show (1 : Int32) = jI (sgn true) by decide) ?_
          have hJ0 : va_up (va_up I1 (ah k) (upd (I1 (ah k)) 8 1)) 55 (upd (va_up I1 (ah k) (upd (I1 (ah k)) 8 1) 55) 4 (((va_up I1 (ah k) (upd (I1 (ah k)) 8 1)) 55 4) + 1)) = va_up (va_up I1 (ah k) (upd (I1 (ah k)) 8 (bz true))) 55 (upd (I1 55) 4 (I1 55 4 + 1)) := by rw [va_n1 (show 55 ≠ ah k from fun z => hk55 z.symm)]; rfl
          have ht := htk true _ hJ0
          refine tv_cv [.ref (ah k), .int (jI (sgn true))] [] rfl rfl (by omega) rfl (Nat.le_of_ble_eq_true rfl) (Nat.le_of_ble_eq_true rfl) (Or.inr (Or.inr rfl)) (tv_d_take (d := d) (R := R1) (nn := k + 1) (b := true) (hBk k hk).2 hA (by omega) (by omega) ht.1 ht.2.1 (hfk.trans hfb) ht.2.2 (by omega)) ?_
          rintro rv9 h9 ⟨rfl, I2, L2, rfl, p1, p2, p3⟩
          refine tv_iincN (k := (k + 1)) (ls' := [some (.ref 55), some (.int (nI (nNow X))), some (.int (nI ((k + 1) + 1))), some (.ref (ah k)), some (.int 1)]) rfl rfl rfl ?_
          refine tv_b (pc' := 7) (ls' := [some (.ref 55), some (.int (nI (nNow X))), some (.int (nI ((k + 1) + 1))), some (.ref (ah k)), some (.int 1)]) (st' := []) (h' := (n, sl, wKK kk, I2, L2, wQQ q)) 1 rfl ?_
          have hkn : kn X (k + 1) = true := kn_t (by omega) (by omega) (by omega)
          have hl2 := LI_s (b := true) hC hC2 hk hA hah hinj hl hd2 (hfk.trans hfb) hR1 (by omega) hR4 hJ0 p1 p2 p3
          refine ih (k + 1) (updf fk (k + 1) true) _ _ _ _ (by omega) hl2 (fun i hi => ?_) (fun i hi => ?_)
          · unfold updf
            by_cases e : i = k
            · subst e; rw [if_pos rfl, hkn]
            · rw [if_neg (by omega)]; exact hd1 i (by omega)
          · unfold updf; rw [if_neg (by omega)]; exact hd2 i (by omega)
        · refine tv_b (pc' := 41) (ls' := [some (.ref 55), some (.int (nI (nNow X))), some (.int (nI (k + 1))), some (.ref (ah k)), o4]) (st' := [.ref (ah k)]) (h' := (n, sl, wKK kk, I1, L1, wQQ q)) 1 rfl ?_
          refine tv_gfa rfl (Or.inl rfl) (am_acK (hBk k hk).2) ?_
          refine tv_top (hv7) ?_
          refine tv_b (pc' := (if (nI (vdN X (k + 1))) ≤ (nI (nNow X)) then 52 else 48)) (ls' := [some (.ref 55), some (.int (nI (nNow X))), some (.int (nI (k + 1))), some (.ref (ah k)), o4]) (st' := []) (h' := (n, sl, wKK kk, I1, L1, wQQ q)) 2 rfl ?_
          refine tv_ifq (nI_leI (a := (vdN X (k + 1))) (b := (nNow X)) (by omega) (by omega)) (fun c45 => ?_) (fun c45 => ?_)
          · refine tv_b (pc' := 58) (ls' := [some (.ref 55), some (.int (nI (nNow X))), some (.int (nI (k + 1))), some (.ref (ah k)), some (.int 0)]) (st' := [.ref (ah k), .int 0]) (h' := (n, sl, wKK kk, I1, L1, wQQ q)) 4 rfl ?_
            refine tv_gfa rfl (Or.inr rfl) (am_acK (hBk k hk).2) ?_
            refine tv_top (h8) ?_
            refine tv_b (pc' := 98) (ls' := [some (.ref 55), some (.int (nI (nNow X))), some (.int (nI (k + 1))), some (.ref (ah k)), some (.int 0)]) (st' := []) (h' := (n, sl, wKK kk, I1, L1, wQQ q)) 1 rfl ?_
            refine tv_iincN (k := (k + 1)) (ls' := [some (.ref 55), some (.int (nI (nNow X))), some (.int (nI ((k + 1) + 1))), some (.ref (ah k)), some (.int 0)]) rfl rfl rfl ?_
            refine tv_b (pc' := 7) (ls' := [some (.ref 55), some (.int (nI (nNow X))), some (.int (nI ((k + 1) + 1))), some (.ref (ah k)), some (.int 0)]) (st' := []) (h' := (n, sl, wKK kk, I1, L1, wQQ q)) 1 rfl ?_
            have hkn : kn X (k + 1) = false := kn_f (by omega)
            refine ih (k + 1) fk _ _ _ _ (by omega) (LI_k hl) (fun i hi => ?_) (fun i hi => hd2 i (by omega))
            by_cases e : i = k
            · subst e; rw [hfk, hfb, hkn]
            · exact hd1 i (by omega)
          · refine tv_b (pc' := 58) (ls' := [some (.ref 55), some (.int (nI (nNow X))), some (.int (nI (k + 1))), some (.ref (ah k)), some (.int 1)]) (st' := [.ref (ah k), .int 1]) (h' := (n, sl, wKK kk, I1, L1, wQQ q)) 5 rfl ?_
            refine tv_gfa rfl (Or.inr rfl) (am_acK (hBk k hk).2) ?_
            refine tv_top (h8) ?_
            refine tv_b (pc' := 67) (ls' := [some (.ref 55), some (.int (nI (nNow X))), some (.int (nI (k + 1))), some (.ref (ah k)), some (.int 1)]) (st' := [.int 1, .ref (ah k)]) (h' := (n, sl, wKK kk, I1, L1, wQQ q)) 3 rfl ?_
            refine tv_pfa rfl (Or.inr ⟨rfl, by decide⟩) (am_acK (hBk k hk).2) ?_
            refine tv_b (pc' := 80) (ls' := [some (.ref 55), some (.int (nI (nNow X))), some (.int (nI (k + 1))), some (.ref (ah k)), some (.int 1)]) (st' := []) (h' := (n, sl, wKK kk, va_up (va_up I1 (ah k) (upd (I1 (ah k)) 8 1)) 55 (upd (va_up I1 (ah k) (upd (I1 (ah k)) 8 1) 55) 4 (((va_up I1 (ah k) (upd (I1 (ah k)) 8 1)) 55 4) + 1)), L1, wQQ q)) 6 rfl ?_
            refine tv_b (pc' := 95) (ls' := [some (.ref 55), some (.int (nI (nNow X))), some (.int (nI (k + 1))), some (.ref (ah k)), some (.int 1)]) (st' := [.int 1, .ref (ah k), .ref 13]) (h' := (n, sl, wKK kk, va_up (va_up I1 (ah k) (upd (I1 (ah k)) 8 1)) 55 (upd (va_up I1 (ah k) (upd (I1 (ah k)) 8 1) 55) 4 (((va_up I1 (ah k) (upd (I1 (ah k)) 8 1)) 55 4) + 1)), L1, wQQ q)) 7 rfl ?_
            refine tv_top (show (1 : Int32) = jI (sgn true) by decide) ?_
            have hJ0 : va_up (va_up I1 (ah k) (upd (I1 (ah k)) 8 1)) 55 (upd (va_up I1 (ah k) (upd (I1 (ah k)) 8 1) 55) 4 (((va_up I1 (ah k) (upd (I1 (ah k)) 8 1)) 55 4) + 1)) = va_up (va_up I1 (ah k) (upd (I1 (ah k)) 8 (bz true))) 55 (upd (I1 55) 4 (I1 55 4 + 1)) := by rw [va_n1 (show 55 ≠ ah k from fun z => hk55 z.symm)]; rfl
            have ht := htk true _ hJ0
            refine tv_cv [.ref (ah k), .int (jI (sgn true))] [] rfl rfl (by omega) rfl (Nat.le_of_ble_eq_true rfl) (Nat.le_of_ble_eq_true rfl) (Or.inr (Or.inr rfl)) (tv_d_take (d := d) (R := R1) (nn := k + 1) (b := true) (hBk k hk).2 hA (by omega) (by omega) ht.1 ht.2.1 (hfk.trans hfb) ht.2.2 (by omega)) ?_
            rintro rv9 h9 ⟨rfl, I2, L2, rfl, p1, p2, p3⟩
            refine tv_iincN (k := (k + 1)) (ls' := [some (.ref 55), some (.int (nI (nNow X))), some (.int (nI ((k + 1) + 1))), some (.ref (ah k)), some (.int 1)]) rfl rfl rfl ?_
            refine tv_b (pc' := 7) (ls' := [some (.ref 55), some (.int (nI (nNow X))), some (.int (nI ((k + 1) + 1))), some (.ref (ah k)), some (.int 1)]) (st' := []) (h' := (n, sl, wKK kk, I2, L2, wQQ q)) 1 rfl ?_
            have hkn : kn X (k + 1) = true := kn_t (by omega) (by omega) (by omega)
            have hl2 := LI_s (b := true) hC hC2 hk hA hah hinj hl hd2 (hfk.trans hfb) hR1 (by omega) hR4 hJ0 p1 p2 p3
            refine ih (k + 1) (updf fk (k + 1) true) _ _ _ _ (by omega) hl2 (fun i hi => ?_) (fun i hi => ?_)
            · unfold updf
              by_cases e : i = k
              · subst e; rw [if_pos rfl, hkn]
              · rw [if_neg (by omega)]; exact hd1 i (by omega)
            · unfold updf; rw [if_neg (by omega)]; exact hd2 i (by omega)
    · have h8 : I1 (ah k) 8 = 1 := by rw [hl.2.2.1 k hk, hfk, hfb]; rfl
      refine tv_b (pc' := 12) (ls' := [some (.ref 55), some (.int (nI (nNow X))), some (.int (nI (k + 1))), o3, o4]) (st' := [.int (I1 55 2), .int (nI (k + 1))]) (h' := (n, sl, wKK kk, I1, L1, wQQ q)) 3 rfl ?_
      refine tv_top (hc55) ?_
      refine tv_b (pc' := (if (nI C) < (nI (k + 1)) then 104 else 15)) (ls' := [some (.ref 55), some (.int (nI (nNow X))), some (.int (nI (k + 1))), o3, o4]) (st' := []) (h' := (n, sl, wKK kk, I1, L1, wQQ q)) 1 rfl ?_
      refine tv_f (fun hq => absurd ((nI_ltI (a := C) (b := (k + 1)) (by omega) (by omega)).mp hq) (by omega)) ?_
      refine tv_b (pc' := 17) (ls' := [some (.ref 55), some (.int (nI (nNow X))), some (.int (nI (k + 1))), o3, o4]) (st' := [.int (nI (k + 1)), .ref 55]) (h' := (n, sl, wKK kk, I1, L1, wQQ q)) 2 rfl ?_
      refine tv_cvE [.int (nI (k + 1))] [] rfl rfl (by omega) rfl (Nat.le_of_ble_eq_true rfl) (Nat.le_of_ble_eq_true rfl) (Or.inr (Or.inr rfl)) (ev_b_act hBk hc55 hC2 hk) ?_
      refine tv_b (pc' := (if (nI (nNow X)) < (nI (k + 1)) then 52 else 33)) (ls' := [some (.ref 55), some (.int (nI (nNow X))), some (.int (nI (k + 1))), some (.ref (ah k)), o4]) (st' := []) (h' := (n, sl, wKK kk, I1, L1, wQQ q)) 6 rfl ?_
      refine tv_ifq (nI_ltI (a := (nNow X)) (b := (k + 1)) (by omega) (by omega)) (fun c30 => ?_) (fun c30 => ?_)
      · refine tv_b (pc' := 58) (ls' := [some (.ref 55), some (.int (nI (nNow X))), some (.int (nI (k + 1))), some (.ref (ah k)), some (.int 0)]) (st' := [.ref (ah k), .int 0]) (h' := (n, sl, wKK kk, I1, L1, wQQ q)) 4 rfl ?_
        refine tv_gfa rfl (Or.inr rfl) (am_acK (hBk k hk).2) ?_
        refine tv_top (h8) ?_
        refine tv_b (pc' := 67) (ls' := [some (.ref 55), some (.int (nI (nNow X))), some (.int (nI (k + 1))), some (.ref (ah k)), some (.int 0)]) (st' := [.int 0, .ref (ah k)]) (h' := (n, sl, wKK kk, I1, L1, wQQ q)) 3 rfl ?_
        refine tv_pfa rfl (Or.inr ⟨rfl, by decide⟩) (am_acK (hBk k hk).2) ?_
        refine tv_b (pc' := 80) (ls' := [some (.ref 55), some (.int (nI (nNow X))), some (.int (nI (k + 1))), some (.ref (ah k)), some (.int 0)]) (st' := []) (h' := (n, sl, wKK kk, va_up (va_up I1 (ah k) (upd (I1 (ah k)) 8 0)) 55 (upd (va_up I1 (ah k) (upd (I1 (ah k)) 8 0) 55) 4 (((va_up I1 (ah k) (upd (I1 (ah k)) 8 0)) 55 4) + 1)), L1, wQQ q)) 6 rfl ?_
        refine tv_b (pc' := 95) (ls' := [some (.ref 55), some (.int (nI (nNow X))), some (.int (nI (k + 1))), some (.ref (ah k)), some (.int 0)]) (st' := [.int (-1), .ref (ah k), .ref 13]) (h' := (n, sl, wKK kk, va_up (va_up I1 (ah k) (upd (I1 (ah k)) 8 0)) 55 (upd (va_up I1 (ah k) (upd (I1 (ah k)) 8 0) 55) 4 (((va_up I1 (ah k) (upd (I1 (ah k)) 8 0)) 55 4) + 1)), L1, wQQ q)) 6 rfl ?_
        refine tv_top (show (-1 : Int32) = jI (sgn false) by decide) ?_
        have hJ0 : va_up (va_up I1 (ah k) (upd (I1 (ah k)) 8 0)) 55 (upd (va_up I1 (ah k) (upd (I1 (ah k)) 8 0) 55) 4 (((va_up I1 (ah k) (upd (I1 (ah k)) 8 0)) 55 4) + 1)) = va_up (va_up I1 (ah k) (upd (I1 (ah k)) 8 (bz false))) 55 (upd (I1 55) 4 (I1 55 4 + 1)) := by rw [va_n1 (show 55 ≠ ah k from fun z => hk55 z.symm)]; rfl
        have ht := htk false _ hJ0
        refine tv_cv [.ref (ah k), .int (jI (sgn false))] [] rfl rfl (by omega) rfl (Nat.le_of_ble_eq_true rfl) (Nat.le_of_ble_eq_true rfl) (Or.inr (Or.inr rfl)) (tv_d_take (d := d) (R := R1) (nn := k + 1) (b := false) (hBk k hk).2 hA (by omega) (by omega) ht.1 ht.2.1 (hfk.trans hfb) ht.2.2 (by omega)) ?_
        rintro rv9 h9 ⟨rfl, I2, L2, rfl, p1, p2, p3⟩
        refine tv_iincN (k := (k + 1)) (ls' := [some (.ref 55), some (.int (nI (nNow X))), some (.int (nI ((k + 1) + 1))), some (.ref (ah k)), some (.int 0)]) rfl rfl rfl ?_
        refine tv_b (pc' := 7) (ls' := [some (.ref 55), some (.int (nI (nNow X))), some (.int (nI ((k + 1) + 1))), some (.ref (ah k)), some (.int 0)]) (st' := []) (h' := (n, sl, wKK kk, I2, L2, wQQ q)) 1 rfl ?_
        have hkn : kn X (k + 1) = false := kn_f (by omega)
        have hl2 := LI_s (b := false) hC hC2 hk hA hah hinj hl hd2 (hfk.trans hfb) hR1 (by omega) hR4 hJ0 p1 p2 p3
        refine ih (k + 1) (updf fk (k + 1) false) _ _ _ _ (by omega) hl2 (fun i hi => ?_) (fun i hi => ?_)
        · unfold updf
          by_cases e : i = k
          · subst e; rw [if_pos rfl, hkn]
          · rw [if_neg (by omega)]; exact hd1 i (by omega)
        · unfold updf; rw [if_neg (by omega)]; exact hd2 i (by omega)
      · refine tv_b (pc' := 34) (ls' := [some (.ref 55), some (.int (nI (nNow X))), some (.int (nI (k + 1))), some (.ref (ah k)), o4]) (st' := [.ref (ah k)]) (h' := (n, sl, wKK kk, I1, L1, wQQ q)) 1 rfl ?_
        refine tv_gfa rfl (Or.inl rfl) (am_acK (hBk k hk).2) ?_
        refine tv_top (hv7) ?_
        refine tv_b (pc' := (if (nI (vdN X (k + 1))) = 0 then 48 else 40)) (ls' := [some (.ref 55), some (.int (nI (nNow X))), some (.int (nI (k + 1))), some (.ref (ah k)), o4]) (st' := []) (h' := (n, sl, wKK kk, I1, L1, wQQ q)) 1 rfl ?_
        refine tv_ifq (nI_eq (a := (vdN X (k + 1))) (b := 0) (by omega) (by omega)) (fun c37 => ?_) (fun c37 => ?_)
        · refine tv_b (pc' := 58) (ls' := [some (.ref 55), some (.int (nI (nNow X))), some (.int (nI (k + 1))), some (.ref (ah k)), some (.int 1)]) (st' := [.ref (ah k), .int 1]) (h' := (n, sl, wKK kk, I1, L1, wQQ q)) 5 rfl ?_
          refine tv_gfa rfl (Or.inr rfl) (am_acK (hBk k hk).2) ?_
          refine tv_top (h8) ?_
          refine tv_b (pc' := 98) (ls' := [some (.ref 55), some (.int (nI (nNow X))), some (.int (nI (k + 1))), some (.ref (ah k)), some (.int 1)]) (st' := []) (h' := (n, sl, wKK kk, I1, L1, wQQ q)) 1 rfl ?_
          refine tv_iincN (k := (k + 1)) (ls' := [some (.ref 55), some (.int (nI (nNow X))), some (.int (nI ((k + 1) + 1))), some (.ref (ah k)), some (.int 1)]) rfl rfl rfl ?_
          refine tv_b (pc' := 7) (ls' := [some (.ref 55), some (.int (nI (nNow X))), some (.int (nI ((k + 1) + 1))), some (.ref (ah k)), some (.int 1)]) (st' := []) (h' := (n, sl, wKK kk, I1, L1, wQQ q)) 1 rfl ?_
          have hkn : kn X (k + 1) = true := kn_t (by omega) (by omega) (by omega)
          refine ih (k + 1) fk _ _ _ _ (by omega) (LI_k hl) (fun i hi => ?_) (fun i hi => hd2 i (by omega))
          by_cases e : i = k
          · subst e; rw [hfk, hfb, hkn]
          · exact hd1 i (by omega)
        · refine tv_b (pc' := 41) (ls' := [some (.ref 55), some (.int (nI (nNow X))), some (.int (nI (k + 1))), some (.ref (ah k)), o4]) (st' := [.ref (ah k)]) (h' := (n, sl, wKK kk, I1, L1, wQQ q)) 1 rfl ?_
          refine tv_gfa rfl (Or.inl rfl) (am_acK (hBk k hk).2) ?_
          refine tv_top (hv7) ?_
          refine tv_b (pc' := (if (nI (vdN X (k + 1))) ≤ (nI (nNow X)) then 52 else 48)) (ls' := [some (.ref 55), some (.int (nI (nNow X))), some (.int (nI (k + 1))), some (.ref (ah k)), o4]) (st' := []) (h' := (n, sl, wKK kk, I1, L1, wQQ q)) 2 rfl ?_
          refine tv_ifq (nI_leI (a := (vdN X (k + 1))) (b := (nNow X)) (by omega) (by omega)) (fun c45 => ?_) (fun c45 => ?_)
          · refine tv_b (pc' := 58) (ls' := [some (.ref 55), some (.int (nI (nNow X))), some (.int (nI (k + 1))), some (.ref (ah k)), some (.int 0)]) (st' := [.ref (ah k), .int 0]) (h' := (n, sl, wKK kk, I1, L1, wQQ q)) 4 rfl ?_
            refine tv_gfa rfl (Or.inr rfl) (am_acK (hBk k hk).2) ?_
            refine tv_top (h8) ?_
            refine tv_b (pc' := 67) (ls' := [some (.ref 55), some (.int (nI (nNow X))), some (.int (nI (k + 1))), some (.ref (ah k)), some (.int 0)]) (st' := [.int 0, .ref (ah k)]) (h' := (n, sl, wKK kk, I1, L1, wQQ q)) 3 rfl ?_
            refine tv_pfa rfl (Or.inr ⟨rfl, by decide⟩) (am_acK (hBk k hk).2) ?_
            refine tv_b (pc' := 80) (ls' := [some (.ref 55), some (.int (nI (nNow X))), some (.int (nI (k + 1))), some (.ref (ah k)), some (.int 0)]) (st' := []) (h' := (n, sl, wKK kk, va_up (va_up I1 (ah k) (upd (I1 (ah k)) 8 0)) 55 (upd (va_up I1 (ah k) (upd (I1 (ah k)) 8 0) 55) 4 (((va_up I1 (ah k) (upd (I1 (ah k)) 8 0)) 55 4) + 1)), L1, wQQ q)) 6 rfl ?_
            refine tv_b (pc' := 95) (ls' := [some (.ref 55), some (.int (nI (nNow X))), some (.int (nI (k + 1))), some (.ref (ah k)), some (.int 0)]) (st' := [.int (-1), .ref (ah k), .ref 13]) (h' := (n, sl, wKK kk, va_up (va_up I1 (ah k) (upd (I1 (ah k)) 8 0)) 55 (upd (va_up I1 (ah k) (upd (I1 (ah k)) 8 0) 55) 4 (((va_up I1 (ah k) (upd (I1 (ah k)) 8 0)) 55 4) + 1)), L1, wQQ q)) 6 rfl ?_
            refine tv_top (show (-1 : Int32) = jI (sgn false) by decide) ?_
            have hJ0 : va_up (va_up I1 (ah k) (upd (I1 (ah k)) 8 0)) 55 (upd (va_up I1 (ah k) (upd (I1 (ah k)) 8 0) 55) 4 (((va_up I1 (ah k) (upd (I1 (ah k)) 8 0)) 55 4) + 1)) = va_up (va_up I1 (ah k) (upd (I1 (ah k)) 8 (bz false))) 55 (upd (I1 55) 4 (I1 55 4 + 1)) := by rw [va_n1 (show 55 ≠ ah k from fun z => hk55 z.symm)]; rfl
            have ht := htk false _ hJ0
            refine tv_cv [.ref (ah k), .int (jI (sgn false))] [] rfl rfl (by omega) rfl (Nat.le_of_ble_eq_true rfl) (Nat.le_of_ble_eq_true rfl) (Or.inr (Or.inr rfl)) (tv_d_take (d := d) (R := R1) (nn := k + 1) (b := false) (hBk k hk).2 hA (by omega) (by omega) ht.1 ht.2.1 (hfk.trans hfb) ht.2.2 (by omega)) ?_
            rintro rv9 h9 ⟨rfl, I2, L2, rfl, p1, p2, p3⟩
            refine tv_iincN (k := (k + 1)) (ls' := [some (.ref 55), some (.int (nI (nNow X))), some (.int (nI ((k + 1) + 1))), some (.ref (ah k)), some (.int 0)]) rfl rfl rfl ?_
            refine tv_b (pc' := 7) (ls' := [some (.ref 55), some (.int (nI (nNow X))), some (.int (nI ((k + 1) + 1))), some (.ref (ah k)), some (.int 0)]) (st' := []) (h' := (n, sl, wKK kk, I2, L2, wQQ q)) 1 rfl ?_
            have hkn : kn X (k + 1) = false := kn_f (by omega)
            have hl2 := LI_s (b := false) hC hC2 hk hA hah hinj hl hd2 (hfk.trans hfb) hR1 (by omega) hR4 hJ0 p1 p2 p3
            refine ih (k + 1) (updf fk (k + 1) false) _ _ _ _ (by omega) hl2 (fun i hi => ?_) (fun i hi => ?_)
            · unfold updf
              by_cases e : i = k
              · subst e; rw [if_pos rfl, hkn]
              · rw [if_neg (by omega)]; exact hd1 i (by omega)
            · unfold updf; rw [if_neg (by omega)]; exact hd2 i (by omega)
          · refine tv_b (pc' := 58) (ls' := [some (.ref 55), some (.int (nI (nNow X))), some (.int (nI (k + 1))), some (.ref (ah k)), some (.int 1)]) (st' := [.ref (ah k), .int 1]) (h' := (n, sl, wKK kk, I1, L1, wQQ q)) 5 rfl ?_
            refine tv_gfa rfl (Or.inr rfl) (am_acK (hBk k hk).2) ?_
            refine tv_top (h8) ?_
            refine tv_b (pc' := 98) (ls' := [some (.ref 55), some (.int (nI (nNow X))), some (.int (nI (k + 1))), some (.ref (ah k)), some (.int 1)]) (st' := []) (h' := (n, sl, wKK kk, I1, L1, wQQ q)) 1 rfl ?_
            refine tv_iincN (k := (k + 1)) (ls' := [some (.ref 55), some (.int (nI (nNow X))), some (.int (nI ((k + 1) + 1))), some (.ref (ah k)), some (.int 1)]) rfl rfl rfl ?_
            refine tv_b (pc' := 7) (ls' := [some (.ref 55), some (.int (nI (nNow X))), some (.int (nI ((k + 1) + 1))), some (.ref (ah k)), some (.int 1)]) (st' := []) (h' := (n, sl, wKK kk, I1, L1, wQQ q)) 1 rfl ?_
            have hkn : kn X (k + 1) = true := kn_t (by omega) (by omega) (by omega)
            refine ih (k + 1) fk _ _ _ _ (by omega) (LI_k hl) (fun i hi => ?_) (fun i hi => hd2 i (by omega))
            by_cases e : i = k
            · subst e; rw [hfk, hfb, hkn]
            · exact hd1 i (by omega)
theorem tv_b_learn {d n sl : Nat} {kk : Nat → Nat × Nat} {I : Nat → Nat → Int32} {L : Nat → Nat → Int64} {q : Nat → Nat → Option Nat} {X : Nat → Nat → Int32} {C R : Nat} {ah : Nat → Nat} {f : Nat → Bool} (hBk : am_Bk kk q C ah) (hC : nC X = C) (hB : wfB X) (hinj : ∀ i j, i < C → j < C → ah i = ah j → i = j) (hact : ∀ i, i < C → cAct I X (i + 1) (ah i)) (h2 : I 55 2 = X 80 45) (h3 : I 55 3 = X 80 46) (hR4 : R ≤ 400) (hs : cSum I L X f) (hR : I 13 11 = nI R) (hf : ∀ i, i < C → I (ah i) 8 = bz (f (i + 1))) : am_T (d + 3) 14 0 (am_ent 5 [.ref 55]) [] (n, sl, wKK kk, I, L, wQQ q) (fun rv h' => rv = none ∧ ∃ I' L', h' = (n, sl, wKK kk, I', L', wQQ q) ∧ LI X C ah f (kn X) R I L I' L' C) := by
  show am_T _ _ 0 [some (.ref 55), none, none, none, none] _ _ _
  refine tv_b (pc' := 1) (ls' := [some (.ref 55), none, none, none, none]) (st' := [.ref 55]) (h' := (n, sl, wKK kk, I, L, wQQ q)) 1 rfl ?_
  refine tv_cvE [] [] rfl rfl (by omega) rfl (Nat.le_of_ble_eq_true rfl) (Nat.le_of_ble_eq_true rfl) (Or.inr (Or.inr rfl)) (ev_knownAt1 hB h2 h3) ?_
  refine tv_b (pc' := 7) (ls' := [some (.ref 55), some (.int (nI (nNow X))), some (.int 1), none, none]) (st' := []) (h' := (n, sl, wKK kk, I, L, wQQ q)) 3 rfl ?_
  exact tv_b_lrn (o3 := none) (o4 := none) hBk hC hB hinj hact h2 h3 hR4 C 0 f I L none none (by omega) (LI_0 hs hR hf) (fun i hi => absurd hi (Nat.not_lt_zero _)) (fun _ _ => rfl)
