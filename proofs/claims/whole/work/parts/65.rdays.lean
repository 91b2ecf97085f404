/-! THE REFERENCE'S DAYS ARE THE GROUND'S -/
theorem vu_n {f : Nat → Int64} {k j : Nat} {x : Int64} (h : j ≠ k) : vp_updL f k x j = f j := if_neg h
theorem vu_e {f : Nat → Int64} {k : Nat} {x : Int64} : vp_updL f k x k = x := if_pos rfl
theorem zS_ext {f : Nat → Int} {m : Nat} : ∀ {n : Nat}, m ≤ n → (∀ k, m ≤ k → k < n → f k = 0) → zS f n = zS f m := by
  intro n
  induction n with
  | zero => intro h _; rw [Nat.le_zero.mp h]
  | succ n ih =>
    intro h e
    by_cases c : m = n + 1
    · rw [c]
    · show zS f n + f n = _
      rw [ih (by omega) (fun k h1 h2 => e k h1 (by omega)), e n (by omega) (by omega)]
      omega
section R65
variable {I I2 : Nat → Nat → Int32} {L L2 : Nat → Nat → Int64}
theorem now_N (hB : wfB I) : sp_m_now I L = nI (nNow I) ∧ nNow I ≤ nC I := by
  unfold sp_m_now nNow
  obtain ⟨⟨h1, h2⟩, h3, _⟩ := hB
  by_cases c : I 80 46 = -1
  · rw [if_pos c, if_pos c]; exact ⟨h1, Nat.le_refl _⟩
  · rw [if_neg c, if_neg c]
    rcases h3 with h3 | h3
    · exact absurd h3 c
    · exact h3
theorem now_cl (hB : wfB I) : (sp_m_now I L).toNatClampNeg = nNow I := by
  rw [(now_N hB).1, nI_clamp (by have := (now_N (L := L) hB).2; have := hB.1.2; omega)]
theorem known_k (hB : wfB I) {n : Nat} (h1 : 1 ≤ n) (h2 : n ≤ nC I) : sp_m_isKnown (nI n) I L = (if kn I n = true then 1 else 0) := by
  obtain ⟨hn, hn2⟩ := now_N (L := L) hB
  have hc := hB.1.2
  obtain ⟨⟨hv, hv2⟩, _⟩ := hB.2.2 n h1 h2
  have hcl : (nI n).toNatClampNeg = n := nI_clamp (by omega)
  unfold sp_m_isKnown
  rw [hn, hcl, if_neg (show ¬ nI n < 1 from nI_nlt (b := 1) h1 (by omega))]
  by_cases c : n ≤ nNow I
  · rw [if_neg (nI_nlt c (by omega)), hv]
    by_cases c0 : vdN I n = 0
    · rw [c0, if_pos (show nI 0 = 0 from rfl), if_pos (by unfold kn; rw [decide_eq_true_iff]; exact ⟨h1, c, Or.inl c0⟩)]
    · rw [if_neg (show ¬ nI (vdN I n) = 0 from fun h => c0 ((nI_eq (b := 0) (by omega) (by omega)).mp h))]
      by_cases c1 : vdN I n ≤ nNow I
      · rw [if_pos ((nI_leI (by omega) (by omega)).mpr c1), if_neg (by unfold kn; rw [decide_eq_true_iff]; rintro ⟨_, _, h | h⟩ <;> omega)]
      · rw [if_neg (fun h => c1 ((nI_leI (by omega) (by omega)).mp h)), if_pos (by unfold kn; rw [decide_eq_true_iff]; exact ⟨h1, c, Or.inr (by omega)⟩)]
  · rw [if_pos (nI_lt (by omega) (by omega)), if_neg (by unfold kn; rw [decide_eq_true_iff]; rintro ⟨_, h, _⟩; omega)]
theorem kn_hi {n : Nat} (h : nNow I < n) : kn I n = false := by
  unfold kn
  rw [decide_eq_false_iff_not]
  rintro ⟨_, h2, _⟩
  omega
/-- rows of the book and tower alike -/
def rE (I X : Nat → Nat → Int32) : Prop := (∀ j, 94 ≤ j → j ≤ 112 → I j = X j) ∧ I 80 45 = X 80 45 ∧ I 80 46 = X 80 46
theorem kn_c {X : Nat → Nat → Int32} (h : rE I X) : nC I = nC X ∧ nNow I = nNow X ∧ kn I = kn X := by
  obtain ⟨h1, h2, h3⟩ := h
  have a : nC I = nC X := by unfold nC; rw [h2]
  have b : nNow I = nNow X := by unfold nNow; rw [h3, a]
  refine ⟨a, b, ?_⟩
  funext n
  unfold kn vdN
  rw [b, h1 112 (by omega) (by omega)]
theorem wfB_c {X : Nat → Nat → Int32} (h : rE I X) (hB : wfB X) : wfB I := by
  obtain ⟨a, b, _⟩ := kn_c h
  obtain ⟨h1, h2, h3⟩ := h
  unfold wfB wfA vdN dyN thN clN
  rw [a, h2, h3, h1 107 (by omega) (by omega), h1 108 (by omega) (by omega), h1 109 (by omega) (by omega), h1 110 (by omega) (by omega), h1 111 (by omega) (by omega), h1 112 (by omega) (by omega)]
  exact hB
theorem wfT_c {X : Nat → Nat → Int32} (h : rE I X) (hT : wfT X) : wfT I := by
  obtain ⟨h1, h2, h3⟩ := h
  unfold wfT
  rw [h1 94 (by omega) (by omega), h1 95 (by omega) (by omega), h1 96 (by omega) (by omega), h1 97 (by omega) (by omega), h1 98 (by omega) (by omega), h1 99 (by omega) (by omega), h1 100 (by omega) (by omega)]
  exact hT
theorem g_c {X : Nat → Nat → Int32} (h : rE I X) (f : Nat → Bool) : (∀ d, gT I f d = gT X f d) ∧ (∀ d, gM I f d = gM X f d) ∧ (∀ c d, gLi I f c d = gLi X f c d) ∧ (∀ d, gLd I f d = gLd X f d) ∧ (∀ c d, gFr I f c d = gFr X f c d) := by
  obtain ⟨a, b, _⟩ := kn_c h
  obtain ⟨h1, h2, h3⟩ := h
  unfold gT gM gLi gLd gFr dyN thN clN
  rw [a, h1 107 (by omega) (by omega), h1 108 (by omega) (by omega), h1 109 (by omega) (by omega), h1 110 (by omega) (by omega), h1 111 (by omega) (by omega)]
  exact ⟨fun _ => rfl, fun _ => rfl, fun _ _ => rfl, fun _ => rfl, fun _ _ => rfl⟩
theorem dG_c {X : Nat → Nat → Int32} (h : rE I X) : (∀ d, tot I d = tot X d) ∧ (∀ d l, mom I d l = mom X d l) ∧ (∀ d, watZ I d = watZ X d) ∧ (∀ c d l, dG I c d l = dG X c d l) ∧ (∀ f c d, wkZ I f c d = wkZ X f c d) := by
  have g := fun f => g_c h f
  have hk := (kn_c h).2.2
  obtain ⟨h1, h2, h3⟩ := h
  have e1 : ∀ d, tot I d = tot X d := by intro d; unfold tot; rw [hk, (g _).1, h1 95 (by omega) (by omega)]
  have e2 : ∀ d l, mom I d l = mom X d l := by intro d l; unfold mom oh; rw [hk, (g _).2.1, h1 95 (by omega) (by omega), h1 96 (by omega) (by omega), h1 97 (by omega) (by omega)]
  have e3 : ∀ d, watZ I d = watZ X d := by intro d; unfold watZ; rw [h1 101 (by omega) (by omega), h1 100 (by omega) (by omega)]
  have e5 : ∀ f c d, wkZ I f c d = wkZ X f c d := by intro f c d; unfold wkZ; rw [(g f).2.2.1, (g f).2.2.2.2, (g f).2.2.2.2]
  refine ⟨e1, e2, e3, ?_, e5⟩
  intro c d l
  unfold dG prZ
  rw [e1, e2, e3, e5, hk, h1 94 (by omega) (by omega)]
theorem pS_c {X : Nat → Nat → Int32} (h : rE I X) : ∀ D, pS I D = pS X D := by
  intro D
  have e := (dG_c h).2.2.2.1
  induction D with
  | zero => rfl
  | succ D ih =>
    show (_, _) = (_, _)
    simp only [ih, e]
/-! what is gathered -/
theorem g0_z : ∀ k m, m < k → (it_m_g0 I L k) 117 m = 0 ∧ (it_m_g0 I L k) 118 m = 0 := by
  intro k
  induction k with
  | zero => intro m h; omega
  | succ k ih =>
    intro m h
    show (bd_m_g0 k (it_m_g0 I L k) L) 117 m = 0 ∧ (bd_m_g0 k (it_m_g0 I L k) L) 118 m = 0
    unfold bd_m_g0
    show (upd ((it_m_g0 I L k) 117) k 0) m = 0 ∧ (upd ((it_m_g0 I L k) 118) k 0) m = 0
    by_cases e : m = k
    · subst e; exact ⟨upd_e, upd_e⟩
    · rw [upd_n e, upd_n e]; exact ih m (by omega)
theorem known_it {N k : Nat} {x : Int32} : sp_m_isKnown x (it_m_g1 N I L k) L = sp_m_isKnown x I L := by
  unfold sp_m_isKnown sp_m_now
  rw [fI_m_g1 N I L (j := 80) (by decide) (by decide) k, fI_m_g1 N I L (j := 112) (by decide) (by decide) k]
theorem ix_in (a b d c : Nat) (hb : b < 16) (hc : c < 16) : 16 * a + b = 16 * d + c ↔ a = d ∧ b = c := by omega
theorem g1_v (hB : wfB I) (I0 : Nat → Nat → Int32) (hI0 : ∀ j, j ≠ 117 → j ≠ 118 → I0 j = I j) (hz : ∀ m, m < 6400 → I0 117 m = 0 ∧ I0 118 m = 0) : ∀ k, k ≤ nNow I → ∀ d c, d < 400 → c < 16 →
    (it_m_g1 (nNow I) I0 L k) 117 (16 * d + c) = jI (zS (fun i => if kn I (i + 1) = true ∧ I 107 (i + 1) = 1 ∧ dyN I (i + 1) = d ∧ clN I (i + 1) = c then (I 110 (i + 1)).toInt else 0) k) ∧
    (it_m_g1 (nNow I) I0 L k) 118 (16 * d + c) = jI (zS (fun i => if kn I (i + 1) = true ∧ I 107 (i + 1) = 2 ∧ dyN I (i + 1) = d ∧ clN I (i + 1) = c then 1 else 0) k) := by
  intro k
  induction k with
  | zero => intro _ d c hd hc; exact hz _ (by omega)
  | succ k ih =>
    intro hk d c hd hc
    have hN := now_N (L := L) hB
    have hcc := hB.1.2
    have hA := hB.2.2 (k + 1) (by omega) (by omega)
    obtain ⟨_, hdy, hdy4, hs⟩ := hA
    have hrow : ∀ j, j ≠ 117 → j ≠ 118 → it_m_g1 (nNow I) I0 L k j = I j := fun j h1 h2 => (fI_m_g1 (nNow I) I0 L h1 h2 k).trans (hI0 j h1 h2)
    have hknw : sp_m_isKnown (nI (k + 1)) (it_m_g1 (nNow I) I0 L k) L = (if kn I (k + 1) = true then 1 else 0) := by
      rw [← known_k (L := L) hB (by omega) (by omega)]
      unfold sp_m_isKnown sp_m_now
      rw [hrow 80 (by decide) (by decide), hrow 112 (by decide) (by decide)]
    have ihd := ih (by omega) d c hd hc
    show (bd_m_g1 (nNow I) k (it_m_g1 (nNow I) I0 L k) L) 117 (16 * d + c) = jI (_ + (if _ then _ else _)) ∧ (bd_m_g1 (nNow I) k (it_m_g1 (nNow I) I0 L k) L) 118 (16 * d + c) = jI (_ + (if _ then _ else _))
    unfold bd_m_g1
    rw [hknw]
    by_cases hkn : kn I (k + 1) = true
    · simp only [hkn, if_true, show ¬ (1 : Int32) = 0 by decide, if_false, true_and, hrow 107 (by decide) (by decide), hrow 108 (by decide) (by decide), hrow 109 (by decide) (by decide), hrow 110 (by decide) (by decide)]
      rcases hs with ⟨h, _⟩ | ⟨h, h9, h16, _⟩ | ⟨h, h9, h16⟩ | ⟨h, _⟩ | h | h
      · simp only [h, show ¬ (0 : Int32) = 1 by decide, show ¬ (0 : Int32) = 2 by decide, if_false, false_and, Int.add_zero]; exact ihd
      · simp only [h, show ¬ (1 : Int32) = 2 by decide, if_false, if_true, false_and, true_and, Int.add_zero]
        have eix : (16 * I 108 (k + 1) + I 109 (k + 1)).toNatClampNeg = 16 * dyN I (k + 1) + clN I (k + 1) := by
          rw [hdy, h9, show (16 : Int32) = nI 16 from rfl, nI_mul, nI_add, nI_clamp (by omega)]
        rw [eix]
        show (upd ((it_m_g1 (nNow I) I0 L k) 117) _ _) (16 * d + c) = _ ∧ (it_m_g1 (nNow I) I0 L k) 118 (16 * d + c) = _
        refine ⟨?_, ihd.2⟩
        by_cases e : dyN I (k + 1) = d ∧ clN I (k + 1) = c
        · rw [if_pos e, ← e.1, ← e.2, upd_e]
          have := (ih (by omega) (dyN I (k + 1)) (clN I (k + 1)) hdy4 h16).1
          rw [this, ← jI_add, jI_self]
        · rw [if_neg e, upd_n (by rw [Ne, ix_in _ _ _ _ hc h16]; rintro ⟨a, b⟩; exact e ⟨a.symm, b.symm⟩), Int.add_zero]
          exact ihd.1
      · simp only [h, show ¬ (2 : Int32) = 1 by decide, if_false, if_true, false_and, true_and, Int.add_zero]
        have eix : (16 * I 108 (k + 1) + I 109 (k + 1)).toNatClampNeg = 16 * dyN I (k + 1) + clN I (k + 1) := by
          rw [hdy, h9, show (16 : Int32) = nI 16 from rfl, nI_mul, nI_add, nI_clamp (by omega)]
        rw [eix]
        show (it_m_g1 (nNow I) I0 L k) 117 (16 * d + c) = _ ∧ (upd ((it_m_g1 (nNow I) I0 L k) 118) _ _) (16 * d + c) = _
        refine ⟨ihd.1, ?_⟩
        by_cases e : dyN I (k + 1) = d ∧ clN I (k + 1) = c
        · rw [if_pos e, ← e.1, ← e.2, upd_e]
          have := (ih (by omega) (dyN I (k + 1)) (clN I (k + 1)) hdy4 h16).2
          rw [this, ← jI_add]
          rfl
        · rw [if_neg e, upd_n (by rw [Ne, ix_in _ _ _ _ hc h16]; rintro ⟨a, b⟩; exact e ⟨a.symm, b.symm⟩), Int.add_zero]
          exact ihd.2
      · simp only [h, show ¬ (3 : Int32) = 1 by decide, show ¬ (3 : Int32) = 2 by decide, if_false, false_and, Int.add_zero]; exact ihd
      · simp only [h, show ¬ (4 : Int32) = 1 by decide, show ¬ (4 : Int32) = 2 by decide, if_false, false_and, Int.add_zero]; exact ihd
      · simp only [h, show ¬ (5 : Int32) = 1 by decide, show ¬ (5 : Int32) = 2 by decide, if_false, false_and, Int.add_zero]; exact ihd
    · simp only [hkn, if_true, if_false, Bool.false_eq_true, false_and, Int.add_zero]; exact ihd
theorem l0_z : ∀ k, (∀ m, m < k → (it_m_l0 I L k) 115 m = 0 ∧ (it_m_l0 I L k) 116 m = 0) ∧ (∀ j, j ≠ 115 → j ≠ 116 → (it_m_l0 I L k) j = L j) := by
  intro k
  induction k with
  | zero => exact ⟨fun m h => by omega, fun j _ _ => rfl⟩
  | succ k ih =>
    refine ⟨fun m h => ?_, fun j h1 h2 => ?_⟩
    · show (vp_updL ((it_m_l0 I L k) 115) k 0) m = 0 ∧ (vp_updL ((it_m_l0 I L k) 116) k 0) m = 0
      by_cases e : m = k
      · subst e; exact ⟨vu_e, vu_e⟩
      · rw [vu_n e, vu_n e]; exact ih.1 m (by omega)
    · show bd_m_l0 k I (it_m_l0 I L k) j = _
      unfold bd_m_l0
      rw [va_n1 h2, va_n1 h1]
      exact ih.2 j h1 h2
theorem l2_v {nn A B : Nat} : ∀ k, (∀ d, (it_m_l2 nn A B I L k) 115 d = (if A ≤ d ∧ d < A + k then L 115 d + (I 109 nn).toInt64 else L 115 d) ∧ (it_m_l2 nn A B I L k) 116 d = (if A ≤ d ∧ d < A + k then L 116 d + (I 109 nn).toInt64 * (I 110 nn).toInt64 else L 116 d)) ∧ (∀ j, j ≠ 115 → j ≠ 116 → (it_m_l2 nn A B I L k) j = L j) := by
  intro k
  induction k with
  | zero => exact ⟨fun d => by rw [if_neg (by omega), if_neg (by omega)]; exact ⟨rfl, rfl⟩, fun j _ _ => rfl⟩
  | succ k ih =>
    refine ⟨fun d => ?_, fun j h1 h2 => ?_⟩
    · show (vp_updL ((it_m_l2 nn A B I L k) 115) (A + k) _) d = _ ∧ (vp_updL ((it_m_l2 nn A B I L k) 116) (A + k) _) d = _
      by_cases e : d = A + k
      · subst e
        rw [vu_e, vu_e, if_pos (by omega), if_pos (by omega), (ih.1 (A + k)).1]
        show _ ∧ (it_m_l2 nn A B I L k) 116 (A + k) + _ = _
        rw [(ih.1 (A + k)).2, if_neg (by omega), if_neg (by omega)]
        exact ⟨rfl, rfl⟩
      · rw [vu_n e, vu_n e, (ih.1 d).1, (ih.1 d).2]
        by_cases c : A ≤ d ∧ d < A + k
        · rw [if_pos c, if_pos c, if_pos (by omega), if_pos (by omega)]; exact ⟨rfl, rfl⟩
        · rw [if_neg c, if_neg c, if_neg (by omega), if_neg (by omega)]; exact ⟨rfl, rfl⟩
    · show bd_m_l2 nn A B k I (it_m_l2 nn A B I L k) j = _
      unfold bd_m_l2
      rw [va_n1 h2, va_n1 h1]
      exact ih.2 j h1 h2
theorem known_L {x : Int32} {L' : Nat → Nat → Int64} : sp_m_isKnown x I L' = sp_m_isKnown x I L := rfl
theorem l1_v (hB : wfB I) (L0 : Nat → Nat → Int64) (hz : ∀ m, m < 400 → L0 115 m = 0 ∧ L0 116 m = 0) : ∀ k, k ≤ nNow I → (∀ d, d < 400 →
    (it_m_l1 (nNow I) I L0 k) 115 d = jL (zS (fun i => if kn I (i + 1) = true ∧ I 107 (i + 1) = 0 ∧ dyN I (i + 1) ≤ d ∧ d ≤ thN I (i + 1) then (I 109 (i + 1)).toInt else 0) k) ∧
    (it_m_l1 (nNow I) I L0 k) 116 d = jL (zS (fun i => if kn I (i + 1) = true ∧ I 107 (i + 1) = 0 ∧ dyN I (i + 1) ≤ d ∧ d ≤ thN I (i + 1) then (I 109 (i + 1)).toInt * (I 110 (i + 1)).toInt else 0) k)) ∧ (∀ j, j ≠ 115 → j ≠ 116 → (it_m_l1 (nNow I) I L0 k) j = L0 j) := by
  intro k
  induction k with
  | zero => intro _; exact ⟨fun d hd => hz d hd, fun j _ _ => rfl⟩
  | succ k ih =>
    intro hk
    have hN := now_N (L := L0) hB
    have hcc := hB.1.2
    have hA := hB.2.2 (k + 1) (by omega) (by omega)
    obtain ⟨_, hdy, hdy4, hs⟩ := hA
    have hknw : sp_m_isKnown (nI (k + 1)) I (it_m_l1 (nNow I) I L0 k) = (if kn I (k + 1) = true then 1 else 0) := known_k (L := it_m_l1 (nNow I) I L0 k) hB (by omega) (by omega)
    have ih1 := ih (by omega)
    have e9 : it_m_l1 (nNow I) I L0 (k + 1) = bd_m_l1 (nNow I) k I (it_m_l1 (nNow I) I L0 k) := rfl
    rw [e9]
    unfold bd_m_l1
    rw [hknw]
    by_cases hkn : kn I (k + 1) = true
    · rw [if_pos hkn, if_neg (by decide)]
      by_cases h0 : I 107 (k + 1) = 0
      · rw [if_pos h0]
        rcases hs with ⟨_, h11, hle, h4, _⟩ | ⟨h, _⟩ | ⟨h, _⟩ | ⟨h, _⟩ | h | h
        · have hl2 := l2_v (nn := k + 1) (A := dyN I (k + 1)) (B := thN I (k + 1)) (I := I) (L := it_m_l1 (nNow I) I L0 k) (thN I (k + 1) + 1 - dyN I (k + 1))
          refine ⟨fun d hd => ?_, fun j h1 h2 => (hl2.2 j h1 h2).trans (ih1.2 j h1 h2)⟩
          obtain ⟨a1, a2⟩ := hl2.1 d
          obtain ⟨b1, b2⟩ := ih1.1 d hd
          show (it_m_l2 (k + 1) (dyN I (k + 1)) (thN I (k + 1)) I (it_m_l1 (nNow I) I L0 k) (thN I (k + 1) + 1 - dyN I (k + 1))) 115 d = jL (_ + (if _ then _ else _)) ∧ (it_m_l2 (k + 1) (dyN I (k + 1)) (thN I (k + 1)) I (it_m_l1 (nNow I) I L0 k) (thN I (k + 1) + 1 - dyN I (k + 1))) 116 d = jL (_ + (if _ then _ else _))
          rw [a1, a2, b1, b2, i64_j (I 109 (k + 1)), i64_j (I 110 (k + 1)), jL_mul]
          by_cases c : dyN I (k + 1) ≤ d ∧ d ≤ thN I (k + 1)
          · rw [if_pos (show dyN I (k + 1) ≤ d ∧ d < dyN I (k + 1) + (thN I (k + 1) + 1 - dyN I (k + 1)) by omega), if_pos (show dyN I (k + 1) ≤ d ∧ d < dyN I (k + 1) + (thN I (k + 1) + 1 - dyN I (k + 1)) by omega), if_pos ⟨hkn, h0, c⟩, if_pos ⟨hkn, h0, c⟩, jL_add, jL_add]; exact ⟨rfl, rfl⟩
          · rw [if_neg (show ¬ (dyN I (k + 1) ≤ d ∧ d < dyN I (k + 1) + (thN I (k + 1) + 1 - dyN I (k + 1))) by omega), if_neg (show ¬ (dyN I (k + 1) ≤ d ∧ d < dyN I (k + 1) + (thN I (k + 1) + 1 - dyN I (k + 1))) by omega), if_neg (fun q => c q.2.2), if_neg (fun q => c q.2.2), Int.add_zero, Int.add_zero]; exact ⟨rfl, rfl⟩
        all_goals (exfalso; rw [h0] at h; revert h; decide)
      · rw [if_neg h0]
        refine ⟨fun d hd => ?_, ih1.2⟩
        obtain ⟨b1, b2⟩ := ih1.1 d hd
        show _ = jL (_ + (if _ then _ else _)) ∧ _ = jL (_ + (if _ then _ else _))
        rw [if_neg (fun q => h0 q.2.1), if_neg (fun q => h0 q.2.1), Int.add_zero, Int.add_zero]
        exact ⟨b1, b2⟩
    · rw [if_neg hkn, if_pos rfl]
      refine ⟨fun d hd => ?_, ih1.2⟩
      obtain ⟨b1, b2⟩ := ih1.1 d hd
      show _ = jL (_ + (if _ then _ else _)) ∧ _ = jL (_ + (if _ then _ else _))
      rw [if_neg (fun q => hkn q.1), if_neg (fun q => hkn q.1), Int.add_zero, Int.add_zero]
      exact ⟨b1, b2⟩
/-- what gathers leaves -/
theorem gath_v (hB : wfB I) : (∀ j, j ≠ 117 → j ≠ 118 → sI_m_gathers I L j = I j) ∧ (∀ j, j ≠ 115 → j ≠ 116 → sL_m_gathers I L j = L j) ∧ (∀ d, d < 400 → sL_m_gathers I L 115 d = jL (gT I (kn I) d) ∧ sL_m_gathers I L 116 d = jL (gM I (kn I) d)) ∧ (∀ d c, d < 400 → c < 16 → sI_m_gathers I L 117 (16 * d + c) = jI (gLi I (kn I) c d) ∧ sI_m_gathers I L 118 (16 * d + c) = jI (gFr I (kn I) c d)) := by
  have hcl := now_cl (L := L) hB
  have hle := (now_N (L := L) hB).2
  have hfr : ∀ j, j ≠ 117 → j ≠ 118 → it_m_g1 (nNow I) (it_m_g0 I L 6400) L (nNow I) j = I j := fun j h1 h2 => fr_g h1 h2
  have hrE : rE (it_m_g1 (nNow I) (it_m_g0 I L 6400) L (nNow I)) I := ⟨fun j h1 h2 => hfr j (by omega) (by omega), by rw [hfr 80 (by decide) (by decide)], by rw [hfr 80 (by decide) (by decide)]⟩
  have eI : sI_m_gathers I L = it_m_g1 (nNow I) (it_m_g0 I L 6400) L (nNow I) := by
    unfold sI_m_gathers
    rw [hcl, sIe_m_leads]
  have hext : ∀ {F : Nat → Int}, (∀ i, kn I (i + 1) = false → F i = 0) → zS F (nC I) = zS F (nNow I) := fun hF => zS_ext hle (fun i h1 h2 => hF i (kn_hi (by omega)))
  obtain ⟨ka, kb, kc⟩ := kn_c hrE
  have hB2 := wfB_c hrE hB
  have hl := l1_v hB2 (it_m_l0 (it_m_g1 (nNow I) (it_m_g0 I L 6400) L (nNow I)) L 400) (l0_z 400).1 (nNow I) (by rw [kb]; exact Nat.le_refl _)
  have eL : sL_m_gathers I L = it_m_l1 (nNow I) (it_m_g1 (nNow I) (it_m_g0 I L 6400) L (nNow I)) (it_m_l0 (it_m_g1 (nNow I) (it_m_g0 I L 6400) L (nNow I)) L 400) (nNow I) := by
    unfold sL_m_gathers
    rw [hcl]
    unfold sL_m_leads
    rw [now_cl hB2, kb]
  rw [kb, kc, hfr 107 (by decide) (by decide), hfr 109 (by decide) (by decide), hfr 110 (by decide) (by decide)] at hl
  have hdy : dyN (it_m_g1 (nNow I) (it_m_g0 I L 6400) L (nNow I)) = dyN I := by funext n; unfold dyN; rw [hfr 108 (by decide) (by decide)]
  have hth : thN (it_m_g1 (nNow I) (it_m_g0 I L 6400) L (nNow I)) = thN I := by funext n; unfold thN; rw [hfr 111 (by decide) (by decide)]
  rw [hdy, hth] at hl
  refine ⟨fun j h1 h2 => by rw [eI]; exact hfr j h1 h2, fun j h1 h2 => by rw [eL, hl.2 j h1 h2]; exact (l0_z 400).2 j h1 h2, fun d hd => ?_, fun d c hd hc => ?_⟩
  · obtain ⟨a, b⟩ := hl.1 d hd
    rw [eL, a, b]
    unfold gT gM
    rw [hext (fun i h => if_neg (fun q => by rw [h] at q; cases q.1)), hext (fun i h => if_neg (fun q => by rw [h] at q; cases q.1))]
    exact ⟨rfl, rfl⟩
  · have hg := g1_v (L := L) hB (it_m_g0 I L 6400) (fun j h1 h2 => fI_m_g0 I L h1 h2 6400) (fun m hm => g0_z 6400 m hm) (nNow I) (Nat.le_refl _) d c hd hc
    rw [eI, hg.1, hg.2]
    unfold gLi gFr
    rw [hext (fun i h => if_neg (fun q => by rw [h] at q; cases q.1)), hext (fun i h => if_neg (fun q => by rw [h] at q; cases q.1))]
    exact ⟨rfl, rfl⟩
end R65
