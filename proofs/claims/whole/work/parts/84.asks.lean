/-! WHAT THE REFERENCE ASKS -/
theorem zS_swap {F : Nat → Nat → Int} {n : Nat} : ∀ {m : Nat}, zS (fun c => zS (fun i => F c i) n) m = zS (fun i => zS (fun c => F c i) m) n := by
  intro m
  induction m with
  | zero =>
    show (0 : Int) = zS (fun _ => 0) n
    induction n with
    | zero => rfl
    | succ n ih => rw [zS_s, ← ih]; rfl
  | succ m ih =>
    rw [zS_s, ih, ← zS_add]
    rfl
theorem zS_one {c0 : Nat} {v : Int} : ∀ {m : Nat}, zS (fun c => if c0 = c then v else 0) m = if c0 < m then v else 0 := by
  intro m
  induction m with
  | zero => rw [if_neg (Nat.not_lt_zero _)]; rfl
  | succ m ih =>
    rw [zS_s, ih]
    by_cases h : c0 < m
    · rw [if_pos h, if_neg (by omega), if_pos (by omega), Int.add_zero]
    · rw [if_neg h]
      by_cases h2 : c0 = m
      · rw [if_pos h2, if_pos (by omega), Int.zero_add]
      · rw [if_neg h2, if_neg (by omega), Int.zero_add]
theorem gLi_sum {X : Nat → Nat → Int32} (hB : wfB X) {f : Nat → Bool} (d : Nat) : zS (fun c => gLi X f c d) 16 = gLd X f d := by
  unfold gLi gLd
  rw [zS_swap]
  refine zS_c (fun i hi => ?_)
  by_cases h : f (i + 1) = true ∧ X 107 (i + 1) = 1 ∧ dyN X (i + 1) = d
  · have hc : clN X (i + 1) < 16 := by
      obtain ⟨_, _, _, a | a | a | a | a | a⟩ := hB.2.2 (i + 1) (by omega) (by omega)
      · exfalso; have := h.2.1; rw [this] at a; revert a; rintro ⟨a, _⟩; revert a; decide
      · exact a.2.2.1
      all_goals (exfalso; have := h.2.1; rw [this] at a; revert a; first | (rintro ⟨a, _⟩; revert a; decide) | decide)
    rw [if_pos h]
    have e : (fun c => if f (i + 1) = true ∧ X 107 (i + 1) = 1 ∧ dyN X (i + 1) = d ∧ clN X (i + 1) = c then (X 110 (i + 1)).toInt else 0) = (fun c => if clN X (i + 1) = c then (X 110 (i + 1)).toInt else 0) := by
      funext c
      by_cases k : clN X (i + 1) = c
      · rw [if_pos ⟨h.1, h.2.1, h.2.2, k⟩, if_pos k]
      · rw [if_neg (fun z => k z.2.2.2), if_neg k]
    rw [e, zS_one, if_pos hc]
  · rw [if_neg h]
    have e : (fun c => if f (i + 1) = true ∧ X 107 (i + 1) = 1 ∧ dyN X (i + 1) = d ∧ clN X (i + 1) = c then (X 110 (i + 1)).toInt else 0) = (fun c => if 16 = c then (0 : Int) else 0) := by
      funext c
      rw [if_neg (fun z => h ⟨z.1, z.2.1, z.2.2.1⟩)]
      split <;> rfl
    rw [e, zS_one]
    rfl
/-- the ground has been played -/
def mPl (I : Nat → Nat → Int32) (L : Nat → Nat → Int64) : Prop := (∀ d c, d < 400 → c < 16 → I 117 (16 * d + c) = jI (gLi I (kn I) c d) ∧ I 118 (16 * d + c) = jI (gFr I (kn I) c d)) ∧ (∀ d, d < 400 → L 115 d = jL (gT I (kn I) d) ∧ L 116 d = jL (gM I (kn I) d)) ∧ (∀ D, D ≤ 400 → L 114 D = jL (pS I D).2 ∧ ∀ c, c < 16 → L 113 (16 * D + c) = jL ((pS I D).1 c))
def asL (L : Nat → Nat → Int64) (g1 g2 g3 g4 g5 g6 g7 : Int64) (j i : Nat) : Int64 := cond (Nat.beq j 120) (cond (Nat.beq i 1) g1 (cond (Nat.beq i 2) g2 (cond (Nat.beq i 3) g3 (cond (Nat.beq i 4) g4 (cond (Nat.beq i 5) g5 (cond (Nat.beq i 6) g6 (cond (Nat.beq i 7) g7 (L 120 i)))))))) (L j i)
theorem asL_nb : ∀ {i k : Nat}, ¬ i = k → Nat.beq i k = false := fun h => Bool.eq_false_iff.mpr (fun q => h (Nat.eq_of_beq_eq_true q))
theorem asL_w_g1 {L : Nat → Nat → Int64} {g1 g2 g3 g4 g5 g6 g7 : Int64} {y : Int64} : va_up (asL L g1 g2 g3 g4 g5 g6 g7) 120 (vp_updL ((asL L g1 g2 g3 g4 g5 g6 g7) 120) 1 y) = asL L y g2 g3 g4 g5 g6 g7 := by
  funext j i
  unfold va_up vp_updL
  by_cases hj : j = 120
  · subst hj
    by_cases hi : i = 1
    · subst hi; rfl
    · rw [if_pos rfl, if_neg hi]; unfold asL; simp only [asL_nb hi, cond_false]
  · rw [if_neg hj]; unfold asL; simp only [asL_nb hj, cond_false]
theorem asL_w_g2 {L : Nat → Nat → Int64} {g1 g2 g3 g4 g5 g6 g7 : Int64} {y : Int64} : va_up (asL L g1 g2 g3 g4 g5 g6 g7) 120 (vp_updL ((asL L g1 g2 g3 g4 g5 g6 g7) 120) 2 y) = asL L g1 y g3 g4 g5 g6 g7 := by
  funext j i
  unfold va_up vp_updL
  by_cases hj : j = 120
  · subst hj
    by_cases hi : i = 2
    · subst hi; rfl
    · rw [if_pos rfl, if_neg hi]; unfold asL; simp only [asL_nb hi, cond_false]
  · rw [if_neg hj]; unfold asL; simp only [asL_nb hj, cond_false]
theorem asL_w_g3 {L : Nat → Nat → Int64} {g1 g2 g3 g4 g5 g6 g7 : Int64} {y : Int64} : va_up (asL L g1 g2 g3 g4 g5 g6 g7) 120 (vp_updL ((asL L g1 g2 g3 g4 g5 g6 g7) 120) 3 y) = asL L g1 g2 y g4 g5 g6 g7 := by
  funext j i
  unfold va_up vp_updL
  by_cases hj : j = 120
  · subst hj
    by_cases hi : i = 3
    · subst hi; rfl
    · rw [if_pos rfl, if_neg hi]; unfold asL; simp only [asL_nb hi, cond_false]
  · rw [if_neg hj]; unfold asL; simp only [asL_nb hj, cond_false]
theorem asL_w_g4 {L : Nat → Nat → Int64} {g1 g2 g3 g4 g5 g6 g7 : Int64} {y : Int64} : va_up (asL L g1 g2 g3 g4 g5 g6 g7) 120 (vp_updL ((asL L g1 g2 g3 g4 g5 g6 g7) 120) 4 y) = asL L g1 g2 g3 y g5 g6 g7 := by
  funext j i
  unfold va_up vp_updL
  by_cases hj : j = 120
  · subst hj
    by_cases hi : i = 4
    · subst hi; rfl
    · rw [if_pos rfl, if_neg hi]; unfold asL; simp only [asL_nb hi, cond_false]
  · rw [if_neg hj]; unfold asL; simp only [asL_nb hj, cond_false]
theorem asL_w_g5 {L : Nat → Nat → Int64} {g1 g2 g3 g4 g5 g6 g7 : Int64} {y : Int64} : va_up (asL L g1 g2 g3 g4 g5 g6 g7) 120 (vp_updL ((asL L g1 g2 g3 g4 g5 g6 g7) 120) 5 y) = asL L g1 g2 g3 g4 y g6 g7 := by
  funext j i
  unfold va_up vp_updL
  by_cases hj : j = 120
  · subst hj
    by_cases hi : i = 5
    · subst hi; rfl
    · rw [if_pos rfl, if_neg hi]; unfold asL; simp only [asL_nb hi, cond_false]
  · rw [if_neg hj]; unfold asL; simp only [asL_nb hj, cond_false]
theorem asL_w_g6 {L : Nat → Nat → Int64} {g1 g2 g3 g4 g5 g6 g7 : Int64} {y : Int64} : va_up (asL L g1 g2 g3 g4 g5 g6 g7) 120 (vp_updL ((asL L g1 g2 g3 g4 g5 g6 g7) 120) 6 y) = asL L g1 g2 g3 g4 g5 y g7 := by
  funext j i
  unfold va_up vp_updL
  by_cases hj : j = 120
  · subst hj
    by_cases hi : i = 6
    · subst hi; rfl
    · rw [if_pos rfl, if_neg hi]; unfold asL; simp only [asL_nb hi, cond_false]
  · rw [if_neg hj]; unfold asL; simp only [asL_nb hj, cond_false]
theorem asL_w_g7 {L : Nat → Nat → Int64} {g1 g2 g3 g4 g5 g6 g7 : Int64} {y : Int64} : va_up (asL L g1 g2 g3 g4 g5 g6 g7) 120 (vp_updL ((asL L g1 g2 g3 g4 g5 g6 g7) 120) 7 y) = asL L g1 g2 g3 g4 g5 g6 y := by
  funext j i
  unfold va_up vp_updL
  by_cases hj : j = 120
  · subst hj
    by_cases hi : i = 7
    · subst hi; rfl
    · rw [if_pos rfl, if_neg hi]; unfold asL; simp only [asL_nb hi, cond_false]
  · rw [if_neg hj]; unfold asL; simp only [asL_nb hj, cond_false]
theorem asL_n {L : Nat → Nat → Int64} {g1 g2 g3 g4 g5 g6 g7 : Int64} {j : Nat} (h : j ≠ 120) : asL L g1 g2 g3 g4 g5 g6 g7 j = L j := by
  funext i
  unfold asL
  rw [rdI_nb h]
  rfl
theorem asL_self {L : Nat → Nat → Int64} : L = asL L (L 120 1) (L 120 2) (L 120 3) (L 120 4) (L 120 5) (L 120 6) (L 120 7) := by
  funext j i
  unfold asL
  by_cases h1 : j = 120
  · subst h1
    by_cases z1 : i = 1
    · subst z1; rfl
    · by_cases z2 : i = 2
      · subst z2; rfl
      · by_cases z3 : i = 3
        · subst z3; rfl
        · by_cases z4 : i = 4
          · subst z4; rfl
          · by_cases z5 : i = 5
            · subst z5; rfl
            · by_cases z6 : i = 6
              · subst z6; rfl
              · by_cases z7 : i = 7
                · subst z7; rfl
                · rw [rdI_nb z1, rdI_nb z2, rdI_nb z3, rdI_nb z4, rdI_nb z5, rdI_nb z6, rdI_nb z7]; rfl
  · rw [rdI_nb h1]; rfl
theorem tv_m_aski {d n sl : Nat} {kk : Nat → Nat × Nat} {I : Nat → Nat → Int32} {L : Nat → Nat → Int64} {q : Nat → Nat → Option Nat} {g1 g2 g3 g4 g5 g6 g7 : Int64} {D k : Nat} {Q : Option Value → am_H → Prop} (hD : D < 400) (hk : k < D) (hP : mPl I L) (hB : wfB I) (k1 : am_T d 215 146 [some (.ref 80), some (.int (nI D)), some (.int (nI k)), some (.int (nI 16))] [] (n, sl, wKK kk, I, (asL L g1 g2 g3 g4 g5 g6 (jL (drZ I k + zS (fun c => gLi I (kn I) c k) (16)))), wQQ q) Q) : ∀ m c : Nat, c + m = 16 → am_T d 215 107 [some (.ref 80), some (.int (nI D)), some (.int (nI k)), some (.int (nI c))] [] (n, sl, wKK kk, I, (asL L g1 g2 g3 g4 g5 g6 (jL (drZ I k + zS (fun c => gLi I (kn I) c k) (c)))), wQQ q) Q := by
  intro m
  induction m with
  | zero =>
    intro c hc
    obtain rfl : c = 16 := by omega
    refine tv_b (pc' := (if 16 ≤ (nI 16) then 146 else 113)) (ls' := [some (.ref 80), some (.int (nI D)), some (.int (nI k)), some (.int (nI 16))]) (st' := []) (h' := (n, sl, wKK kk, I, (asL L g1 g2 g3 g4 g5 g6 (jL (drZ I k + zS (fun c => gLi I (kn I) c k) (16)))), wQQ q)) 3 rfl ?_
    refine tv_t ((nI_leI (a := 16) (b := 16) (by omega) (by omega)).mpr (by omega)) ?_
    exact k1
  | succ m ih =>
    intro c hc
    have hv := (hP.1 k c (by omega) (by omega)).1
    have hb : bI (gLi I (kn I) c k) := by
      have h := gLi_b (f := kn I) hB c k
      exact ⟨by omega, by omega⟩
    have ih2 := ih (c + 1) (by omega)
    have e : jL (drZ I k + zS (fun c => gLi I (kn I) c k) c) + (I 117 (16 * k + c)).toInt64 = jL (drZ I k + zS (fun c => gLi I (kn I) c k) (c + 1)) := by
      rw [hv, jI_64 hb, jL_add, zS_s, Int.add_assoc]
    rw [← e] at ih2
    refine tv_b (pc' := (if 16 ≤ (nI c) then 146 else 113)) (ls' := [some (.ref 80), some (.int (nI D)), some (.int (nI k)), some (.int (nI c))]) (st' := []) (h' := (n, sl, wKK kk, I, (asL L g1 g2 g3 g4 g5 g6 (jL (drZ I k + zS (fun c => gLi I (kn I) c k) (c)))), wQQ q)) 3 rfl ?_
    refine tv_f (fun hq => absurd ((nI_leI (a := 16) (b := c) (by omega) (by omega)).mp hq) (by omega)) ?_
    refine tv_b (pc' := (if (nI D) ≤ (nI k) then 146 else 118)) (ls' := [some (.ref 80), some (.int (nI D)), some (.int (nI k)), some (.int (nI c))]) (st' := []) (h' := (n, sl, wKK kk, I, (asL L g1 g2 g3 g4 g5 g6 (jL (drZ I k + zS (fun c => gLi I (kn I) c k) (c)))), wQQ q)) 3 rfl ?_
    refine tv_f (fun hq => absurd ((nI_leI (a := D) (b := k) (by omega) (by omega)).mp hq) (by omega)) ?_
    refine tv_b (pc' := 133) (ls' := [some (.ref 80), some (.int (nI D)), some (.int (nI k)), some (.int (nI c))]) (st' := [.int (nI k), .int 16, .ref 117, .long (jL (drZ I k + zS (fun c => gLi I (kn I) c k) (c))), .int 7, .ref 120]) (h' := (n, sl, wKK kk, I, (asL L g1 g2 g3 g4 g5 g6 (jL (drZ I k + zS (fun c => gLi I (kn I) c k) (c)))), wQQ q)) 9 rfl ?_
    refine tv_b (pc' := 134) (ls' := [some (.ref 80), some (.int (nI D)), some (.int (nI k)), some (.int (nI c))]) (st' := [.int (16 * (nI k)), .ref 117, .long (jL (drZ I k + zS (fun c => gLi I (kn I) c k) (c))), .int 7, .ref 120]) (h' := (n, sl, wKK kk, I, (asL L g1 g2 g3 g4 g5 g6 (jL (drZ I k + zS (fun c => gLi I (kn I) c k) (c)))), wQQ q)) 1 rfl ?_
    refine tv_top (show 16 * (nI k) = nI (16 * k) from nI_mul 16 k) ?_
    refine tv_b (pc' := 135) (ls' := [some (.ref 80), some (.int (nI D)), some (.int (nI k)), some (.int (nI c))]) (st' := [.int (nI c), .int (nI (16 * k)), .ref 117, .long (jL (drZ I k + zS (fun c => gLi I (kn I) c k) (c))), .int 7, .ref 120]) (h' := (n, sl, wKK kk, I, (asL L g1 g2 g3 g4 g5 g6 (jL (drZ I k + zS (fun c => gLi I (kn I) c k) (c)))), wQQ q)) 1 rfl ?_
    refine tv_b (pc' := 136) (ls' := [some (.ref 80), some (.int (nI D)), some (.int (nI k)), some (.int (nI c))]) (st' := [.int ((nI (16 * k)) + (nI c)), .ref 117, .long (jL (drZ I k + zS (fun c => gLi I (kn I) c k) (c))), .int 7, .ref 120]) (h' := (n, sl, wKK kk, I, (asL L g1 g2 g3 g4 g5 g6 (jL (drZ I k + zS (fun c => gLi I (kn I) c k) (c)))), wQQ q)) 1 rfl ?_
    refine tv_top (show (nI (16 * k)) + (nI c) = nI ((16 * k) + c) from nI_add (16 * k) c) ?_
    refine tv_ialN (k := ((16 * k) + c)) rfl (rfl) (⟨by omega, by omega⟩) ?_
    refine tv_b (pc' := 140) (ls' := [some (.ref 80), some (.int (nI D)), some (.int (nI k)), some (.int (nI c))]) (st' := []) (h' := (n, sl, wKK kk, I, va_up (asL L g1 g2 g3 g4 g5 g6 (jL (drZ I k + zS (fun c => gLi I (kn I) c k) (c)))) 120 (vp_updL ((asL L g1 g2 g3 g4 g5 g6 (jL (drZ I k + zS (fun c => gLi I (kn I) c k) (c)))) 120) 7 ((jL (drZ I k + zS (fun c => gLi I (kn I) c k) (c))) + ((I 117 ((16 * k) + c)).toInt64))), wQQ q)) 3 rfl ?_
    refine tv_hL asL_w_g7 ?_
    refine tv_iincN (k := c) (ls' := [some (.ref 80), some (.int (nI D)), some (.int (nI k)), some (.int (nI (c + 1)))]) rfl rfl rfl ?_
    refine tv_b (pc' := 107) (ls' := [some (.ref 80), some (.int (nI D)), some (.int (nI k)), some (.int (nI (c + 1)))]) (st' := []) (h' := (n, sl, wKK kk, I, (asL L g1 g2 g3 g4 g5 g6 ((jL (drZ I k + zS (fun c => gLi I (kn I) c k) (c))) + ((I 117 ((16 * k) + c)).toInt64))), wQQ q)) 1 rfl ?_
    exact ih2
theorem tv_m_asko {d n sl : Nat} {kk : Nat → Nat × Nat} {I : Nat → Nat → Int32} {L : Nat → Nat → Int64} {q : Nat → Nat → Option Nat} {g1 g2 g3 g4 g5 g6 g7 : Int64} {D : Nat} {Q : Option Value → am_H → Prop} (hD : D < 400) (hP : mPl I L) (hT : wfT I) (hB : wfB I) (k1 : ∀ o3, am_T d 215 152 [some (.ref 80), some (.int (nI D)), some (.int (nI (D + 1))), o3] [] (n, sl, wKK kk, I, (asL L g1 g2 (jL (wsZ I D)) g4 g5 g6 (jL (drZ I D))), wQQ q) Q) : ∀ m k : Nat, k + m = D + 1 → ∀ o3, am_T d 215 63 [some (.ref 80), some (.int (nI D)), some (.int (nI k)), o3] [] (n, sl, wKK kk, I, (asL L g1 g2 (jL (wsZ I (k - 1))) g4 g5 g6 (jL (drZ I (min (k) D)))), wQQ q) Q := by
  intro m
  induction m with
  | zero =>
    intro k hk o3
    obtain rfl : k = D + 1 := by omega
    rw [show D + 1 - 1 = D by omega, show min (D + 1) D = D by omega]
    refine tv_b (pc' := (if (nI D) < (nI (D + 1)) then 152 else 68)) (ls' := [some (.ref 80), some (.int (nI D)), some (.int (nI (D + 1))), o3]) (st' := []) (h' := (n, sl, wKK kk, I, (asL L g1 g2 (jL (wsZ I D)) g4 g5 g6 (jL (drZ I D))), wQQ q)) 3 rfl ?_
    refine tv_t ((nI_ltI (a := D) (b := (D + 1)) (by omega) (by omega)).mpr (by omega)) ?_
    exact k1 o3
  | succ m ih =>
    intro k hk o3
    have hl := (hP.2.2 k (by omega)).1
    have hb1 := (pS_b hT hB k (by omega)).2
    have hb2 := wsZ_b hT hB (k - 1) (by omega)
    have hmax : (if lg_cmp (L 114 k) (jL (wsZ I (k - 1))) ≤ 0 then jL (wsZ I (k - 1)) else L 114 k) = jL (wsZ I (k + 1 - 1)) := by
      have e : wsZ I (k + 1 - 1) = max (wsZ I (k - 1)) (pS I k).2 := by
        rw [show k + 1 - 1 = k by omega]
        cases k with
        | zero => rfl
        | succ k => rfl
      rw [hl, e]
      by_cases c : wsZ I (k - 1) < (pS I k).2
      · rw [if_neg (by rw [cmp_le, jL_lt ⟨by omega, by omega⟩ ⟨by omega, by omega⟩]; omega)]
        exact congrArg jL (by omega)
      · rw [if_pos (by rw [cmp_le, jL_lt ⟨by omega, by omega⟩ ⟨by omega, by omega⟩]; omega)]
        exact congrArg jL (by omega)
    have ih2 := fun o3 => ih (k + 1) (by omega) o3
    rw [← hmax] at ih2
    by_cases hkD : k < D
    · show am_T _ _ 63 [some (.ref 80), some (.int (nI D)), some (.int (nI k)), o3] _ _ _
      refine tv_b (pc' := (if (nI D) < (nI k) then 152 else 68)) (ls' := [some (.ref 80), some (.int (nI D)), some (.int (nI k)), o3]) (st' := []) (h' := (n, sl, wKK kk, I, (asL L g1 g2 (jL (wsZ I (k - 1))) g4 g5 g6 (jL (drZ I (min (k) D)))), wQQ q)) 3 rfl ?_
      refine tv_f (fun hq => absurd ((nI_ltI (a := D) (b := k) (by omega) (by omega)).mp hq) (by omega)) ?_
      refine tv_b (pc' := 78) (ls' := [some (.ref 80), some (.int (nI D)), some (.int (nI k)), o3]) (st' := [.int (nI k), .ref 114, .int 3, .ref 120]) (h' := (n, sl, wKK kk, I, (asL L g1 g2 (jL (wsZ I (k - 1))) g4 g5 g6 (jL (drZ I (min (k) D)))), wQQ q)) 6 rfl ?_
      refine tv_lalN (k := k) rfl (rfl) (⟨by omega, by omega⟩) ?_
      refine tv_b (pc' := (if (lg_cmp (L 114 k) (jL (wsZ I (k - 1)))) ≤ 0 then 98 else 89)) (ls' := [some (.ref 80), some (.int (nI D)), some (.int (nI k)), o3]) (st' := [.int 3, .ref 120]) (h' := (n, sl, wKK kk, I, (asL L g1 g2 (jL (wsZ I (k - 1))) g4 g5 g6 (jL (drZ I (min (k) D)))), wQQ q)) 6 rfl ?_
      refine tv_if (fun c86 => ?_) (fun c86 => ?_)
      · refine tv_b (pc' := 104) (ls' := [some (.ref 80), some (.int (nI D)), some (.int (nI k)), o3]) (st' := [.long (jL (wsZ I (k - 1))), .int 3, .ref 120]) (h' := (n, sl, wKK kk, I, (asL L g1 g2 (jL (wsZ I (k - 1))) g4 g5 g6 (jL (drZ I (min (k) D)))), wQQ q)) 4 rfl ?_
        rw [if_pos c86] at ih2
        refine tv_b (pc' := 105) (ls' := [some (.ref 80), some (.int (nI D)), some (.int (nI k)), o3]) (st' := []) (h' := (n, sl, wKK kk, I, va_up (asL L g1 g2 (jL (wsZ I (k - 1))) g4 g5 g6 (jL (drZ I (min (k) D)))) 120 (vp_updL ((asL L g1 g2 (jL (wsZ I (k - 1))) g4 g5 g6 (jL (drZ I (min (k) D)))) 120) 3 (jL (wsZ I (k - 1)))), wQQ q)) 1 rfl ?_
        refine tv_hL asL_w_g3 ?_
        refine tv_b (pc' := 107) (ls' := [some (.ref 80), some (.int (nI D)), some (.int (nI k)), some (.int 0)]) (st' := []) (h' := (n, sl, wKK kk, I, (asL L g1 g2 (jL (wsZ I (k - 1))) g4 g5 g6 (jL (drZ I (min (k) D)))), wQQ q)) 2 rfl ?_
        have e0 : jL (drZ I (min k D)) = jL (drZ I k + zS (fun c => gLi I (kn I) c k) 0) := congrArg jL (by rw [show min k D = k by omega]; exact (Int.add_zero _).symm)
        rw [e0]
        refine tv_m_aski (g3 := (jL (wsZ I (k - 1)))) (g7 := 0) hD hkD hP hB ?_ 16 0 (by omega)
        have e1 : jL (drZ I (min (k + 1) D)) = jL (drZ I k + zS (fun c => gLi I (kn I) c k) 16) := congrArg jL (by rw [show min (k + 1) D = k + 1 by omega, gLi_sum hB]; rfl)
        rw [e1] at ih2
        refine tv_iincN (k := k) (ls' := [some (.ref 80), some (.int (nI D)), some (.int (nI (k + 1))), some (.int (nI 16))]) rfl rfl rfl ?_
        refine tv_b (pc' := 63) (ls' := [some (.ref 80), some (.int (nI D)), some (.int (nI (k + 1))), some (.int (nI 16))]) (st' := []) (h' := (n, sl, wKK kk, I, (asL L g1 g2 (jL (wsZ I (k - 1))) g4 g5 g6 (jL (drZ I k + zS (fun c => gLi I (kn I) c k) 16))), wQQ q)) 1 rfl ?_
        exact ih2 _
      · refine tv_b (pc' := 94) (ls' := [some (.ref 80), some (.int (nI D)), some (.int (nI k)), o3]) (st' := [.int (nI k), .ref 114, .int 3, .ref 120]) (h' := (n, sl, wKK kk, I, (asL L g1 g2 (jL (wsZ I (k - 1))) g4 g5 g6 (jL (drZ I (min (k) D)))), wQQ q)) 3 rfl ?_
        refine tv_lalN (k := k) rfl (rfl) (⟨by omega, by omega⟩) ?_
        refine tv_b (pc' := 104) (ls' := [some (.ref 80), some (.int (nI D)), some (.int (nI k)), o3]) (st' := [.long (L 114 k), .int 3, .ref 120]) (h' := (n, sl, wKK kk, I, (asL L g1 g2 (jL (wsZ I (k - 1))) g4 g5 g6 (jL (drZ I (min (k) D)))), wQQ q)) 1 rfl ?_
        rw [if_neg c86] at ih2
        refine tv_b (pc' := 105) (ls' := [some (.ref 80), some (.int (nI D)), some (.int (nI k)), o3]) (st' := []) (h' := (n, sl, wKK kk, I, va_up (asL L g1 g2 (jL (wsZ I (k - 1))) g4 g5 g6 (jL (drZ I (min (k) D)))) 120 (vp_updL ((asL L g1 g2 (jL (wsZ I (k - 1))) g4 g5 g6 (jL (drZ I (min (k) D)))) 120) 3 (L 114 k)), wQQ q)) 1 rfl ?_
        refine tv_hL asL_w_g3 ?_
        refine tv_b (pc' := 107) (ls' := [some (.ref 80), some (.int (nI D)), some (.int (nI k)), some (.int 0)]) (st' := []) (h' := (n, sl, wKK kk, I, (asL L g1 g2 (L 114 k) g4 g5 g6 (jL (drZ I (min (k) D)))), wQQ q)) 2 rfl ?_
        have e0 : jL (drZ I (min k D)) = jL (drZ I k + zS (fun c => gLi I (kn I) c k) 0) := congrArg jL (by rw [show min k D = k by omega]; exact (Int.add_zero _).symm)
        rw [e0]
        refine tv_m_aski (g3 := L 114 k) (g7 := 0) hD hkD hP hB ?_ 16 0 (by omega)
        have e1 : jL (drZ I (min (k + 1) D)) = jL (drZ I k + zS (fun c => gLi I (kn I) c k) 16) := congrArg jL (by rw [show min (k + 1) D = k + 1 by omega, gLi_sum hB]; rfl)
        rw [e1] at ih2
        refine tv_iincN (k := k) (ls' := [some (.ref 80), some (.int (nI D)), some (.int (nI (k + 1))), some (.int (nI 16))]) rfl rfl rfl ?_
        refine tv_b (pc' := 63) (ls' := [some (.ref 80), some (.int (nI D)), some (.int (nI (k + 1))), some (.int (nI 16))]) (st' := []) (h' := (n, sl, wKK kk, I, (asL L g1 g2 (L 114 k) g4 g5 g6 (jL (drZ I k + zS (fun c => gLi I (kn I) c k) 16))), wQQ q)) 1 rfl ?_
        exact ih2 _
    · show am_T _ _ 63 [some (.ref 80), some (.int (nI D)), some (.int (nI k)), o3] _ _ _
      refine tv_b (pc' := (if (nI D) < (nI k) then 152 else 68)) (ls' := [some (.ref 80), some (.int (nI D)), some (.int (nI k)), o3]) (st' := []) (h' := (n, sl, wKK kk, I, (asL L g1 g2 (jL (wsZ I (k - 1))) g4 g5 g6 (jL (drZ I (min (k) D)))), wQQ q)) 3 rfl ?_
      refine tv_f (fun hq => absurd ((nI_ltI (a := D) (b := k) (by omega) (by omega)).mp hq) (by omega)) ?_
      refine tv_b (pc' := 78) (ls' := [some (.ref 80), some (.int (nI D)), some (.int (nI k)), o3]) (st' := [.int (nI k), .ref 114, .int 3, .ref 120]) (h' := (n, sl, wKK kk, I, (asL L g1 g2 (jL (wsZ I (k - 1))) g4 g5 g6 (jL (drZ I (min (k) D)))), wQQ q)) 6 rfl ?_
      refine tv_lalN (k := k) rfl (rfl) (⟨by omega, by omega⟩) ?_
      refine tv_b (pc' := (if (lg_cmp (L 114 k) (jL (wsZ I (k - 1)))) ≤ 0 then 98 else 89)) (ls' := [some (.ref 80), some (.int (nI D)), some (.int (nI k)), o3]) (st' := [.int 3, .ref 120]) (h' := (n, sl, wKK kk, I, (asL L g1 g2 (jL (wsZ I (k - 1))) g4 g5 g6 (jL (drZ I (min (k) D)))), wQQ q)) 6 rfl ?_
      refine tv_if (fun c86 => ?_) (fun c86 => ?_)
      · refine tv_b (pc' := 104) (ls' := [some (.ref 80), some (.int (nI D)), some (.int (nI k)), o3]) (st' := [.long (jL (wsZ I (k - 1))), .int 3, .ref 120]) (h' := (n, sl, wKK kk, I, (asL L g1 g2 (jL (wsZ I (k - 1))) g4 g5 g6 (jL (drZ I (min (k) D)))), wQQ q)) 4 rfl ?_
        rw [if_pos c86] at ih2
        refine tv_b (pc' := 105) (ls' := [some (.ref 80), some (.int (nI D)), some (.int (nI k)), o3]) (st' := []) (h' := (n, sl, wKK kk, I, va_up (asL L g1 g2 (jL (wsZ I (k - 1))) g4 g5 g6 (jL (drZ I (min (k) D)))) 120 (vp_updL ((asL L g1 g2 (jL (wsZ I (k - 1))) g4 g5 g6 (jL (drZ I (min (k) D)))) 120) 3 (jL (wsZ I (k - 1)))), wQQ q)) 1 rfl ?_
        refine tv_hL asL_w_g3 ?_
        refine tv_b (pc' := 107) (ls' := [some (.ref 80), some (.int (nI D)), some (.int (nI k)), some (.int 0)]) (st' := []) (h' := (n, sl, wKK kk, I, (asL L g1 g2 (jL (wsZ I (k - 1))) g4 g5 g6 (jL (drZ I (min (k) D)))), wQQ q)) 2 rfl ?_
        have e1 : min (k + 1) D = min k D := by omega
        rw [e1] at ih2
        refine tv_b (pc' := (if (nI D) ≤ (nI k) then 146 else 118)) (ls' := [some (.ref 80), some (.int (nI D)), some (.int (nI k)), some (.int 0)]) (st' := []) (h' := (n, sl, wKK kk, I, (asL L g1 g2 (jL (wsZ I (k - 1))) g4 g5 g6 (jL (drZ I (min (k) D)))), wQQ q)) 6 rfl ?_
        refine tv_t ((nI_leI (a := D) (b := k) (by omega) (by omega)).mpr (by omega)) ?_
        refine tv_iincN (k := k) (ls' := [some (.ref 80), some (.int (nI D)), some (.int (nI (k + 1))), some (.int 0)]) rfl rfl rfl ?_
        refine tv_b (pc' := 63) (ls' := [some (.ref 80), some (.int (nI D)), some (.int (nI (k + 1))), some (.int 0)]) (st' := []) (h' := (n, sl, wKK kk, I, (asL L g1 g2 (jL (wsZ I (k - 1))) g4 g5 g6 (jL (drZ I (min (k) D)))), wQQ q)) 1 rfl ?_
        exact ih2 _
      · refine tv_b (pc' := 94) (ls' := [some (.ref 80), some (.int (nI D)), some (.int (nI k)), o3]) (st' := [.int (nI k), .ref 114, .int 3, .ref 120]) (h' := (n, sl, wKK kk, I, (asL L g1 g2 (jL (wsZ I (k - 1))) g4 g5 g6 (jL (drZ I (min (k) D)))), wQQ q)) 3 rfl ?_
        refine tv_lalN (k := k) rfl (rfl) (⟨by omega, by omega⟩) ?_
        refine tv_b (pc' := 104) (ls' := [some (.ref 80), some (.int (nI D)), some (.int (nI k)), o3]) (st' := [.long (L 114 k), .int 3, .ref 120]) (h' := (n, sl, wKK kk, I, (asL L g1 g2 (jL (wsZ I (k - 1))) g4 g5 g6 (jL (drZ I (min (k) D)))), wQQ q)) 1 rfl ?_
        rw [if_neg c86] at ih2
        refine tv_b (pc' := 105) (ls' := [some (.ref 80), some (.int (nI D)), some (.int (nI k)), o3]) (st' := []) (h' := (n, sl, wKK kk, I, va_up (asL L g1 g2 (jL (wsZ I (k - 1))) g4 g5 g6 (jL (drZ I (min (k) D)))) 120 (vp_updL ((asL L g1 g2 (jL (wsZ I (k - 1))) g4 g5 g6 (jL (drZ I (min (k) D)))) 120) 3 (L 114 k)), wQQ q)) 1 rfl ?_
        refine tv_hL asL_w_g3 ?_
        refine tv_b (pc' := 107) (ls' := [some (.ref 80), some (.int (nI D)), some (.int (nI k)), some (.int 0)]) (st' := []) (h' := (n, sl, wKK kk, I, (asL L g1 g2 (L 114 k) g4 g5 g6 (jL (drZ I (min (k) D)))), wQQ q)) 2 rfl ?_
        have e1 : min (k + 1) D = min k D := by omega
        rw [e1] at ih2
        refine tv_b (pc' := (if (nI D) ≤ (nI k) then 146 else 118)) (ls' := [some (.ref 80), some (.int (nI D)), some (.int (nI k)), some (.int 0)]) (st' := []) (h' := (n, sl, wKK kk, I, (asL L g1 g2 (L 114 k) g4 g5 g6 (jL (drZ I (min (k) D)))), wQQ q)) 6 rfl ?_
        refine tv_t ((nI_leI (a := D) (b := k) (by omega) (by omega)).mpr (by omega)) ?_
        refine tv_iincN (k := k) (ls' := [some (.ref 80), some (.int (nI D)), some (.int (nI (k + 1))), some (.int 0)]) rfl rfl rfl ?_
        refine tv_b (pc' := 63) (ls' := [some (.ref 80), some (.int (nI D)), some (.int (nI (k + 1))), some (.int 0)]) (st' := []) (h' := (n, sl, wKK kk, I, (asL L g1 g2 (L 114 k) g4 g5 g6 (jL (drZ I (min (k) D)))), wQQ q)) 1 rfl ?_
        exact ih2 _
set_option maxHeartbeats 4000000 in
theorem tv_m_asksOn {d n sl : Nat} {kk : Nat → Nat × Nat} {I : Nat → Nat → Int32} {L : Nat → Nat → Int64} {q : Nat → Nat → Option Nat} {D : Nat} (hD : D < 400) (hP : mPl I L) (hT : wfT I) (hB : wfB I) : am_T (d + 3) 215 0 (am_ent 4 [.ref 80, .int (nI D)]) [] (n, sl, wKK kk, I, L, wQQ q) (fun rv h' => rv = none ∧ ∃ L', h' = (n, sl, wKK kk, I, L', wQQ q) ∧ (∀ j, j ≠ 80 → j ≠ 120 → L' j = L j) ∧ (∀ i, i ≠ 57 → i ≠ 58 → L' 80 i = L 80 i) ∧ L' 80 57 = jL (tot I D) ∧ L' 80 58 = jL (mom I D (pS I D).2) ∧ ∀ i, i < 7 → L' 120 (i + 1) = jL (fcZ I D i)) := by
  refine tv_hL asL_self ?_
  have hl := (hP.2.2 D (by omega)).1
  have hb := (pS_b hT hB D (by omega)).2
  have hb1 := (pS_b hT hB (D - 1) (by omega)).2
  have hl0 := (hP.2.2 0 (by omega)).1
  show am_T _ _ 0 [some (.ref 80), some (.int (nI D)), none, none] _ _ _
  refine tv_b (pc' := 10) (ls' := [some (.ref 80), some (.int (nI D)), none, none]) (st' := [.int (nI D), .ref 114, .int 1, .ref 120]) (h' := (n, sl, wKK kk, I, (asL L (L 120 1) (L 120 2) (L 120 3) (L 120 4) (L 120 5) (L 120 6) (L 120 7)), wQQ q)) 6 rfl ?_
  refine tv_lalN (k := D) rfl (rfl) (⟨by omega, by omega⟩) ?_
  refine tv_b (pc' := 12) (ls' := [some (.ref 80), some (.int (nI D)), none, none]) (st' := []) (h' := (n, sl, wKK kk, I, va_up (asL L (L 120 1) (L 120 2) (L 120 3) (L 120 4) (L 120 5) (L 120 6) (L 120 7)) 120 (vp_updL ((asL L (L 120 1) (L 120 2) (L 120 3) (L 120 4) (L 120 5) (L 120 6) (L 120 7)) 120) 1 (L 114 D)), wQQ q)) 1 rfl ?_
  refine tv_hL asL_w_g1 ?_
  refine tv_b (pc' := (if (nI D) = 0 then 21 else 25)) (ls' := [some (.ref 80), some (.int (nI D)), none, none]) (st' := [.int 2, .ref 120]) (h' := (n, sl, wKK kk, I, (asL L (L 114 D) (L 120 2) (L 120 3) (L 120 4) (L 120 5) (L 120 6) (L 120 7)), wQQ q)) 5 rfl ?_
  refine tv_ifq (nI_eq (a := D) (b := 0) (by omega) (by omega)) (fun c18 => ?_) (fun c18 => ?_)
  · refine tv_b (pc' := 41) (ls' := [some (.ref 80), some (.int (nI D)), none, none]) (st' := []) (h' := (n, sl, wKK kk, I, va_up (asL L (L 114 D) (L 120 2) (L 120 3) (L 120 4) (L 120 5) (L 120 6) (L 120 7)) 120 (vp_updL ((asL L (L 114 D) (L 120 2) (L 120 3) (L 120 4) (L 120 5) (L 120 6) (L 120 7)) 120) 2 0), wQQ q)) 3 rfl ?_
    refine tv_hL asL_w_g2 ?_
    refine tv_b (pc' := 53) (ls' := [some (.ref 80), some (.int (nI D)), none, none]) (st' := []) (h' := (n, sl, wKK kk, I, va_up (asL L (L 114 D) 0 (L 120 3) (L 120 4) (L 120 5) (L 120 6) (L 120 7)) 120 (vp_updL ((asL L (L 114 D) 0 (L 120 3) (L 120 4) (L 120 5) (L 120 6) (L 120 7)) 120) 3 (L 114 0)), wQQ q)) 8 rfl ?_
    refine tv_hL asL_w_g3 ?_
    refine tv_b (pc' := 61) (ls' := [some (.ref 80), some (.int (nI D)), none, none]) (st' := []) (h' := (n, sl, wKK kk, I, va_up (asL L (L 114 D) 0 (L 114 0) (L 120 4) (L 120 5) (L 120 6) (L 120 7)) 120 (vp_updL ((asL L (L 114 D) 0 (L 114 0) (L 120 4) (L 120 5) (L 120 6) (L 120 7)) 120) 7 0), wQQ q)) 5 rfl ?_
    refine tv_hL asL_w_g7 ?_
    refine tv_b (pc' := 63) (ls' := [some (.ref 80), some (.int (nI D)), some (.int 0), none]) (st' := []) (h' := (n, sl, wKK kk, I, (asL L (L 114 D) 0 (L 114 0) (L 120 4) (L 120 5) (L 120 6) 0), wQQ q)) 2 rfl ?_
    have e2 : 0 = jL (fcZ I D 1) := by
      unfold fcZ; rw [if_neg (by decide), if_pos rfl, if_neg (by omega)]; rfl
    have e3 : L 114 0 = jL (wsZ I (0 - 1)) := hl0
    have e7 : (0 : Int64) = jL (drZ I (min 0 D)) := by rw [show min 0 D = 0 by omega]; rfl
    refine tv_hL (L' := (asL L (L 114 D) (jL (fcZ I D 1)) (jL (wsZ I (0 - 1))) (L 120 4) (L 120 5) (L 120 6) (jL (drZ I (min 0 D))))) (by rw [← e2, ← e3, ← e7]) ?_
    refine tv_m_asko (g3 := 0) (g7 := 0) hD hP hT hB (fun o3 => ?_) (D + 1) 0 (by omega) none
    refine tv_b (pc' := 159) (ls' := [some (.ref 80), some (.int (nI D)), some (.int (nI (D + 1))), o3]) (st' := [.int (nI D), .ref 80, .int 4, .ref 120]) (h' := (n, sl, wKK kk, I, (asL L (L 114 D) (jL (fcZ I D 1)) (jL (wsZ I D)) (L 120 4) (L 120 5) (L 120 6) (jL (drZ I D))), wQQ q)) 5 rfl ?_
    refine tv_cvE [.int (nI D)] [.int 4, .ref 120] rfl rfl (by omega) rfl (Nat.le_of_ble_eq_true rfl) (Nat.le_of_ble_eq_true rfl) (Or.inr (Or.inr rfl)) (ev_m_waterOn hD) ?_
    refine tv_b (pc' := 164) (ls' := [some (.ref 80), some (.int (nI D)), some (.int (nI (D + 1))), o3]) (st' := []) (h' := (n, sl, wKK kk, I, va_up (asL L (L 114 D) (jL (fcZ I D 1)) (jL (wsZ I D)) (L 120 4) (L 120 5) (L 120 6) (jL (drZ I D))) 120 (vp_updL ((asL L (L 114 D) (jL (fcZ I D 1)) (jL (wsZ I D)) (L 120 4) (L 120 5) (L 120 6) (jL (drZ I D))) 120) 4 ((wf 50 (I 101) (I 100) D).toInt64)), wQQ q)) 2 rfl ?_
    refine tv_hL asL_w_g4 ?_
    refine tv_b (pc' := 172) (ls' := [some (.ref 80), some (.int (nI D)), some (.int (nI (D + 1))), o3]) (st' := []) (h' := (n, sl, wKK kk, I, va_up (asL L (L 114 D) (jL (fcZ I D 1)) (jL (wsZ I D)) ((wf 50 (I 101) (I 100) D).toInt64) (L 120 5) (L 120 6) (jL (drZ I D))) 120 (vp_updL ((asL L (L 114 D) (jL (fcZ I D 1)) (jL (wsZ I D)) ((wf 50 (I 101) (I 100) D).toInt64) (L 120 5) (L 120 6) (jL (drZ I D))) 120) 5 ((nI D).toInt64)), wQQ q)) 6 rfl ?_
    refine tv_hL asL_w_g5 ?_
    refine tv_b (pc' := 183) (ls' := [some (.ref 80), some (.int (nI D)), some (.int (nI (D + 1))), o3]) (st' := [.int (nI D), .ref 115, .int 6, .ref 120]) (h' := (n, sl, wKK kk, I, (asL L (L 114 D) (jL (fcZ I D 1)) (jL (wsZ I D)) ((wf 50 (I 101) (I 100) D).toInt64) ((nI D).toInt64) (L 120 6) (jL (drZ I D))), wQQ q)) 6 rfl ?_
    refine tv_lalN (k := D) rfl (rfl) (⟨by omega, by omega⟩) ?_
    refine tv_b (pc' := 185) (ls' := [some (.ref 80), some (.int (nI D)), some (.int (nI (D + 1))), o3]) (st' := []) (h' := (n, sl, wKK kk, I, va_up (asL L (L 114 D) (jL (fcZ I D 1)) (jL (wsZ I D)) ((wf 50 (I 101) (I 100) D).toInt64) ((nI D).toInt64) (L 120 6) (jL (drZ I D))) 120 (vp_updL ((asL L (L 114 D) (jL (fcZ I D 1)) (jL (wsZ I D)) ((wf 50 (I 101) (I 100) D).toInt64) ((nI D).toInt64) (L 120 6) (jL (drZ I D))) 120) 6 (L 115 D)), wQQ q)) 1 rfl ?_
    refine tv_hL asL_w_g6 ?_
    refine tv_b (pc' := 192) (ls' := [some (.ref 80), some (.int (nI D)), some (.int (nI (D + 1))), o3]) (st' := [.int (nI D), .ref 114, .int (nI D), .ref 80]) (h' := (n, sl, wKK kk, I, (asL L (L 114 D) (jL (fcZ I D 1)) (jL (wsZ I D)) ((wf 50 (I 101) (I 100) D).toInt64) ((nI D).toInt64) (L 115 D) (jL (drZ I D))), wQQ q)) 5 rfl ?_
    refine tv_lalN (k := D) rfl (rfl) (⟨by omega, by omega⟩) ?_
    refine tv_topJ hl ?_
    refine tv_cvE [.int (nI D), .long (jL (pS I D).2)] [] rfl rfl (by omega) rfl (Nat.le_of_ble_eq_true rfl) (Nat.le_of_ble_eq_true rfl) (Or.inr (Or.inr rfl)) (ev_m_weighs hD) ?_
    have hw := weigh_v (I := I) (L := (asL L (L 114 D) (jL (fcZ I D 1)) (jL (wsZ I D)) ((wf 50 (I 101) (I 100) D).toInt64) ((nI D).toInt64) (L 115 D) (jL (drZ I D)))) (D := D) hT hb (hP.2.1 D hD).1 (hP.2.1 D hD).2
    obtain ⟨w1, w2, w3, w4⟩ := hw
    refine tv_rv rfl ⟨rfl, _, rfl, fun j h1 h2 => (w3 j h1).trans (asL_n h2), fun i h1 h2 => w4 i h1 h2, w1, w2, fun i hi => ?_⟩
    rw [w3 120 (by decide)]
    have hwb := wat_b hT hD
    have : i = 0 ∨ i = 1 ∨ i = 2 ∨ i = 3 ∨ i = 4 ∨ i = 5 ∨ i = 6 := by omega
    rcases this with z | z | z | z | z | z | z <;> subst z
    · exact hl
    · rfl
    · rfl
    · show (wf 50 (I 101) (I 100) D).toInt64 = _
      rw [i64_j]; rfl
    · show (nI D).toInt64 = _
      rw [nI_j, jI_64 ⟨by omega, by omega⟩]; rfl
    · exact (hP.2.1 D hD).1
    · rfl
  · refine tv_b (pc' := 30) (ls' := [some (.ref 80), some (.int (nI D)), none, none]) (st' := [.int (nI D), .ref 114, .int 2, .ref 120]) (h' := (n, sl, wKK kk, I, (asL L (L 114 D) (L 120 2) (L 120 3) (L 120 4) (L 120 5) (L 120 6) (L 120 7)), wQQ q)) 3 rfl ?_
    refine tv_lalN (k := D) rfl (rfl) (⟨by omega, by omega⟩) ?_
    refine tv_b (pc' := 37) (ls' := [some (.ref 80), some (.int (nI D)), none, none]) (st' := [.int 1, .int (nI D), .ref 114, .long (L 114 D), .int 2, .ref 120]) (h' := (n, sl, wKK kk, I, (asL L (L 114 D) (L 120 2) (L 120 3) (L 120 4) (L 120 5) (L 120 6) (L 120 7)), wQQ q)) 4 rfl ?_
    refine tv_b (pc' := 38) (ls' := [some (.ref 80), some (.int (nI D)), none, none]) (st' := [.int ((nI D) - 1), .ref 114, .long (L 114 D), .int 2, .ref 120]) (h' := (n, sl, wKK kk, I, (asL L (L 114 D) (L 120 2) (L 120 3) (L 120 4) (L 120 5) (L 120 6) (L 120 7)), wQQ q)) 1 rfl ?_
    refine tv_top (show (nI D) - 1 = nI (D - 1) from nI_sub (a := D) (b := 1) (by omega)) ?_
    refine tv_lalN (k := (D - 1)) rfl (rfl) (⟨by omega, by omega⟩) ?_
    refine tv_b (pc' := 41) (ls' := [some (.ref 80), some (.int (nI D)), none, none]) (st' := []) (h' := (n, sl, wKK kk, I, va_up (asL L (L 114 D) (L 120 2) (L 120 3) (L 120 4) (L 120 5) (L 120 6) (L 120 7)) 120 (vp_updL ((asL L (L 114 D) (L 120 2) (L 120 3) (L 120 4) (L 120 5) (L 120 6) (L 120 7)) 120) 2 ((L 114 D) - (L 114 (D - 1)))), wQQ q)) 2 rfl ?_
    refine tv_hL asL_w_g2 ?_
    refine tv_b (pc' := 53) (ls' := [some (.ref 80), some (.int (nI D)), none, none]) (st' := []) (h' := (n, sl, wKK kk, I, va_up (asL L (L 114 D) ((L 114 D) - (L 114 (D - 1))) (L 120 3) (L 120 4) (L 120 5) (L 120 6) (L 120 7)) 120 (vp_updL ((asL L (L 114 D) ((L 114 D) - (L 114 (D - 1))) (L 120 3) (L 120 4) (L 120 5) (L 120 6) (L 120 7)) 120) 3 (L 114 0)), wQQ q)) 8 rfl ?_
    refine tv_hL asL_w_g3 ?_
    refine tv_b (pc' := 61) (ls' := [some (.ref 80), some (.int (nI D)), none, none]) (st' := []) (h' := (n, sl, wKK kk, I, va_up (asL L (L 114 D) ((L 114 D) - (L 114 (D - 1))) (L 114 0) (L 120 4) (L 120 5) (L 120 6) (L 120 7)) 120 (vp_updL ((asL L (L 114 D) ((L 114 D) - (L 114 (D - 1))) (L 114 0) (L 120 4) (L 120 5) (L 120 6) (L 120 7)) 120) 7 0), wQQ q)) 5 rfl ?_
    refine tv_hL asL_w_g7 ?_
    refine tv_b (pc' := 63) (ls' := [some (.ref 80), some (.int (nI D)), some (.int 0), none]) (st' := []) (h' := (n, sl, wKK kk, I, (asL L (L 114 D) ((L 114 D) - (L 114 (D - 1))) (L 114 0) (L 120 4) (L 120 5) (L 120 6) 0), wQQ q)) 2 rfl ?_
    have e2 : (L 114 D) - (L 114 (D - 1)) = jL (fcZ I D 1) := by
      have e3 := (hP.2.2 (D - 1) (by omega)).1
      unfold fcZ; rw [if_neg (by decide), if_pos rfl, if_pos (by omega), hl, e3, jL_sub]
    have e3 : L 114 0 = jL (wsZ I (0 - 1)) := hl0
    have e7 : (0 : Int64) = jL (drZ I (min 0 D)) := by rw [show min 0 D = 0 by omega]; rfl
    refine tv_hL (L' := (asL L (L 114 D) (jL (fcZ I D 1)) (jL (wsZ I (0 - 1))) (L 120 4) (L 120 5) (L 120 6) (jL (drZ I (min 0 D))))) (by rw [← e2, ← e3, ← e7]) ?_
    refine tv_m_asko (g3 := 0) (g7 := 0) hD hP hT hB (fun o3 => ?_) (D + 1) 0 (by omega) none
    refine tv_b (pc' := 159) (ls' := [some (.ref 80), some (.int (nI D)), some (.int (nI (D + 1))), o3]) (st' := [.int (nI D), .ref 80, .int 4, .ref 120]) (h' := (n, sl, wKK kk, I, (asL L (L 114 D) (jL (fcZ I D 1)) (jL (wsZ I D)) (L 120 4) (L 120 5) (L 120 6) (jL (drZ I D))), wQQ q)) 5 rfl ?_
    refine tv_cvE [.int (nI D)] [.int 4, .ref 120] rfl rfl (by omega) rfl (Nat.le_of_ble_eq_true rfl) (Nat.le_of_ble_eq_true rfl) (Or.inr (Or.inr rfl)) (ev_m_waterOn hD) ?_
    refine tv_b (pc' := 164) (ls' := [some (.ref 80), some (.int (nI D)), some (.int (nI (D + 1))), o3]) (st' := []) (h' := (n, sl, wKK kk, I, va_up (asL L (L 114 D) (jL (fcZ I D 1)) (jL (wsZ I D)) (L 120 4) (L 120 5) (L 120 6) (jL (drZ I D))) 120 (vp_updL ((asL L (L 114 D) (jL (fcZ I D 1)) (jL (wsZ I D)) (L 120 4) (L 120 5) (L 120 6) (jL (drZ I D))) 120) 4 ((wf 50 (I 101) (I 100) D).toInt64)), wQQ q)) 2 rfl ?_
    refine tv_hL asL_w_g4 ?_
    refine tv_b (pc' := 172) (ls' := [some (.ref 80), some (.int (nI D)), some (.int (nI (D + 1))), o3]) (st' := []) (h' := (n, sl, wKK kk, I, va_up (asL L (L 114 D) (jL (fcZ I D 1)) (jL (wsZ I D)) ((wf 50 (I 101) (I 100) D).toInt64) (L 120 5) (L 120 6) (jL (drZ I D))) 120 (vp_updL ((asL L (L 114 D) (jL (fcZ I D 1)) (jL (wsZ I D)) ((wf 50 (I 101) (I 100) D).toInt64) (L 120 5) (L 120 6) (jL (drZ I D))) 120) 5 ((nI D).toInt64)), wQQ q)) 6 rfl ?_
    refine tv_hL asL_w_g5 ?_
    refine tv_b (pc' := 183) (ls' := [some (.ref 80), some (.int (nI D)), some (.int (nI (D + 1))), o3]) (st' := [.int (nI D), .ref 115, .int 6, .ref 120]) (h' := (n, sl, wKK kk, I, (asL L (L 114 D) (jL (fcZ I D 1)) (jL (wsZ I D)) ((wf 50 (I 101) (I 100) D).toInt64) ((nI D).toInt64) (L 120 6) (jL (drZ I D))), wQQ q)) 6 rfl ?_
    refine tv_lalN (k := D) rfl (rfl) (⟨by omega, by omega⟩) ?_
    refine tv_b (pc' := 185) (ls' := [some (.ref 80), some (.int (nI D)), some (.int (nI (D + 1))), o3]) (st' := []) (h' := (n, sl, wKK kk, I, va_up (asL L (L 114 D) (jL (fcZ I D 1)) (jL (wsZ I D)) ((wf 50 (I 101) (I 100) D).toInt64) ((nI D).toInt64) (L 120 6) (jL (drZ I D))) 120 (vp_updL ((asL L (L 114 D) (jL (fcZ I D 1)) (jL (wsZ I D)) ((wf 50 (I 101) (I 100) D).toInt64) ((nI D).toInt64) (L 120 6) (jL (drZ I D))) 120) 6 (L 115 D)), wQQ q)) 1 rfl ?_
    refine tv_hL asL_w_g6 ?_
    refine tv_b (pc' := 192) (ls' := [some (.ref 80), some (.int (nI D)), some (.int (nI (D + 1))), o3]) (st' := [.int (nI D), .ref 114, .int (nI D), .ref 80]) (h' := (n, sl, wKK kk, I, (asL L (L 114 D) (jL (fcZ I D 1)) (jL (wsZ I D)) ((wf 50 (I 101) (I 100) D).toInt64) ((nI D).toInt64) (L 115 D) (jL (drZ I D))), wQQ q)) 5 rfl ?_
    refine tv_lalN (k := D) rfl (rfl) (⟨by omega, by omega⟩) ?_
    refine tv_topJ hl ?_
    refine tv_cvE [.int (nI D), .long (jL (pS I D).2)] [] rfl rfl (by omega) rfl (Nat.le_of_ble_eq_true rfl) (Nat.le_of_ble_eq_true rfl) (Or.inr (Or.inr rfl)) (ev_m_weighs hD) ?_
    have hw := weigh_v (I := I) (L := (asL L (L 114 D) (jL (fcZ I D 1)) (jL (wsZ I D)) ((wf 50 (I 101) (I 100) D).toInt64) ((nI D).toInt64) (L 115 D) (jL (drZ I D)))) (D := D) hT hb (hP.2.1 D hD).1 (hP.2.1 D hD).2
    obtain ⟨w1, w2, w3, w4⟩ := hw
    refine tv_rv rfl ⟨rfl, _, rfl, fun j h1 h2 => (w3 j h1).trans (asL_n h2), fun i h1 h2 => w4 i h1 h2, w1, w2, fun i hi => ?_⟩
    rw [w3 120 (by decide)]
    have hwb := wat_b hT hD
    have : i = 0 ∨ i = 1 ∨ i = 2 ∨ i = 3 ∨ i = 4 ∨ i = 5 ∨ i = 6 := by omega
    rcases this with z | z | z | z | z | z | z <;> subst z
    · exact hl
    · rfl
    · rfl
    · show (wf 50 (I 101) (I 100) D).toInt64 = _
      rw [i64_j]; rfl
    · show (nI D).toInt64 = _
      rw [nI_j, jI_64 ⟨by omega, by omega⟩]; rfl
    · exact (hP.2.1 D hD).1
    · rfl
