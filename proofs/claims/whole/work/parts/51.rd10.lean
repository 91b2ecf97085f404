/-! THE CLASS'S READER: all levels; a statement -/
theorem pa_sum_lf {tx : Nat → Nat} {T : Nat} : ∀ lev p p' cs, pa_sum tx T lev p = .inr (p', cs) → pa_lf tx T p' = none ∧ p + cs.length ≤ p' := by
  have key : ∀ lev inner, (∀ p p' cs, inner p = .inr (p', cs) → p + cs.length ≤ p') → ∀ p p' cs, pa_sumO tx T lev inner p = .inr (p', cs) → pa_lf tx T p' = none ∧ p + cs.length ≤ p' := by
    intro lev inner hin
    have h1 : ∀ p p' cs, pa_part tx T lev inner p = .inr (p', cs) → pa_lf tx T p' = none ∧ p + cs.length ≤ p' := fun p p' cs h => pa_part_lf hin h
    have h2 : ∀ p p' cs, pa_prod tx T lev inner p = .inr (p', cs) → pa_lf tx T p' = none ∧ p + cs.length ≤ p' := fun p p' cs h => pa_row_lf (op := pa_isM) rfl h1 h
    exact fun p p' cs h => pa_row_lf (op := pa_isA) rfl h2 h
  intro lev
  induction lev with
  | zero => exact key 0 _ (fun p p' cs h => by cases h)
  | succ l ih => exact key (l + 1) _ (fun p p' cs h => (ih p p' cs h).2)
theorem pa_test_lf {tx : Nat → Nat} {T : Nat} : ∀ lev p p' cs, pa_test tx T lev p = .inr (p', cs) → pa_lf tx T p' = none ∧ p + cs.length ≤ p' := by
  have key : ∀ lev inner, (∀ p p' cs, inner p = .inr (p', cs) → p + cs.length ≤ p') → ∀ p p' cs, pa_testO tx T lev inner p = .inr (p', cs) → pa_lf tx T p' = none ∧ p + cs.length ≤ p' := by
    intro lev inner hin
    have h1 : ∀ p p' cs, pa_fact tx T lev inner p = .inr (p', cs) → pa_lf tx T p' = none ∧ p + cs.length ≤ p' := fun p p' cs h => pa_fact_lf (pa_sum_lf lev) hin h
    have h2 : ∀ p p' cs, pa_both tx T lev inner p = .inr (p', cs) → pa_lf tx T p' = none ∧ p + cs.length ≤ p' := fun p p' cs h => pa_row_lf (op := fun t => Nat.beq t 8) rfl h1 h
    exact fun p p' cs h => pa_row_lf (op := fun t => Nat.beq t 7) rfl h2 h
  intro lev
  induction lev with
  | zero => exact key 0 _ (fun p p' cs h => by cases h)
  | succ l ih => exact key (l + 1) _ (fun p p' cs h => (ih p p' cs h).2)
theorem tv_r_sumL {n sl : Nat} {kk : Nat → Nat × Nat} {I : Nat → Nat → Int32} {L : Nat → Nat → Int64} {q : Nat → Nat → Option Nat} {tx : Nat → Nat} {T G : Nat} (hH : rdG tx T G I) : ∀ lev o : Nat, o + lev = 8 → rdC tx T G n sl kk I L q 75 4 (7 + 3 * lev) o (pa_sum tx T lev) := by
  have key : ∀ lev o inner, o + lev = 8 → (∀ p p' cs, inner p = .inr (p', cs) → p + cs.length ≤ p') → (0 < lev → rdC tx T G n sl kk I L q 75 4 (4 + 3 * lev) (o + 1) inner) → rdC tx T G n sl kk I L q 75 4 (7 + 3 * lev) o (pa_sumO tx T lev inner) := by
    intro lev o inner ho hin hI
    have h1 := tv_r_part (dp := 5 + 3 * lev) hH ho (by omega) hin (fun h => by rw [show 5 + 3 * lev - 1 = 4 + 3 * lev by omega]; exact hI h)
    have l1 : ∀ p p' cs, pa_part tx T lev inner p = .inr (p', cs) → pa_lf tx T p' = none ∧ p + cs.length ≤ p' := fun p p' cs h => pa_part_lf hin h
    have h2 := tv_r_product hH (by omega) h1 l1
    have l2 : ∀ p p' cs, pa_prod tx T lev inner p = .inr (p', cs) → pa_lf tx T p' = none ∧ p + cs.length ≤ p' := fun p p' cs h => pa_row_lf (op := pa_isM) rfl l1 h
    have h3 := tv_r_sum (q1 := pa_prod tx T lev inner) hH (by omega) h2 l2
    rw [show 7 + 3 * lev = 5 + 3 * lev + 1 + 1 by omega]
    exact h3
  intro lev
  induction lev with
  | zero => exact fun o ho => key 0 o _ ho (fun p p' cs h => by cases h) (fun h => absurd h (Nat.lt_irrefl 0))
  | succ l ih => exact fun o ho => key (l + 1) o _ ho (fun p p' cs h => (pa_sum_lf l p p' cs h).2) (fun _ => by rw [show 4 + 3 * (l + 1) = 7 + 3 * l by omega]; exact ih (o + 1) (by omega))
theorem tv_r_testL {n sl : Nat} {kk : Nat → Nat × Nat} {I : Nat → Nat → Int32} {L : Nat → Nat → Int64} {q : Nat → Nat → Option Nat} {tx : Nat → Nat} {T G : Nat} (hH : rdG tx T G I) : ∀ lev o : Nat, o + lev = 8 → rdC tx T G n sl kk I L q 71 3 (11 + 3 * lev) o (pa_test tx T lev) := by
  have key : ∀ lev o inner, o + lev = 8 → (∀ p p' cs, inner p = .inr (p', cs) → p + cs.length ≤ p') → (0 < lev → rdC tx T G n sl kk I L q 71 3 (8 + 3 * lev) (o + 1) inner) → rdC tx T G n sl kk I L q 71 3 (11 + 3 * lev) o (pa_testO tx T lev inner) := by
    intro lev o inner ho hin hI
    have h0 := tv_r_comparison hH (by omega) (tv_r_sumL (n := n) (sl := sl) (kk := kk) (L := L) (q := q) hH lev o ho) (pa_sum_lf lev)
    rw [show 7 + 3 * lev + 1 = 8 + 3 * lev by omega] at h0
    have h1 := tv_r_fact hH ho (by omega) h0 hI (pa_sum_lf lev) hin
    have l1 : ∀ p p' cs, pa_fact tx T lev inner p = .inr (p', cs) → pa_lf tx T p' = none ∧ p + cs.length ≤ p' := fun p p' cs h => pa_fact_lf (pa_sum_lf lev) hin h
    have h2 := tv_r_both hH (by omega) h1 l1
    have l2 : ∀ p p' cs, pa_both tx T lev inner p = .inr (p', cs) → pa_lf tx T p' = none ∧ p + cs.length ≤ p' := fun p p' cs h => pa_row_lf (op := fun t => Nat.beq t 8) rfl l1 h
    have h3 := tv_r_test (q1 := pa_both tx T lev inner) hH (by omega) h2 l2
    rw [show 11 + 3 * lev = 8 + 3 * lev + 1 + 1 + 1 by omega]
    exact h3
  intro lev
  induction lev with
  | zero => exact fun o ho => key 0 o _ ho (fun p p' cs h => by cases h) (fun h => absurd h (Nat.lt_irrefl 0))
  | succ l ih => exact fun o ho => key (l + 1) o _ ho (fun p p' cs h => (pa_test_lf l p p' cs h).2) (fun _ => by rw [show 8 + 3 * (l + 1) = 11 + 3 * l by omega]; exact ih (o + 1) (by omega))
theorem pa_wtk_len {l : List Nat} {w : Nat} (h : pa_wtk l = w) (hw : w < 21) : l.length = (pa_words.getD w []).length := by
  unfold pa_wtk at h
  by_cases c : pa_words.idxOf l < 21
  · rw [if_pos c] at h
    have e : pa_words.getD w [] = l := by
      rw [← h]
      have h2 : pa_words.idxOf l < pa_words.length := c
      unfold List.getD
      rw [List.getElem?_eq_getElem h2, List.getElem_idxOf h2]
      rfl
    rw [e]
  · rw [if_neg c] at h
    omega
theorem pa_tk_len {tx : Nat → Nat} {T p w : Nat} (h : pa_tk tx T p = w) (hw : w < 21) : p + (pa_words.getD w []).length ≤ pa_ed tx T p := by
  have hs := pa_sk_ge (b := tx) (n := T) p
  unfold pa_tk at h
  simp only at h
  by_cases c : pa_sk tx T p < T
  · rw [if_pos c] at h
    by_cases hl : pa_lt (tx (pa_sk tx T p)) = true
    · rw [if_pos hl] at h
      have e := pa_wtk_len h hw
      rw [pa_bs_len] at e
      unfold pa_ed
      simp only [if_pos c, if_pos hl]
      omega
    · rw [if_neg hl] at h
      exfalso
      by_cases hd : pa_dg (tx (pa_sk tx T p)) = true
      · rw [if_pos hd] at h; omega
      · rw [if_neg hd] at h
        unfold pa_sgn at h
        split at h <;> omega
  · rw [if_neg c] at h
    omega
theorem pa_kw {tx : Nat → Nat} {T p : Nat} (h : pa_tk tx T p = 3 ∨ pa_tk tx T p = 4 ∨ pa_tk tx T p = 5) : p + 4 ≤ pa_ed tx T p := by
  rcases h with h | h | h
  · exact pa_tk_len h (by decide)
  · have := pa_tk_len h (by decide); have e : (pa_words.getD 4 []).length = 5 := rfl; omega
  · have := pa_tk_len h (by decide); have e : (pa_words.getD 5 []).length = 5 := rfl; omega
theorem pa_wr_lo (cs : List Nat) : ∀ (cd : Nat → Int32) (i j : Nat) (x : Int32), i < j → pa_wr (upd cd i x) j cs = upd (pa_wr cd j cs) i x := by
  induction cs with
  | nil => intro cd i j x h; rfl
  | cons c cs ih =>
    intro cd i j x h
    show pa_wr (upd (upd cd i x) j (nI c)) (j + 1) cs = upd (pa_wr (upd cd j (nI c)) (j + 1) cs) i x
    rw [← ih _ _ _ _ (by omega)]
    congr 1
    funext k
    unfold upd
    by_cases e1 : k = i
    · subst e1; rw [if_neg (by omega), if_pos rfl, if_pos rfl]
    · by_cases e2 : k = j
      · rw [if_pos e2, if_neg e1, if_pos e2]
      · rw [if_neg e2, if_neg e1, if_neg e1, if_neg e2]
theorem pa_wr_hd (cd : Nat → Int32) (ce : Nat) (k w z : Nat) (cs : List Nat) (x : Nat) : upd (pa_wr (upd (upd (upd cd ce (nI k)) (ce + 1) (nI w)) (ce + 1 + 1) (nI z)) (ce + 1 + 1 + 1) cs) (ce + 2) (nI x) = pa_wr cd ce (k :: w :: x :: cs) := by
  rw [← pa_wr_lo _ _ _ _ _ (by omega)]
  show _ = pa_wr (upd (upd (upd cd ce (nI k)) (ce + 1) (nI w)) (ce + 1 + 1) (nI x)) (ce + 1 + 1 + 1) cs
  congr 1
  funext i
  unfold upd
  by_cases e : i = ce + 2
  · rw [if_pos e, if_pos (show i = ce + 1 + 1 from e)]
  · rw [if_neg e, if_neg (show ¬ i = ce + 1 + 1 from e), if_neg (show ¬ i = ce + 1 + 1 from e)]
