/-! WHAT A READ MANDATE IS MADE OF -/
theorem pa_stmt_w {b : Nat → Nat} {n p p' k w : Nat} {cs : List Nat} (h : pa_stmt b n p = .inr (p', k, w, cs)) : w ≤ 2 := by
  unfold pa_stmt at h
  cases hl : pa_lf b n p with
  | some f => rw [hl] at h; cases h
  | none =>
    rw [hl] at h
    simp only at h
    by_cases hk : pa_tk b n p = 3 ∨ pa_tk b n p = 4 ∨ pa_tk b n p = 5
    · rw [if_pos hk] at h
      rcases hn : pa_nx b n p with e | ⟨p1, c1⟩
      · rw [hn] at h; cases h
      · rw [hn] at h
        simp only at h
        by_cases h3 : pa_tk b n p = 3
        · simp only [if_pos h3] at h
          split at h
          · cases h
          · split at h
            · have h2 := Sum.inr.inj h
              have h4 := (Prod.mk.inj (Prod.mk.inj (Prod.mk.inj h2).2).2).1
              omega
            · cases h
        · simp only [if_neg h3] at h
          rcases hx : pa_ex b n (Nat.ble (pa_tk b n p1) 2) p1 with e | ⟨p2, c2⟩
          · rw [hx] at h; cases h
          · rw [hx] at h
            have ht := Nat.le_of_ble_eq_true (pa_ex_r hx).1
            simp only at h
            split at h
            · cases h
            · split at h
              · have h2 := Sum.inr.inj h
                have h4 := (Prod.mk.inj (Prod.mk.inj (Prod.mk.inj h2).2).2).1
                omega
              · cases h
    · rw [if_neg hk] at h; cases h
theorem pa_stmts_w {b : Nat → Nat} {n : Nat} : ∀ {f p : Nat} {l : List (Nat × Nat × List Nat)}, pa_stmts b n f p = .inr l → ∀ t ∈ l, t.2.1 ≤ 2 := by
  intro f
  induction f with
  | zero =>
    intro p l h t ht
    unfold pa_stmts at h
    split at h
    · cases h
    · have h2 := Sum.inr.inj h
      subst h2
      cases ht
  | succ f ih =>
    intro p l h t ht
    unfold pa_stmts at h
    split at h
    · rcases hs : pa_stmt b n p with e | ⟨p', k, w, cs⟩
      · rw [hs] at h; cases h
      · rw [hs] at h
        simp only at h
        rcases hr : pa_stmts b n f p' with e | r
        · rw [hr] at h; cases h
        · rw [hr] at h
          have h2 := Sum.inr.inj h
          subst h2
          rcases List.mem_cons.mp ht with z | z
          · rw [z]; exact pa_stmt_w hs
          · exact ih hr t z
    · have h2 := Sum.inr.inj h
      subst h2
      cases ht
theorem cdL_t {N : Nat} {r83 r84 r85 r86 r87 : Nat → Int32} : ∀ {l : List (Nat × Nat × List Nat)} {k : Nat}, cdL N r83 r84 r85 r86 r87 k l → ∀ t ∈ l, t.1 < 6 ∧ ∃ rs, pa_Eq (cond (Nat.beq t.1 5) false true) t.2.2 rs := by
  intro l
  induction l with
  | nil => intro k _ t ht; cases ht
  | cons s r ih =>
    intro k h t ht
    obtain ⟨⟨h1, h2, h3, a, rs, h4, h5, h6, h7, h8⟩, h9⟩ := h
    rcases List.mem_cons.mp ht with z | z
    · rw [z]; exact ⟨by omega, rs, h8⟩
    · exact ih h9 t z
