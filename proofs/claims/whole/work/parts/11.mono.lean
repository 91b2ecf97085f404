/-! THE STORE ONLY GROWS, THE LOCALS KEEP THEIR NUMBER -/
theorem am_lset1_len (ls : am_L) (i : Nat) (v : Value) : (am_lset1 ls i v).length = ls.length := by simp [am_lset1, am_k2_len]
theorem am_lset2_len (ls : am_L) (i : Nat) (v : Value) : (am_lset2 ls i v).length = ls.length := by simp [am_lset2, am_k2_len]
theorem am_al_m (t len N : Nat) (h : am_H) : h.1 ≤ (am_al t len N h).1 ∧ h.2.1 ≤ (am_al t len N h).2.1 := ⟨Nat.le_add_right _ _, Nat.le_add_right _ _⟩
theorem am_mal_m (t c k : Nat) (h : am_H) : h.1 ≤ (am_mal t c k h).1 ∧ h.2.1 ≤ (am_mal t c k h).2.1 := ⟨Nat.le_add_right _ _, Nat.le_add_right _ _⟩
set_option maxHeartbeats 4000000 in
theorem am_1_mono {i : Instr} {ops : List Nat} {v : Value} {pc pc' : Nat} {ls ls' : am_L} {st st' : List Value} {h h' : am_H} (h1 : am_1 i ops v pc ls st h = some (pc', ls', st', h')) : h.1 ≤ h'.1 ∧ h.2.1 ≤ h'.2.1 ∧ ls'.length = ls.length := by
  unfold am_1 at h1
  split at h1
  all_goals (first | (cases h1; done) | skip)
  all_goals (try simp only [am_ii, am_ll, am_li, am_lj, am_la, am_si, am_sj, am_sa, am_gf, am_pf, am_new, am_na, am_mna, am_ial, am_bal, am_lal, am_aal, am_ias, am_bas, am_las, am_aas, am_len, am_nul, am_tsw, am_lsw] at h1)
  all_goals (repeat' (first | (cases h1; done) | (split at h1)))
  all_goals (first
    | (cases h1; exact ⟨Nat.le_refl _, Nat.le_refl _, rfl⟩)
    | (cases h1; exact ⟨Nat.le_refl _, Nat.le_refl _, am_lset1_len _ _ _⟩)
    | (cases h1; exact ⟨Nat.le_refl _, Nat.le_refl _, am_lset2_len _ _ _⟩)
    | (cases h1; exact ⟨(am_al_m _ _ _ _).1, (am_al_m _ _ _ _).2, rfl⟩)
    | (cases h1; exact ⟨(am_mal_m _ _ _ _).1, (am_mal_m _ _ _ _).2, rfl⟩)
    | (rename_i hp; have e := am_put_mono hp; cases h1; exact ⟨Nat.le_of_eq e.1.symm, Nat.le_of_eq e.2.symm, rfl⟩))
theorem am_call_mono {run : Nat → am_L → am_H → Option (Option Value × am_H)} {ops : List Nat} {st st' : List Value} {h h' : am_H} (hr : ∀ mi ls rv h1, run mi ls h = some (rv, h1) → h.1 ≤ h1.1 ∧ h.2.1 ≤ h1.2.1) (hc : am_call run ops st h = some (st', h')) : h.1 ≤ h'.1 ∧ h.2.1 ≤ h'.2.1 := by
  unfold am_call at hc
  split at hc
  · split at hc
    · split at hc
      · cases hc; exact ⟨Nat.le_refl _, Nat.le_refl _⟩
      · cases hc
    · cases hc
  · split at hc
    · split at hc
      · cases hc; exact ⟨Nat.le_refl _, Nat.le_refl _⟩
      · cases hc
    · cases hc
  · split at hc
    · split at hc
      · cases hc; exact ⟨Nat.le_refl _, Nat.le_refl _⟩
      · cases hc
    · cases hc
  · split at hc
    · split at hc
      · cases hc; exact ⟨Nat.le_refl _, Nat.le_refl _⟩
      · cases hc
    · cases hc
  · unfold am_cgen at hc
    split at hc
    · cases hc
    · split at hc
      · split at hc
        · split at hc
          · rename_i hr2
            cases hc
            exact hr _ _ _ _ hr2
          · cases hc
        · cases hc
      · split at hc
        · split at hc
          · split at hc
            · rename_i hr2
              cases hc
              exact hr _ _ _ _ hr2
            · cases hc
          · cases hc
        · cases hc
  · cases hc
theorem am_run_mono : ∀ (f d mi pc : Nat) (ls : am_L) (st : List Value) (h : am_H) (rv : Option Value) (h' : am_H), am_run f d mi pc ls st h = some (rv, h') → h.1 ≤ h'.1 ∧ h.2.1 ≤ h'.2.1 := by
  intro f
  induction f with
  | zero => intro d mi pc ls st h rv h' hr; cases hr
  | succ f ih =>
    intro d mi pc ls st h rv h' hr
    unfold am_run at hr
    split at hr
    · cases hr
    · split at hr
      · split at hr
        · rename_i h9
          have a1 := am_1_mono h9
          have a2 := ih _ _ _ _ _ _ _ _ hr
          exact ⟨Nat.le_trans a1.1 a2.1, Nat.le_trans a1.2.1 a2.2⟩
        · cases hr
      · split at hr
        · cases hr
          exact ⟨Nat.le_refl _, Nat.le_refl _⟩
        · cases hr
      · split at hr
        · cases hr
        · split at hr
          · rename_i h9
            have a1 := am_call_mono (fun mi ls rv h1 q => ih _ _ _ _ _ _ _ _ q) h9
            have a2 := ih _ _ _ _ _ _ _ _ hr
            exact ⟨Nat.le_trans a1.1 a2.1, Nat.le_trans a1.2 a2.2⟩
          · cases hr
