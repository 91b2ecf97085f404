/-! THE TOP: a good run of the law's method is what the claim wants -/
def am_K0 (L : Nat) (j : Nat) : Nat × Nat := if j = am_B then (30, L) else if am_B < j ∧ j < am_B + 22 then (31, am_sln (j - am_B - 1)) else (99, 0)
def am_I0 (xs : Nat → Int32) (j : Nat) : Nat → Int32 := if j = am_B then xs else am_sch (j - am_B - 1)
def am_h0 (L : Nat) (xs : Nat → Int32) : am_H := (0, 0, am_K0 L, am_I0 xs, fun _ _ => 0, fun _ _ => none)
def am_Goal : Prop := ∀ (L : Nat) (xs : Nat → Int32), L ≤ 3072 → ∃ (f : Nat) (h' : am_H), am_run f 300 0 0 [some (.ref am_B), none, none, none] [] (am_h0 L xs) = some (some (.int 1), h') ∧ h'.1 ≤ 600000 ∧ h'.2.1 ≤ 7302250
theorem am_K0_lt (L : Nat) (j : Nat) : ¬ (am_K0 L j).1 < 30 := by
  unfold am_K0
  split
  · exact Nat.lt_irrefl 30
  · split
    · show ¬ 31 < 30
      omega
    · show ¬ 99 < 30
      omega
theorem am_HP0 (L : Nat) (xs : Nat → Int32) : am_HP L xs (am_h0 L xs) := by
  have e0 : am_B = 1000000 := rfl
  refine ⟨fun j hj => ?_, fun j hj => ?_, fun j hj hj2 => ?_⟩
  · have h1 : (am_K0 L j).1 = 30 := hj
    unfold am_K0 at h1
    split at h1
    · rename_i e
      subst e
      exact ⟨rfl, by show (am_K0 L am_B).2 = L; unfold am_K0; rw [if_pos rfl], by show am_I0 xs am_B = xs; unfold am_I0; rw [if_pos rfl]⟩
    · split at h1
      · exact absurd h1 (by show ¬ 31 = 30; omega)
      · exact absurd h1 (by show ¬ 99 = 30; omega)
  · have h1 : (am_K0 L j).1 = 31 := hj
    unfold am_K0 at h1
    split at h1
    · exact absurd h1 (by show ¬ 30 = 31; omega)
    · rename_i e
      split at h1
      · rename_i e2
        refine ⟨j - am_B - 1, by omega, by omega, ?_, fun k hk => ?_⟩
        · show (am_K0 L j).2 = _
          unfold am_K0
          rw [if_neg e, if_pos e2]
        · show am_I0 xs j k = _
          unfold am_I0
          rw [if_neg e]
      · exact absurd h1 (by show ¬ 99 = 31; omega)
  · have h1 : 30 ≤ (am_K0 L j).1 := hj
    have h2 : (am_K0 L j).1 < 32 := hj2
    unfold am_K0 at h1 h2
    split at h2
    · omega
    · split at h2
      · omega
      · exact absurd h2 (by show ¬ 99 < 32; omega)
theorem am_inst : ∀ ci : Nat, ci < 12 → Cond.instantiable (am_RX ci) (am_NF ci) ∈ am_W := by decide +kernel
theorem am_wo8 : ∀ t : Nat, t < 4 → Cond.arrayClass (am_ty (20 + t)) ∈ am_W := by decide +kernel
theorem am_wo9 : Cond.arrayOver (.array .int) ∈ lw_tbl := by decide +kernel
theorem am_wo10 : Cond.arrayOver (.array .long) ∈ lw_tbl := by decide +kernel
theorem am_wo11 : Cond.arrayOver (.object RX0) ∈ lw_tbl := by decide +kernel
theorem am_str1 : ∀ i : Nat, i < 21 → Cond.stringRef RX6 (176 + 2 * i) (am_stx i) ∈ lw_tbl := by decide +kernel
def am_tm (i : Nat) : Term := .string RX6 (176 + 2 * i)
def am_fl : List Cond := flatC (Jvm.Cond.and given_1 narrow_1)
theorem am_str2 : ∀ i : Nat, i < 21 → Cond.exactly (am_tm i) "java/lang/String" ∈ am_fl := by decide +kernel
theorem am_str3 : ∀ i : Nat, i < 21 → Cond.eq (.field (am_tm i) "java/lang/String" "coder" "B") (.int 0) ∈ am_fl := by decide +kernel
theorem am_str4 : ∀ i : Nat, i < 21 → Cond.arrayOf (.field (am_tm i) "java/lang/String" "value" "[B") .byte ∈ am_fl := by decide +kernel
theorem am_str5 : ∀ i : Nat, i < 21 → Cond.eq (.length (.field (am_tm i) "java/lang/String" "value" "[B")) (.int (Int32.ofNat (((List.range 21).map am_sln).getD i 0))) ∈ am_fl := by decide +kernel
theorem am_str6 : ∀ i : Nat, i < 21 → ∀ j : Nat, j < ((List.range 21).map am_sln).getD i 0 → Cond.eq (.elem (.field (am_tm i) "java/lang/String" "value" "[B") (.int (Int32.ofNat j))) (.int ((((List.range 21).map am_bytes).getD i []).getD j 0)) ∈ am_fl := by decide +kernel
def am_nb : List Nat := [0, 25, 35, 45, 57, 70, 83, 95, 109, 124, 140, 158, 177, 198, 220, 241, 264, 289, 314, 339, 365]
theorem am_str7a : ∀ j : Nat, j < 21 → ∀ i : Nat, i < j → am_fl[am_nb.getD j 0 + i]? = some (Cond.not (Cond.eq (am_tm i) (am_tm j))) := by decide +kernel
theorem am_str7 (i : Nat) (hi : i < 21) (j : Nat) (hj : j < 21) (h : i ≠ j) : Cond.not (Cond.eq (am_tm i) (am_tm j)) ∈ am_fl ∨ Cond.not (Cond.eq (am_tm j) (am_tm i)) ∈ am_fl := by
  rcases Nat.lt_or_ge i j with q | q
  · exact Or.inl (List.mem_of_getElem? (am_str7a j hj i q))
  · exact Or.inr (List.mem_of_getElem? (am_str7a i hi j (by omega)))
theorem am_str8 : ∀ i : Nat, i < 21 → ((List.range 21).map am_sln).getD i 0 < 2 ^ 31 := by decide +kernel
theorem am_str9 : Cond.eq (Term.static "java/lang/String" "COMPACT_STRINGS" "Z") (.int 1) ∈ am_fl := by decide +kernel
theorem am_str10 : Cond.isRef (Term.static "jdk/internal/util/Preconditions" "SIOOBE_FORMATTER" "Ljava/util/function/BiFunction;") ∈ am_fl := by decide +kernel
theorem am_str11 : Cond.laysStatic "java/lang/String" "COMPACT_STRINGS" "Z" ∈ lw_tbl ∧ Cond.initialized "java/lang/String" ∈ lw_tbl ∧ Cond.laysStatic "jdk/internal/util/Preconditions" "SIOOBE_FORMATTER" "Ljava/util/function/BiFunction;" ∈ lw_tbl ∧ Cond.initialized "jdk/internal/util/Preconditions" ∈ lw_tbl := by decide +kernel
