/-! THE START -/
theorem wq_hi : ∀ j, j < 131 → j ≠ 18 → j ≠ 35 → ∀ t, wQ j (t + 76) = none := fun j hj h1 h2 t => match j, hj with
  | 0, _ => rfl
  | 1, _ => rfl
  | 2, _ => rfl
  | 3, _ => rfl
  | 4, _ => rfl
  | 5, _ => rfl
  | 6, _ => rfl
  | 7, _ => rfl
  | 8, _ => rfl
  | 9, _ => rfl
  | 10, _ => rfl
  | 11, _ => rfl
  | 12, _ => rfl
  | 13, _ => rfl
  | 14, _ => rfl
  | 15, _ => rfl
  | 16, _ => rfl
  | 17, _ => rfl
  | 18, _ => absurd rfl h1
  | 19, _ => rfl
  | 20, _ => rfl
  | 21, _ => rfl
  | 22, _ => rfl
  | 23, _ => rfl
  | 24, _ => rfl
  | 25, _ => rfl
  | 26, _ => rfl
  | 27, _ => rfl
  | 28, _ => rfl
  | 29, _ => rfl
  | 30, _ => rfl
  | 31, _ => rfl
  | 32, _ => rfl
  | 33, _ => rfl
  | 34, _ => rfl
  | 35, _ => absurd rfl h2
  | 36, _ => rfl
  | 37, _ => rfl
  | 38, _ => rfl
  | 39, _ => rfl
  | 40, _ => rfl
  | 41, _ => rfl
  | 42, _ => rfl
  | 43, _ => rfl
  | 44, _ => rfl
  | 45, _ => rfl
  | 46, _ => rfl
  | 47, _ => rfl
  | 48, _ => rfl
  | 49, _ => rfl
  | 50, _ => rfl
  | 51, _ => rfl
  | 52, _ => rfl
  | 53, _ => rfl
  | 54, _ => rfl
  | 55, _ => rfl
  | 56, _ => rfl
  | 57, _ => rfl
  | 58, _ => rfl
  | 59, _ => rfl
  | 60, _ => rfl
  | 61, _ => rfl
  | 62, _ => rfl
  | 63, _ => rfl
  | 64, _ => rfl
  | 65, _ => rfl
  | 66, _ => rfl
  | 67, _ => rfl
  | 68, _ => rfl
  | 69, _ => rfl
  | 70, _ => rfl
  | 71, _ => rfl
  | 72, _ => rfl
  | 73, _ => rfl
  | 74, _ => rfl
  | 75, _ => rfl
  | 76, _ => rfl
  | 77, _ => rfl
  | 78, _ => rfl
  | 79, _ => rfl
  | 80, _ => rfl
  | 81, _ => rfl
  | 82, _ => rfl
  | 83, _ => rfl
  | 84, _ => rfl
  | 85, _ => rfl
  | 86, _ => rfl
  | 87, _ => rfl
  | 88, _ => rfl
  | 89, _ => rfl
  | 90, _ => rfl
  | 91, _ => rfl
  | 92, _ => rfl
  | 93, _ => rfl
  | 94, _ => rfl
  | 95, _ => rfl
  | 96, _ => rfl
  | 97, _ => rfl
  | 98, _ => rfl
  | 99, _ => rfl
  | 100, _ => rfl
  | 101, _ => rfl
  | 102, _ => rfl
  | 103, _ => rfl
  | 104, _ => rfl
  | 105, _ => rfl
  | 106, _ => rfl
  | 107, _ => rfl
  | 108, _ => rfl
  | 109, _ => rfl
  | 110, _ => rfl
  | 111, _ => rfl
  | 112, _ => rfl
  | 113, _ => rfl
  | 114, _ => rfl
  | 115, _ => rfl
  | 116, _ => rfl
  | 117, _ => rfl
  | 118, _ => rfl
  | 119, _ => rfl
  | 120, _ => rfl
  | 121, _ => rfl
  | 122, _ => rfl
  | 123, _ => rfl
  | 124, _ => rfl
  | 125, _ => rfl
  | 126, _ => rfl
  | 127, _ => rfl
  | 128, _ => rfl
  | 129, _ => rfl
  | 130, _ => rfl
  | n + 131, h => absurd h (by omega)
theorem cq_hi {i : Nat} (h : 76 ≤ i) (j : Nat) : cQ cl109 j i = none := by
  unfold cQ
  have h0 : cl109.all (fun t => decide (t.2.1 < 76)) = true := by decide +kernel
  have : cl109.find? (fun t => Nat.beq t.1 j && Nat.beq t.2.1 i) = none := by
    rw [List.find?_eq_none]
    intro t ht z
    have h2 := of_decide_eq_true (List.all_eq_true.mp h0 t ht)
    rw [Bool.and_eq_true] at z
    have := Nat.eq_of_beq_eq_true z.2
    omega
  rw [this]
  rfl
def cSet : List Nat := [0, 1, 4, 7, 13, 18, 35, 55, 57, 60, 64, 71, 77, 80]
theorem cq_S : ∀ j, j < 131 → (cSet.contains j || cl109.all (fun t => !Nat.beq t.1 j)) = true := by decide +kernel
theorem wq_n : ∀ j, j < 131 → (j ≠ 0 ∧ j ≠ 1 ∧ j ≠ 4 ∧ j ≠ 7 ∧ j ≠ 13 ∧ j ≠ 18 ∧ j ≠ 35 ∧ j ≠ 55 ∧ j ≠ 57 ∧ j ≠ 60 ∧ j ≠ 64 ∧ j ≠ 71 ∧ j ≠ 77 ∧ j ≠ 80) → ∀ i, wQ j i = none := fun j hj h i => match j, hj with
  | 0, _ => absurd rfl h.1
  | 1, _ => absurd rfl h.2.1
  | 2, _ => rfl
  | 3, _ => rfl
  | 4, _ => absurd rfl h.2.2.1
  | 5, _ => rfl
  | 6, _ => rfl
  | 7, _ => absurd rfl h.2.2.2.1
  | 8, _ => rfl
  | 9, _ => rfl
  | 10, _ => rfl
  | 11, _ => rfl
  | 12, _ => rfl
  | 13, _ => absurd rfl h.2.2.2.2.1
  | 14, _ => rfl
  | 15, _ => rfl
  | 16, _ => rfl
  | 17, _ => rfl
  | 18, _ => absurd rfl h.2.2.2.2.2.1
  | 19, _ => rfl
  | 20, _ => rfl
  | 21, _ => rfl
  | 22, _ => rfl
  | 23, _ => rfl
  | 24, _ => rfl
  | 25, _ => rfl
  | 26, _ => rfl
  | 27, _ => rfl
  | 28, _ => rfl
  | 29, _ => rfl
  | 30, _ => rfl
  | 31, _ => rfl
  | 32, _ => rfl
  | 33, _ => rfl
  | 34, _ => rfl
  | 35, _ => absurd rfl h.2.2.2.2.2.2.1
  | 36, _ => rfl
  | 37, _ => rfl
  | 38, _ => rfl
  | 39, _ => rfl
  | 40, _ => rfl
  | 41, _ => rfl
  | 42, _ => rfl
  | 43, _ => rfl
  | 44, _ => rfl
  | 45, _ => rfl
  | 46, _ => rfl
  | 47, _ => rfl
  | 48, _ => rfl
  | 49, _ => rfl
  | 50, _ => rfl
  | 51, _ => rfl
  | 52, _ => rfl
  | 53, _ => rfl
  | 54, _ => rfl
  | 55, _ => absurd rfl h.2.2.2.2.2.2.2.1
  | 56, _ => rfl
  | 57, _ => absurd rfl h.2.2.2.2.2.2.2.2.1
  | 58, _ => rfl
  | 59, _ => rfl
  | 60, _ => absurd rfl h.2.2.2.2.2.2.2.2.2.1
  | 61, _ => rfl
  | 62, _ => rfl
  | 63, _ => rfl
  | 64, _ => absurd rfl h.2.2.2.2.2.2.2.2.2.2.1
  | 65, _ => rfl
  | 66, _ => rfl
  | 67, _ => rfl
  | 68, _ => rfl
  | 69, _ => rfl
  | 70, _ => rfl
  | 71, _ => absurd rfl h.2.2.2.2.2.2.2.2.2.2.2.1
  | 72, _ => rfl
  | 73, _ => rfl
  | 74, _ => rfl
  | 75, _ => rfl
  | 76, _ => rfl
  | 77, _ => absurd rfl h.2.2.2.2.2.2.2.2.2.2.2.2.1
  | 78, _ => rfl
  | 79, _ => rfl
  | 80, _ => absurd rfl h.2.2.2.2.2.2.2.2.2.2.2.2.2
  | 81, _ => rfl
  | 82, _ => rfl
  | 83, _ => rfl
  | 84, _ => rfl
  | 85, _ => rfl
  | 86, _ => rfl
  | 87, _ => rfl
  | 88, _ => rfl
  | 89, _ => rfl
  | 90, _ => rfl
  | 91, _ => rfl
  | 92, _ => rfl
  | 93, _ => rfl
  | 94, _ => rfl
  | 95, _ => rfl
  | 96, _ => rfl
  | 97, _ => rfl
  | 98, _ => rfl
  | 99, _ => rfl
  | 100, _ => rfl
  | 101, _ => rfl
  | 102, _ => rfl
  | 103, _ => rfl
  | 104, _ => rfl
  | 105, _ => rfl
  | 106, _ => rfl
  | 107, _ => rfl
  | 108, _ => rfl
  | 109, _ => rfl
  | 110, _ => rfl
  | 111, _ => rfl
  | 112, _ => rfl
  | 113, _ => rfl
  | 114, _ => rfl
  | 115, _ => rfl
  | 116, _ => rfl
  | 117, _ => rfl
  | 118, _ => rfl
  | 119, _ => rfl
  | 120, _ => rfl
  | 121, _ => rfl
  | 122, _ => rfl
  | 123, _ => rfl
  | 124, _ => rfl
  | 125, _ => rfl
  | 126, _ => rfl
  | 127, _ => rfl
  | 128, _ => rfl
  | 129, _ => rfl
  | 130, _ => rfl
  | n + 131, h9 => absurd h9 (by omega)
theorem cq_r0 : ∀ i, i < 76 → cQ cl109 0 i = wQ 0 i := by decide +kernel
theorem cq_r1 : ∀ i, i < 76 → cQ cl109 1 i = wQ 1 i := by decide +kernel
theorem cq_r4 : ∀ i, i < 76 → cQ cl109 4 i = wQ 4 i := by decide +kernel
theorem cq_r7 : ∀ i, i < 76 → cQ cl109 7 i = wQ 7 i := by decide +kernel
theorem cq_r13 : ∀ i, i < 76 → cQ cl109 13 i = wQ 13 i := by decide +kernel
theorem cq_r18 : ∀ i, i < 76 → cQ cl109 18 i = wQ 18 i := by decide +kernel
theorem cq_r35 : ∀ i, i < 76 → cQ cl109 35 i = wQ 35 i := by decide +kernel
theorem cq_r55 : ∀ i, i < 76 → cQ cl109 55 i = wQ 55 i := by decide +kernel
theorem cq_r57 : ∀ i, i < 76 → cQ cl109 57 i = wQ 57 i := by decide +kernel
theorem cq_r60 : ∀ i, i < 76 → cQ cl109 60 i = wQ 60 i := by decide +kernel
theorem cq_r64 : ∀ i, i < 76 → cQ cl109 64 i = wQ 64 i := by decide +kernel
theorem cq_r71 : ∀ i, i < 76 → cQ cl109 71 i = wQ 71 i := by decide +kernel
theorem cq_r77 : ∀ i, i < 76 → cQ cl109 77 i = wQ 77 i := by decide +kernel
theorem cq_r80 : ∀ i, i < 76 → cQ cl109 80 i = wQ 80 i := by decide +kernel
theorem cq_lo (j : Nat) (hj : j < 131) (i : Nat) (hi : i < 76) : cQ cl109 j i = wQ j i := by
  by_cases h : j = 0 ∨ j = 1 ∨ j = 4 ∨ j = 7 ∨ j = 13 ∨ j = 18 ∨ j = 35 ∨ j = 55 ∨ j = 57 ∨ j = 60 ∨ j = 64 ∨ j = 71 ∨ j = 77 ∨ j = 80
  · rcases h with rfl | rfl | rfl | rfl | rfl | rfl | rfl | rfl | rfl | rfl | rfl | rfl | rfl | rfl
    · exact cq_r0 i hi
    · exact cq_r1 i hi
    · exact cq_r4 i hi
    · exact cq_r7 i hi
    · exact cq_r13 i hi
    · exact cq_r18 i hi
    · exact cq_r35 i hi
    · exact cq_r55 i hi
    · exact cq_r57 i hi
    · exact cq_r60 i hi
    · exact cq_r64 i hi
    · exact cq_r71 i hi
    · exact cq_r77 i hi
    · exact cq_r80 i hi
  · have hn : j ≠ 0 ∧ j ≠ 1 ∧ j ≠ 4 ∧ j ≠ 7 ∧ j ≠ 13 ∧ j ≠ 18 ∧ j ≠ 35 ∧ j ≠ 55 ∧ j ≠ 57 ∧ j ≠ 60 ∧ j ≠ 64 ∧ j ≠ 71 ∧ j ≠ 77 ∧ j ≠ 80 := by omega
    have hs := cq_S j hj
    rw [Bool.or_eq_true] at hs
    rcases hs with hs | hs
    · have hm : j ∈ cSet := by simpa using hs
      simp only [cSet, List.mem_cons, List.not_mem_nil, or_false] at hm
      exact absurd hm h
    · rw [cQ_o hs, wq_n j hj hn]
theorem cq_w : cQ cl109 = wQQ (cQ cl109) := by
  funext j i
  unfold wQQ
  by_cases h : 131 ≤ j
  · rw [cble h]; rfl
  · rw [cnle (by omega)]
    by_cases e : j = 56
    · subst e; rfl
    · have e2 : Nat.beq j 56 = false := Bool.eq_false_iff.mpr (fun z => e (Nat.eq_of_beq_eq_true z))
      rw [e2]
      show cQ cl109 j i = wQ j i
      by_cases g : i < 76
      · exact cq_lo j (by omega) i g
      · rw [cq_hi (by omega)]
        by_cases e3 : j = 18
        · subst e3
          show none = cond (Nat.ble 16 i) none (some (19 + i))
          rw [cble (by omega)]
          rfl
        · by_cases e4 : j = 35
          · subst e4
            show none = cond (Nat.ble 16 i) none (some (36 + i))
            rw [cble (by omega)]
            rfl
          · rw [show i = (i - 76) + 76 by omega, wq_hi j (by omega) e3 e4]
def sJ : Nat → Nat → Int32 := cJ50
theorem sJ_z (j : Nat) (h : j ≠ 2 ∧ j ≠ 11 ∧ j ≠ 12 ∧ j ≠ 14 ∧ j ≠ 55 ∧ j ≠ 57 ∧ j ≠ 60 ∧ j ≠ 67 ∧ j ≠ 80 ∧ j ≠ 94 ∧ j ≠ 98 ∧ j ≠ 99 ∧ j ≠ 106) : sJ j = fun _ => 0 := by
  show cJ50 j = _
  rw [show cJ50 j = cJ49 j from va_n1 (by omega)]
  rw [show cJ49 j = cJ48 j from va_n1 (by omega)]
  rw [show cJ48 j = cJ47 j from va_n1 (by omega)]
  rw [show cJ47 j = cJ46 j from va_n1 (by omega)]
  rw [show cJ46 j = cJ45 j from va_n1 (by omega)]
  rw [show cJ45 j = cJ44 j from va_n1 (by omega)]
  rw [show cJ44 j = cJ43 j from va_n1 (by omega)]
  rw [show cJ43 j = cJ42 j from va_n1 (by omega)]
  rw [show cJ42 j = cJ41 j from va_n1 (by omega)]
  rw [show cJ41 j = cJ40 j from va_n1 (by omega)]
  rw [show cJ40 j = cJ39 j from va_n1 (by omega)]
  rw [show cJ39 j = cJ38 j from va_n1 (by omega)]
  rw [show cJ38 j = cJ37 j from va_n1 (by omega)]
  rw [show cJ37 j = cJ36 j from va_n1 (by omega)]
  rw [show cJ36 j = cJ35 j from va_n1 (by omega)]
  rw [show cJ35 j = cJ34 j from va_n1 (by omega)]
  rw [show cJ34 j = cJ33 j from va_n1 (by omega)]
  rw [show cJ33 j = cJ32 j from va_n1 (by omega)]
  rw [show cJ32 j = cJ31 j from va_n1 (by omega)]
  rw [show cJ31 j = cJ30 j from va_n1 (by omega)]
  rw [show cJ30 j = cJ29 j from va_n1 (by omega)]
  rw [show cJ29 j = cJ28 j from va_n1 (by omega)]
  rw [show cJ28 j = cJ27 j from va_n1 (by omega)]
  rw [show cJ27 j = cJ26 j from va_n1 (by omega)]
  rw [show cJ26 j = cJ25 j from va_n1 (by omega)]
  rw [show cJ25 j = cJ24 j from va_n1 (by omega)]
  rw [show cJ24 j = cJ23 j from va_n1 (by omega)]
  rw [show cJ23 j = cJ22 j from va_n1 (by omega)]
  rw [show cJ22 j = cJ21 j from va_n1 (by omega)]
  rw [show cJ21 j = cJ20 j from va_n1 (by omega)]
  rw [show cJ20 j = cJ19 j from va_n1 (by omega)]
  rw [show cJ19 j = cJ18 j from va_n1 (by omega)]
  rw [show cJ18 j = cJ17 j from va_n1 (by omega)]
  rw [show cJ17 j = cJ16 j from va_n1 (by omega)]
  rw [show cJ16 j = cJ15 j from va_n1 (by omega)]
  rw [show cJ15 j = cJ14 j from va_n1 (by omega)]
  rw [show cJ14 j = cJ13 j from va_n1 (by omega)]
  rw [show cJ13 j = cJ12 j from va_n1 (by omega)]
  rw [show cJ12 j = cJ11 j from va_n1 (by omega)]
  rw [show cJ11 j = cJ10 j from va_n1 (by omega)]
  rw [show cJ10 j = cJ9 j from va_n1 (by omega)]
  rw [show cJ9 j = cJ8 j from va_n1 (by omega)]
  rw [show cJ8 j = cJ7 j from va_n1 (by omega)]
  rw [show cJ7 j = cJ6 j from va_n1 (by omega)]
  rw [show cJ6 j = cJ5 j from va_n1 (by omega)]
  rw [show cJ5 j = cJ4 j from va_n1 (by omega)]
  rw [show cJ4 j = cJ3 j from va_n1 (by omega)]
  rw [show cJ3 j = cJ2 j from va_n1 (by omega)]
  rw [show cJ2 j = cJ1 j from va_n1 (by omega)]
  rw [show cJ1 j = cJ0 j from va_n1 (by omega)]
  rfl
theorem sJ_2 : sJ 2 = fun i => if i < 400 then 50 else 0 := by
  show cJ50 2 = _
  rw [show cJ50 2 = cJ49 2 from va_n1 (by decide)]
  rw [show cJ49 2 = cJ48 2 from va_n1 (by decide)]
  rw [show cJ48 2 = cJ47 2 from va_n1 (by decide)]
  rw [show cJ47 2 = cJ46 2 from va_n1 (by decide)]
  rw [show cJ46 2 = cJ45 2 from va_n1 (by decide)]
  rw [show cJ45 2 = cJ44 2 from va_n1 (by decide)]
  rw [show cJ44 2 = cJ43 2 from va_n1 (by decide)]
  rw [show cJ43 2 = cJ42 2 from va_n1 (by decide)]
  rw [show cJ42 2 = cJ41 2 from va_n1 (by decide)]
  rw [show cJ41 2 = cJ40 2 from va_n1 (by decide)]
  rw [show cJ40 2 = cJ39 2 from va_n1 (by decide)]
  rw [show cJ39 2 = cJ38 2 from va_n1 (by decide)]
  rw [show cJ38 2 = cJ37 2 from va_n1 (by decide)]
  rw [show cJ37 2 = cJ36 2 from va_n1 (by decide)]
  rw [show cJ36 2 = cJ35 2 from va_n1 (by decide)]
  rw [show cJ35 2 = cJ34 2 from va_n1 (by decide)]
  rw [show cJ34 2 = cJ33 2 from va_n1 (by decide)]
  rw [show cJ33 2 = cJ32 2 from va_n1 (by decide)]
  rw [show cJ32 2 = cJ31 2 from va_n1 (by decide)]
  rw [show cJ31 2 = cJ30 2 from va_n1 (by decide)]
  rw [show cJ30 2 = cJ29 2 from va_n1 (by decide)]
  rw [show cJ29 2 = cJ28 2 from va_n1 (by decide)]
  rw [show cJ28 2 = cJ27 2 from va_n1 (by decide)]
  rw [show cJ27 2 = cJ26 2 from va_n1 (by decide)]
  rw [show cJ26 2 = cJ25 2 from va_n1 (by decide)]
  rw [show cJ25 2 = cJ24 2 from va_n1 (by decide)]
  rw [show cJ24 2 = cJ23 2 from va_n1 (by decide)]
  rw [show cJ23 2 = cJ22 2 from va_n1 (by decide)]
  rw [show cJ22 2 = cJ21 2 from va_n1 (by decide)]
  rw [show cJ21 2 = cJ20 2 from va_n1 (by decide)]
  rw [show cJ20 2 = cJ19 2 from va_n1 (by decide)]
  rw [show cJ19 2 = cJ18 2 from va_n1 (by decide)]
  rw [show cJ18 2 = cJ17 2 from va_n1 (by decide)]
  rw [show cJ17 2 = cJ16 2 from va_n1 (by decide)]
  rw [show cJ16 2 = cJ15 2 from va_n1 (by decide)]
  rw [show cJ15 2 = cJ14 2 from va_n1 (by decide)]
  rw [show cJ14 2 = cJ13 2 from va_n1 (by decide)]
  rw [show cJ13 2 = cJ12 2 from va_n1 (by decide)]
  rw [show cJ12 2 = cJ11 2 from va_n1 (by decide)]
  rw [show cJ11 2 = cJ10 2 from va_n1 (by decide)]
  rw [show cJ10 2 = cJ9 2 from va_n1 (by decide)]
  rw [show cJ9 2 = cJ8 2 from va_n1 (by decide)]
  rw [show cJ8 2 = cJ7 2 from va_n1 (by decide)]
  rw [show cJ7 2 = cJ6 2 from va_n1 (by decide)]
  rw [show cJ6 2 = cJ5 2 from va_n1 (by decide)]
  rw [show cJ5 2 = cJ4 2 from va_n1 (by decide)]
  rw [show cJ4 2 = cJ3 2 from va_n1 (by decide)]
  rw [show cJ3 2 = cJ2 2 from va_n1 (by decide)]
  rw [show cJ2 2 = cJ1 2 from va_n1 (by decide)]
  rw [show cJ1 2 = (fun i => if i < 400 then 50 else cJ0 2 i) from va_e1]
  rw [show cJ0 2 = fun _ => 0 from by
    rfl]
theorem sJ_11 : sJ 11 = fun i => if i < 8 then 10 else 0 := by
  show cJ50 11 = _
  rw [show cJ50 11 = cJ49 11 from va_n1 (by decide)]
  rw [show cJ49 11 = cJ48 11 from va_n1 (by decide)]
  rw [show cJ48 11 = cJ47 11 from va_n1 (by decide)]
  rw [show cJ47 11 = cJ46 11 from va_n1 (by decide)]
  rw [show cJ46 11 = cJ45 11 from va_n1 (by decide)]
  rw [show cJ45 11 = cJ44 11 from va_n1 (by decide)]
  rw [show cJ44 11 = cJ43 11 from va_n1 (by decide)]
  rw [show cJ43 11 = cJ42 11 from va_n1 (by decide)]
  rw [show cJ42 11 = cJ41 11 from va_n1 (by decide)]
  rw [show cJ41 11 = cJ40 11 from va_n1 (by decide)]
  rw [show cJ40 11 = cJ39 11 from va_n1 (by decide)]
  rw [show cJ39 11 = cJ38 11 from va_n1 (by decide)]
  rw [show cJ38 11 = cJ37 11 from va_n1 (by decide)]
  rw [show cJ37 11 = cJ36 11 from va_n1 (by decide)]
  rw [show cJ36 11 = cJ35 11 from va_n1 (by decide)]
  rw [show cJ35 11 = cJ34 11 from va_n1 (by decide)]
  rw [show cJ34 11 = cJ33 11 from va_n1 (by decide)]
  rw [show cJ33 11 = cJ32 11 from va_n1 (by decide)]
  rw [show cJ32 11 = cJ31 11 from va_n1 (by decide)]
  rw [show cJ31 11 = cJ30 11 from va_n1 (by decide)]
  rw [show cJ30 11 = cJ29 11 from va_n1 (by decide)]
  rw [show cJ29 11 = cJ28 11 from va_n1 (by decide)]
  rw [show cJ28 11 = cJ27 11 from va_n1 (by decide)]
  rw [show cJ27 11 = cJ26 11 from va_n1 (by decide)]
  rw [show cJ26 11 = cJ25 11 from va_n1 (by decide)]
  rw [show cJ25 11 = cJ24 11 from va_n1 (by decide)]
  rw [show cJ24 11 = cJ23 11 from va_n1 (by decide)]
  rw [show cJ23 11 = cJ22 11 from va_n1 (by decide)]
  rw [show cJ22 11 = cJ21 11 from va_n1 (by decide)]
  rw [show cJ21 11 = cJ20 11 from va_n1 (by decide)]
  rw [show cJ20 11 = cJ19 11 from va_n1 (by decide)]
  rw [show cJ19 11 = cJ18 11 from va_n1 (by decide)]
  rw [show cJ18 11 = cJ17 11 from va_n1 (by decide)]
  rw [show cJ17 11 = cJ16 11 from va_n1 (by decide)]
  rw [show cJ16 11 = cJ15 11 from va_n1 (by decide)]
  rw [show cJ15 11 = cJ14 11 from va_n1 (by decide)]
  rw [show cJ14 11 = cJ13 11 from va_n1 (by decide)]
  rw [show cJ13 11 = cJ12 11 from va_n1 (by decide)]
  rw [show cJ12 11 = cJ11 11 from va_n1 (by decide)]
  rw [show cJ11 11 = cJ10 11 from va_n1 (by decide)]
  rw [show cJ10 11 = cJ9 11 from va_n1 (by decide)]
  rw [show cJ9 11 = cJ8 11 from va_n1 (by decide)]
  rw [show cJ8 11 = cJ7 11 from va_n1 (by decide)]
  rw [show cJ7 11 = cJ6 11 from va_n1 (by decide)]
  rw [show cJ6 11 = cJ5 11 from va_n1 (by decide)]
  rw [show cJ5 11 = cJ4 11 from va_n1 (by decide)]
  rw [show cJ4 11 = cJ3 11 from va_n1 (by decide)]
  rw [show cJ3 11 = cJ2 11 from va_n1 (by decide)]
  rw [show cJ2 11 = (fun i => if i < 8 then 10 else cJ1 11 i) from va_e1]
  rw [show cJ1 11 = fun _ => 0 from by
    rw [show cJ1 11 = cJ0 11 from va_n1 (by decide)]
    rfl]
theorem sJ_12 : sJ 12 = fun i => if i < 8 then 1000000 else 0 := by
  show cJ50 12 = _
  rw [show cJ50 12 = cJ49 12 from va_n1 (by decide)]
  rw [show cJ49 12 = cJ48 12 from va_n1 (by decide)]
  rw [show cJ48 12 = cJ47 12 from va_n1 (by decide)]
  rw [show cJ47 12 = cJ46 12 from va_n1 (by decide)]
  rw [show cJ46 12 = cJ45 12 from va_n1 (by decide)]
  rw [show cJ45 12 = cJ44 12 from va_n1 (by decide)]
  rw [show cJ44 12 = cJ43 12 from va_n1 (by decide)]
  rw [show cJ43 12 = cJ42 12 from va_n1 (by decide)]
  rw [show cJ42 12 = cJ41 12 from va_n1 (by decide)]
  rw [show cJ41 12 = cJ40 12 from va_n1 (by decide)]
  rw [show cJ40 12 = cJ39 12 from va_n1 (by decide)]
  rw [show cJ39 12 = cJ38 12 from va_n1 (by decide)]
  rw [show cJ38 12 = cJ37 12 from va_n1 (by decide)]
  rw [show cJ37 12 = cJ36 12 from va_n1 (by decide)]
  rw [show cJ36 12 = cJ35 12 from va_n1 (by decide)]
  rw [show cJ35 12 = cJ34 12 from va_n1 (by decide)]
  rw [show cJ34 12 = cJ33 12 from va_n1 (by decide)]
  rw [show cJ33 12 = cJ32 12 from va_n1 (by decide)]
  rw [show cJ32 12 = cJ31 12 from va_n1 (by decide)]
  rw [show cJ31 12 = cJ30 12 from va_n1 (by decide)]
  rw [show cJ30 12 = cJ29 12 from va_n1 (by decide)]
  rw [show cJ29 12 = cJ28 12 from va_n1 (by decide)]
  rw [show cJ28 12 = cJ27 12 from va_n1 (by decide)]
  rw [show cJ27 12 = cJ26 12 from va_n1 (by decide)]
  rw [show cJ26 12 = cJ25 12 from va_n1 (by decide)]
  rw [show cJ25 12 = cJ24 12 from va_n1 (by decide)]
  rw [show cJ24 12 = cJ23 12 from va_n1 (by decide)]
  rw [show cJ23 12 = cJ22 12 from va_n1 (by decide)]
  rw [show cJ22 12 = cJ21 12 from va_n1 (by decide)]
  rw [show cJ21 12 = cJ20 12 from va_n1 (by decide)]
  rw [show cJ20 12 = cJ19 12 from va_n1 (by decide)]
  rw [show cJ19 12 = cJ18 12 from va_n1 (by decide)]
  rw [show cJ18 12 = cJ17 12 from va_n1 (by decide)]
  rw [show cJ17 12 = cJ16 12 from va_n1 (by decide)]
  rw [show cJ16 12 = cJ15 12 from va_n1 (by decide)]
  rw [show cJ15 12 = cJ14 12 from va_n1 (by decide)]
  rw [show cJ14 12 = cJ13 12 from va_n1 (by decide)]
  rw [show cJ13 12 = cJ12 12 from va_n1 (by decide)]
  rw [show cJ12 12 = cJ11 12 from va_n1 (by decide)]
  rw [show cJ11 12 = cJ10 12 from va_n1 (by decide)]
  rw [show cJ10 12 = cJ9 12 from va_n1 (by decide)]
  rw [show cJ9 12 = cJ8 12 from va_n1 (by decide)]
  rw [show cJ8 12 = cJ7 12 from va_n1 (by decide)]
  rw [show cJ7 12 = cJ6 12 from va_n1 (by decide)]
  rw [show cJ6 12 = cJ5 12 from va_n1 (by decide)]
  rw [show cJ5 12 = cJ4 12 from va_n1 (by decide)]
  rw [show cJ4 12 = cJ3 12 from va_n1 (by decide)]
  rw [show cJ3 12 = (fun i => if i < 8 then 1000000 else cJ2 12 i) from va_e1]
  rw [show cJ2 12 = fun _ => 0 from by
    rw [show cJ2 12 = cJ1 12 from va_n1 (by decide)]
    rw [show cJ1 12 = cJ0 12 from va_n1 (by decide)]
    rfl]
theorem sJ_14 : sJ 14 = fun i => if i < 16 then 100 else 0 := by
  show cJ50 14 = _
  rw [show cJ50 14 = cJ49 14 from va_n1 (by decide)]
  rw [show cJ49 14 = cJ48 14 from va_n1 (by decide)]
  rw [show cJ48 14 = cJ47 14 from va_n1 (by decide)]
  rw [show cJ47 14 = cJ46 14 from va_n1 (by decide)]
  rw [show cJ46 14 = cJ45 14 from va_n1 (by decide)]
  rw [show cJ45 14 = cJ44 14 from va_n1 (by decide)]
  rw [show cJ44 14 = cJ43 14 from va_n1 (by decide)]
  rw [show cJ43 14 = cJ42 14 from va_n1 (by decide)]
  rw [show cJ42 14 = cJ41 14 from va_n1 (by decide)]
  rw [show cJ41 14 = cJ40 14 from va_n1 (by decide)]
  rw [show cJ40 14 = cJ39 14 from va_n1 (by decide)]
  rw [show cJ39 14 = cJ38 14 from va_n1 (by decide)]
  rw [show cJ38 14 = cJ37 14 from va_n1 (by decide)]
  rw [show cJ37 14 = cJ36 14 from va_n1 (by decide)]
  rw [show cJ36 14 = cJ35 14 from va_n1 (by decide)]
  rw [show cJ35 14 = cJ34 14 from va_n1 (by decide)]
  rw [show cJ34 14 = cJ33 14 from va_n1 (by decide)]
  rw [show cJ33 14 = cJ32 14 from va_n1 (by decide)]
  rw [show cJ32 14 = cJ31 14 from va_n1 (by decide)]
  rw [show cJ31 14 = cJ30 14 from va_n1 (by decide)]
  rw [show cJ30 14 = cJ29 14 from va_n1 (by decide)]
  rw [show cJ29 14 = cJ28 14 from va_n1 (by decide)]
  rw [show cJ28 14 = cJ27 14 from va_n1 (by decide)]
  rw [show cJ27 14 = cJ26 14 from va_n1 (by decide)]
  rw [show cJ26 14 = cJ25 14 from va_n1 (by decide)]
  rw [show cJ25 14 = cJ24 14 from va_n1 (by decide)]
  rw [show cJ24 14 = cJ23 14 from va_n1 (by decide)]
  rw [show cJ23 14 = cJ22 14 from va_n1 (by decide)]
  rw [show cJ22 14 = cJ21 14 from va_n1 (by decide)]
  rw [show cJ21 14 = cJ20 14 from va_n1 (by decide)]
  rw [show cJ20 14 = cJ19 14 from va_n1 (by decide)]
  rw [show cJ19 14 = cJ18 14 from va_n1 (by decide)]
  rw [show cJ18 14 = cJ17 14 from va_n1 (by decide)]
  rw [show cJ17 14 = cJ16 14 from va_n1 (by decide)]
  rw [show cJ16 14 = cJ15 14 from va_n1 (by decide)]
  rw [show cJ15 14 = cJ14 14 from va_n1 (by decide)]
  rw [show cJ14 14 = cJ13 14 from va_n1 (by decide)]
  rw [show cJ13 14 = cJ12 14 from va_n1 (by decide)]
  rw [show cJ12 14 = cJ11 14 from va_n1 (by decide)]
  rw [show cJ11 14 = cJ10 14 from va_n1 (by decide)]
  rw [show cJ10 14 = cJ9 14 from va_n1 (by decide)]
  rw [show cJ9 14 = cJ8 14 from va_n1 (by decide)]
  rw [show cJ8 14 = cJ7 14 from va_n1 (by decide)]
  rw [show cJ7 14 = cJ6 14 from va_n1 (by decide)]
  rw [show cJ6 14 = cJ5 14 from va_n1 (by decide)]
  rw [show cJ5 14 = cJ4 14 from va_n1 (by decide)]
  rw [show cJ4 14 = (fun i => if i < 16 then 100 else cJ3 14 i) from va_e1]
  rw [show cJ3 14 = fun _ => 0 from by
    rw [show cJ3 14 = cJ2 14 from va_n1 (by decide)]
    rw [show cJ2 14 = cJ1 14 from va_n1 (by decide)]
    rw [show cJ1 14 = cJ0 14 from va_n1 (by decide)]
    rfl]
theorem sJ_67 : sJ 67 = fun i => if i < 4 then 1000 else 0 := by
  show cJ50 67 = _
  rw [show cJ50 67 = cJ49 67 from va_n1 (by decide)]
  rw [show cJ49 67 = cJ48 67 from va_n1 (by decide)]
  rw [show cJ48 67 = cJ47 67 from va_n1 (by decide)]
  rw [show cJ47 67 = cJ46 67 from va_n1 (by decide)]
  rw [show cJ46 67 = cJ45 67 from va_n1 (by decide)]
  rw [show cJ45 67 = cJ44 67 from va_n1 (by decide)]
  rw [show cJ44 67 = cJ43 67 from va_n1 (by decide)]
  rw [show cJ43 67 = cJ42 67 from va_n1 (by decide)]
  rw [show cJ42 67 = cJ41 67 from va_n1 (by decide)]
  rw [show cJ41 67 = cJ40 67 from va_n1 (by decide)]
  rw [show cJ40 67 = cJ39 67 from va_n1 (by decide)]
  rw [show cJ39 67 = cJ38 67 from va_n1 (by decide)]
  rw [show cJ38 67 = cJ37 67 from va_n1 (by decide)]
  rw [show cJ37 67 = cJ36 67 from va_n1 (by decide)]
  rw [show cJ36 67 = cJ35 67 from va_n1 (by decide)]
  rw [show cJ35 67 = cJ34 67 from va_n1 (by decide)]
  rw [show cJ34 67 = cJ33 67 from va_n1 (by decide)]
  rw [show cJ33 67 = cJ32 67 from va_n1 (by decide)]
  rw [show cJ32 67 = cJ31 67 from va_n1 (by decide)]
  rw [show cJ31 67 = cJ30 67 from va_n1 (by decide)]
  rw [show cJ30 67 = cJ29 67 from va_n1 (by decide)]
  rw [show cJ29 67 = cJ28 67 from va_n1 (by decide)]
  rw [show cJ28 67 = cJ27 67 from va_n1 (by decide)]
  rw [show cJ27 67 = cJ26 67 from va_n1 (by decide)]
  rw [show cJ26 67 = cJ25 67 from va_n1 (by decide)]
  rw [show cJ25 67 = cJ24 67 from va_n1 (by decide)]
  rw [show cJ24 67 = cJ23 67 from va_n1 (by decide)]
  rw [show cJ23 67 = cJ22 67 from va_n1 (by decide)]
  rw [show cJ22 67 = cJ21 67 from va_n1 (by decide)]
  rw [show cJ21 67 = cJ20 67 from va_n1 (by decide)]
  rw [show cJ20 67 = cJ19 67 from va_n1 (by decide)]
  rw [show cJ19 67 = cJ18 67 from va_n1 (by decide)]
  rw [show cJ18 67 = cJ17 67 from va_n1 (by decide)]
  rw [show cJ17 67 = cJ16 67 from va_n1 (by decide)]
  rw [show cJ16 67 = cJ15 67 from va_n1 (by decide)]
  rw [show cJ15 67 = cJ14 67 from va_n1 (by decide)]
  rw [show cJ14 67 = cJ13 67 from va_n1 (by decide)]
  rw [show cJ13 67 = cJ12 67 from va_n1 (by decide)]
  rw [show cJ12 67 = cJ11 67 from va_n1 (by decide)]
  rw [show cJ11 67 = cJ10 67 from va_n1 (by decide)]
  rw [show cJ10 67 = cJ9 67 from va_n1 (by decide)]
  rw [show cJ9 67 = (fun i => if i < 4 then 1000 else cJ8 67 i) from va_e1]
  rw [show cJ8 67 = fun _ => 0 from by
    rw [show cJ8 67 = cJ7 67 from va_n1 (by decide)]
    rw [show cJ7 67 = cJ6 67 from va_n1 (by decide)]
    rw [show cJ6 67 = cJ5 67 from va_n1 (by decide)]
    rw [show cJ5 67 = cJ4 67 from va_n1 (by decide)]
    rw [show cJ4 67 = cJ3 67 from va_n1 (by decide)]
    rw [show cJ3 67 = cJ2 67 from va_n1 (by decide)]
    rw [show cJ2 67 = cJ1 67 from va_n1 (by decide)]
    rw [show cJ1 67 = cJ0 67 from va_n1 (by decide)]
    rfl]
theorem sJ_94 : sJ 94 = fun i => if i < 16 then 100 else 0 := by
  funext i
  have h : ∀ i, i < 16 → cJ50 94 i = 100 := by decide +kernel
  by_cases g : i < 16
  · rw [if_pos g]; exact h i g
  · rw [if_neg g]
    show cJ50 94 i = 0
    rw [show cJ50 94 i = cJ49 94 i from congrFun (va_n1 (by decide)) i]
    rw [show cJ49 94 i = cJ48 94 i from congrFun (va_n1 (by decide)) i]
    rw [show cJ48 94 i = cJ47 94 i from congrFun (va_n1 (by decide)) i]
    rw [show cJ47 94 i = cJ46 94 i from congrFun (va_n1 (by decide)) i]
    rw [show cJ46 94 i = cJ45 94 i from congrFun (va_n1 (by decide)) i]
    rw [show cJ45 94 i = cJ44 94 i from congrFun (va_n1 (by decide)) i]
    rw [show cJ44 94 i = cJ43 94 i from congrFun (va_n1 (by decide)) i]
    rw [show cJ43 94 i = cJ42 94 i from congrFun (va_n1 (by decide)) i]
    rw [show cJ42 94 i = cJ41 94 i from congrFun (va_n1 (by decide)) i]
    rw [show cJ41 94 i = cJ40 94 i from congrFun (va_n1 (by decide)) i]
    rw [show cJ40 94 i = cJ39 94 i from congrFun (va_n1 (by decide)) i]
    rw [show cJ39 94 i = cJ38 94 i from congrFun (va_n1 (by decide)) i]
    rw [show cJ38 94 i = cJ37 94 i from congrFun (va_n1 (by decide)) i]
    rw [show cJ37 94 i = cJ36 94 i from congrFun (va_n1 (by decide)) i]
    rw [show cJ36 94 i = cJ35 94 i from congrFun (va_n1 (by decide)) i]
    rw [show cJ35 94 i = cJ34 94 i from congrFun (va_n1 (by decide)) i]
    rw [show cJ34 94 i = cJ33 94 i from congrFun (va_n1 (by decide)) i]
    rw [show cJ33 94 i = cJ32 94 i from congrFun (va_n1 (by decide)) i]
    rw [show cJ32 94 i = cJ31 94 i from congrFun (va_n1 (by decide)) i]
    rw [show cJ31 94 i = cJ30 94 i from congrFun (va_n1 (by decide)) i]
    rw [show cJ30 94 i = cJ29 94 i from (congrFun va_e1 i).trans (upd_n (by omega))]
    rw [show cJ29 94 i = cJ28 94 i from (congrFun va_e1 i).trans (upd_n (by omega))]
    rw [show cJ28 94 i = cJ27 94 i from (congrFun va_e1 i).trans (upd_n (by omega))]
    rw [show cJ27 94 i = cJ26 94 i from (congrFun va_e1 i).trans (upd_n (by omega))]
    rw [show cJ26 94 i = cJ25 94 i from (congrFun va_e1 i).trans (upd_n (by omega))]
    rw [show cJ25 94 i = cJ24 94 i from (congrFun va_e1 i).trans (upd_n (by omega))]
    rw [show cJ24 94 i = cJ23 94 i from (congrFun va_e1 i).trans (upd_n (by omega))]
    rw [show cJ23 94 i = cJ22 94 i from (congrFun va_e1 i).trans (upd_n (by omega))]
    rw [show cJ22 94 i = cJ21 94 i from (congrFun va_e1 i).trans (upd_n (by omega))]
    rw [show cJ21 94 i = cJ20 94 i from (congrFun va_e1 i).trans (upd_n (by omega))]
    rw [show cJ20 94 i = cJ19 94 i from (congrFun va_e1 i).trans (upd_n (by omega))]
    rw [show cJ19 94 i = cJ18 94 i from (congrFun va_e1 i).trans (upd_n (by omega))]
    rw [show cJ18 94 i = cJ17 94 i from (congrFun va_e1 i).trans (upd_n (by omega))]
    rw [show cJ17 94 i = cJ16 94 i from (congrFun va_e1 i).trans (upd_n (by omega))]
    rw [show cJ16 94 i = cJ15 94 i from (congrFun va_e1 i).trans (upd_n (by omega))]
    rw [show cJ15 94 i = cJ14 94 i from (congrFun va_e1 i).trans (upd_n (by omega))]
    rw [show cJ14 94 i = cJ13 94 i from congrFun (va_n1 (by decide)) i]
    rw [show cJ13 94 i = cJ12 94 i from congrFun (va_n1 (by decide)) i]
    rw [show cJ12 94 i = cJ11 94 i from congrFun (va_n1 (by decide)) i]
    rw [show cJ11 94 i = cJ10 94 i from congrFun (va_n1 (by decide)) i]
    rw [show cJ10 94 i = cJ9 94 i from congrFun (va_n1 (by decide)) i]
    rw [show cJ9 94 i = cJ8 94 i from congrFun (va_n1 (by decide)) i]
    rw [show cJ8 94 i = cJ7 94 i from congrFun (va_n1 (by decide)) i]
    rw [show cJ7 94 i = cJ6 94 i from congrFun (va_n1 (by decide)) i]
    rw [show cJ6 94 i = cJ5 94 i from congrFun (va_n1 (by decide)) i]
    rw [show cJ5 94 i = cJ4 94 i from congrFun (va_n1 (by decide)) i]
    rw [show cJ4 94 i = cJ3 94 i from congrFun (va_n1 (by decide)) i]
    rw [show cJ3 94 i = cJ2 94 i from congrFun (va_n1 (by decide)) i]
    rw [show cJ2 94 i = cJ1 94 i from congrFun (va_n1 (by decide)) i]
    rw [show cJ1 94 i = cJ0 94 i from congrFun (va_n1 (by decide)) i]
    rfl
theorem sJ_98 : sJ 98 = fun i => if i < 8 then 10 else 0 := by
  funext i
  have h : ∀ i, i < 8 → cJ50 98 i = 10 := by decide +kernel
  by_cases g : i < 8
  · rw [if_pos g]; exact h i g
  · rw [if_neg g]
    show cJ50 98 i = 0
    rw [show cJ50 98 i = cJ49 98 i from congrFun (va_n1 (by decide)) i]
    rw [show cJ49 98 i = cJ48 98 i from congrFun (va_n1 (by decide)) i]
    rw [show cJ48 98 i = cJ47 98 i from congrFun (va_n1 (by decide)) i]
    rw [show cJ47 98 i = cJ46 98 i from congrFun (va_n1 (by decide)) i]
    rw [show cJ46 98 i = cJ45 98 i from congrFun (va_n1 (by decide)) i]
    rw [show cJ45 98 i = cJ44 98 i from (congrFun va_e1 i).trans (upd_n (by omega))]
    rw [show cJ44 98 i = cJ43 98 i from congrFun (va_n1 (by decide)) i]
    rw [show cJ43 98 i = cJ42 98 i from (congrFun va_e1 i).trans (upd_n (by omega))]
    rw [show cJ42 98 i = cJ41 98 i from congrFun (va_n1 (by decide)) i]
    rw [show cJ41 98 i = cJ40 98 i from (congrFun va_e1 i).trans (upd_n (by omega))]
    rw [show cJ40 98 i = cJ39 98 i from congrFun (va_n1 (by decide)) i]
    rw [show cJ39 98 i = cJ38 98 i from (congrFun va_e1 i).trans (upd_n (by omega))]
    rw [show cJ38 98 i = cJ37 98 i from congrFun (va_n1 (by decide)) i]
    rw [show cJ37 98 i = cJ36 98 i from (congrFun va_e1 i).trans (upd_n (by omega))]
    rw [show cJ36 98 i = cJ35 98 i from congrFun (va_n1 (by decide)) i]
    rw [show cJ35 98 i = cJ34 98 i from (congrFun va_e1 i).trans (upd_n (by omega))]
    rw [show cJ34 98 i = cJ33 98 i from congrFun (va_n1 (by decide)) i]
    rw [show cJ33 98 i = cJ32 98 i from (congrFun va_e1 i).trans (upd_n (by omega))]
    rw [show cJ32 98 i = cJ31 98 i from congrFun (va_n1 (by decide)) i]
    rw [show cJ31 98 i = cJ30 98 i from (congrFun va_e1 i).trans (upd_n (by omega))]
    rw [show cJ30 98 i = cJ29 98 i from congrFun (va_n1 (by decide)) i]
    rw [show cJ29 98 i = cJ28 98 i from congrFun (va_n1 (by decide)) i]
    rw [show cJ28 98 i = cJ27 98 i from congrFun (va_n1 (by decide)) i]
    rw [show cJ27 98 i = cJ26 98 i from congrFun (va_n1 (by decide)) i]
    rw [show cJ26 98 i = cJ25 98 i from congrFun (va_n1 (by decide)) i]
    rw [show cJ25 98 i = cJ24 98 i from congrFun (va_n1 (by decide)) i]
    rw [show cJ24 98 i = cJ23 98 i from congrFun (va_n1 (by decide)) i]
    rw [show cJ23 98 i = cJ22 98 i from congrFun (va_n1 (by decide)) i]
    rw [show cJ22 98 i = cJ21 98 i from congrFun (va_n1 (by decide)) i]
    rw [show cJ21 98 i = cJ20 98 i from congrFun (va_n1 (by decide)) i]
    rw [show cJ20 98 i = cJ19 98 i from congrFun (va_n1 (by decide)) i]
    rw [show cJ19 98 i = cJ18 98 i from congrFun (va_n1 (by decide)) i]
    rw [show cJ18 98 i = cJ17 98 i from congrFun (va_n1 (by decide)) i]
    rw [show cJ17 98 i = cJ16 98 i from congrFun (va_n1 (by decide)) i]
    rw [show cJ16 98 i = cJ15 98 i from congrFun (va_n1 (by decide)) i]
    rw [show cJ15 98 i = cJ14 98 i from congrFun (va_n1 (by decide)) i]
    rw [show cJ14 98 i = cJ13 98 i from congrFun (va_n1 (by decide)) i]
    rw [show cJ13 98 i = cJ12 98 i from congrFun (va_n1 (by decide)) i]
    rw [show cJ12 98 i = cJ11 98 i from congrFun (va_n1 (by decide)) i]
    rw [show cJ11 98 i = cJ10 98 i from congrFun (va_n1 (by decide)) i]
    rw [show cJ10 98 i = cJ9 98 i from congrFun (va_n1 (by decide)) i]
    rw [show cJ9 98 i = cJ8 98 i from congrFun (va_n1 (by decide)) i]
    rw [show cJ8 98 i = cJ7 98 i from congrFun (va_n1 (by decide)) i]
    rw [show cJ7 98 i = cJ6 98 i from congrFun (va_n1 (by decide)) i]
    rw [show cJ6 98 i = cJ5 98 i from congrFun (va_n1 (by decide)) i]
    rw [show cJ5 98 i = cJ4 98 i from congrFun (va_n1 (by decide)) i]
    rw [show cJ4 98 i = cJ3 98 i from congrFun (va_n1 (by decide)) i]
    rw [show cJ3 98 i = cJ2 98 i from congrFun (va_n1 (by decide)) i]
    rw [show cJ2 98 i = cJ1 98 i from congrFun (va_n1 (by decide)) i]
    rw [show cJ1 98 i = cJ0 98 i from congrFun (va_n1 (by decide)) i]
    rfl
theorem sJ_99 : sJ 99 = fun i => if i < 8 then 1000000 else 0 := by
  funext i
  have h : ∀ i, i < 8 → cJ50 99 i = 1000000 := by decide +kernel
  by_cases g : i < 8
  · rw [if_pos g]; exact h i g
  · rw [if_neg g]
    show cJ50 99 i = 0
    rw [show cJ50 99 i = cJ49 99 i from congrFun (va_n1 (by decide)) i]
    rw [show cJ49 99 i = cJ48 99 i from congrFun (va_n1 (by decide)) i]
    rw [show cJ48 99 i = cJ47 99 i from congrFun (va_n1 (by decide)) i]
    rw [show cJ47 99 i = cJ46 99 i from congrFun (va_n1 (by decide)) i]
    rw [show cJ46 99 i = cJ45 99 i from (congrFun va_e1 i).trans (upd_n (by omega))]
    rw [show cJ45 99 i = cJ44 99 i from congrFun (va_n1 (by decide)) i]
    rw [show cJ44 99 i = cJ43 99 i from (congrFun va_e1 i).trans (upd_n (by omega))]
    rw [show cJ43 99 i = cJ42 99 i from congrFun (va_n1 (by decide)) i]
    rw [show cJ42 99 i = cJ41 99 i from (congrFun va_e1 i).trans (upd_n (by omega))]
    rw [show cJ41 99 i = cJ40 99 i from congrFun (va_n1 (by decide)) i]
    rw [show cJ40 99 i = cJ39 99 i from (congrFun va_e1 i).trans (upd_n (by omega))]
    rw [show cJ39 99 i = cJ38 99 i from congrFun (va_n1 (by decide)) i]
    rw [show cJ38 99 i = cJ37 99 i from (congrFun va_e1 i).trans (upd_n (by omega))]
    rw [show cJ37 99 i = cJ36 99 i from congrFun (va_n1 (by decide)) i]
    rw [show cJ36 99 i = cJ35 99 i from (congrFun va_e1 i).trans (upd_n (by omega))]
    rw [show cJ35 99 i = cJ34 99 i from congrFun (va_n1 (by decide)) i]
    rw [show cJ34 99 i = cJ33 99 i from (congrFun va_e1 i).trans (upd_n (by omega))]
    rw [show cJ33 99 i = cJ32 99 i from congrFun (va_n1 (by decide)) i]
    rw [show cJ32 99 i = cJ31 99 i from (congrFun va_e1 i).trans (upd_n (by omega))]
    rw [show cJ31 99 i = cJ30 99 i from congrFun (va_n1 (by decide)) i]
    rw [show cJ30 99 i = cJ29 99 i from congrFun (va_n1 (by decide)) i]
    rw [show cJ29 99 i = cJ28 99 i from congrFun (va_n1 (by decide)) i]
    rw [show cJ28 99 i = cJ27 99 i from congrFun (va_n1 (by decide)) i]
    rw [show cJ27 99 i = cJ26 99 i from congrFun (va_n1 (by decide)) i]
    rw [show cJ26 99 i = cJ25 99 i from congrFun (va_n1 (by decide)) i]
    rw [show cJ25 99 i = cJ24 99 i from congrFun (va_n1 (by decide)) i]
    rw [show cJ24 99 i = cJ23 99 i from congrFun (va_n1 (by decide)) i]
    rw [show cJ23 99 i = cJ22 99 i from congrFun (va_n1 (by decide)) i]
    rw [show cJ22 99 i = cJ21 99 i from congrFun (va_n1 (by decide)) i]
    rw [show cJ21 99 i = cJ20 99 i from congrFun (va_n1 (by decide)) i]
    rw [show cJ20 99 i = cJ19 99 i from congrFun (va_n1 (by decide)) i]
    rw [show cJ19 99 i = cJ18 99 i from congrFun (va_n1 (by decide)) i]
    rw [show cJ18 99 i = cJ17 99 i from congrFun (va_n1 (by decide)) i]
    rw [show cJ17 99 i = cJ16 99 i from congrFun (va_n1 (by decide)) i]
    rw [show cJ16 99 i = cJ15 99 i from congrFun (va_n1 (by decide)) i]
    rw [show cJ15 99 i = cJ14 99 i from congrFun (va_n1 (by decide)) i]
    rw [show cJ14 99 i = cJ13 99 i from congrFun (va_n1 (by decide)) i]
    rw [show cJ13 99 i = cJ12 99 i from congrFun (va_n1 (by decide)) i]
    rw [show cJ12 99 i = cJ11 99 i from congrFun (va_n1 (by decide)) i]
    rw [show cJ11 99 i = cJ10 99 i from congrFun (va_n1 (by decide)) i]
    rw [show cJ10 99 i = cJ9 99 i from congrFun (va_n1 (by decide)) i]
    rw [show cJ9 99 i = cJ8 99 i from congrFun (va_n1 (by decide)) i]
    rw [show cJ8 99 i = cJ7 99 i from congrFun (va_n1 (by decide)) i]
    rw [show cJ7 99 i = cJ6 99 i from congrFun (va_n1 (by decide)) i]
    rw [show cJ6 99 i = cJ5 99 i from congrFun (va_n1 (by decide)) i]
    rw [show cJ5 99 i = cJ4 99 i from congrFun (va_n1 (by decide)) i]
    rw [show cJ4 99 i = cJ3 99 i from congrFun (va_n1 (by decide)) i]
    rw [show cJ3 99 i = cJ2 99 i from congrFun (va_n1 (by decide)) i]
    rw [show cJ2 99 i = cJ1 99 i from congrFun (va_n1 (by decide)) i]
    rw [show cJ1 99 i = cJ0 99 i from congrFun (va_n1 (by decide)) i]
    rfl
theorem sJ_106 : sJ 106 = fun i => if i < 4 then 1000 else 0 := by
  funext i
  have h : ∀ i, i < 4 → cJ50 106 i = 1000 := by decide +kernel
  by_cases g : i < 4
  · rw [if_pos g]; exact h i g
  · rw [if_neg g]
    show cJ50 106 i = 0
    rw [show cJ50 106 i = cJ49 106 i from (congrFun va_e1 i).trans (upd_n (by omega))]
    rw [show cJ49 106 i = cJ48 106 i from (congrFun va_e1 i).trans (upd_n (by omega))]
    rw [show cJ48 106 i = cJ47 106 i from (congrFun va_e1 i).trans (upd_n (by omega))]
    rw [show cJ47 106 i = cJ46 106 i from (congrFun va_e1 i).trans (upd_n (by omega))]
    rw [show cJ46 106 i = cJ45 106 i from congrFun (va_n1 (by decide)) i]
    rw [show cJ45 106 i = cJ44 106 i from congrFun (va_n1 (by decide)) i]
    rw [show cJ44 106 i = cJ43 106 i from congrFun (va_n1 (by decide)) i]
    rw [show cJ43 106 i = cJ42 106 i from congrFun (va_n1 (by decide)) i]
    rw [show cJ42 106 i = cJ41 106 i from congrFun (va_n1 (by decide)) i]
    rw [show cJ41 106 i = cJ40 106 i from congrFun (va_n1 (by decide)) i]
    rw [show cJ40 106 i = cJ39 106 i from congrFun (va_n1 (by decide)) i]
    rw [show cJ39 106 i = cJ38 106 i from congrFun (va_n1 (by decide)) i]
    rw [show cJ38 106 i = cJ37 106 i from congrFun (va_n1 (by decide)) i]
    rw [show cJ37 106 i = cJ36 106 i from congrFun (va_n1 (by decide)) i]
    rw [show cJ36 106 i = cJ35 106 i from congrFun (va_n1 (by decide)) i]
    rw [show cJ35 106 i = cJ34 106 i from congrFun (va_n1 (by decide)) i]
    rw [show cJ34 106 i = cJ33 106 i from congrFun (va_n1 (by decide)) i]
    rw [show cJ33 106 i = cJ32 106 i from congrFun (va_n1 (by decide)) i]
    rw [show cJ32 106 i = cJ31 106 i from congrFun (va_n1 (by decide)) i]
    rw [show cJ31 106 i = cJ30 106 i from congrFun (va_n1 (by decide)) i]
    rw [show cJ30 106 i = cJ29 106 i from congrFun (va_n1 (by decide)) i]
    rw [show cJ29 106 i = cJ28 106 i from congrFun (va_n1 (by decide)) i]
    rw [show cJ28 106 i = cJ27 106 i from congrFun (va_n1 (by decide)) i]
    rw [show cJ27 106 i = cJ26 106 i from congrFun (va_n1 (by decide)) i]
    rw [show cJ26 106 i = cJ25 106 i from congrFun (va_n1 (by decide)) i]
    rw [show cJ25 106 i = cJ24 106 i from congrFun (va_n1 (by decide)) i]
    rw [show cJ24 106 i = cJ23 106 i from congrFun (va_n1 (by decide)) i]
    rw [show cJ23 106 i = cJ22 106 i from congrFun (va_n1 (by decide)) i]
    rw [show cJ22 106 i = cJ21 106 i from congrFun (va_n1 (by decide)) i]
    rw [show cJ21 106 i = cJ20 106 i from congrFun (va_n1 (by decide)) i]
    rw [show cJ20 106 i = cJ19 106 i from congrFun (va_n1 (by decide)) i]
    rw [show cJ19 106 i = cJ18 106 i from congrFun (va_n1 (by decide)) i]
    rw [show cJ18 106 i = cJ17 106 i from congrFun (va_n1 (by decide)) i]
    rw [show cJ17 106 i = cJ16 106 i from congrFun (va_n1 (by decide)) i]
    rw [show cJ16 106 i = cJ15 106 i from congrFun (va_n1 (by decide)) i]
    rw [show cJ15 106 i = cJ14 106 i from congrFun (va_n1 (by decide)) i]
    rw [show cJ14 106 i = cJ13 106 i from congrFun (va_n1 (by decide)) i]
    rw [show cJ13 106 i = cJ12 106 i from congrFun (va_n1 (by decide)) i]
    rw [show cJ12 106 i = cJ11 106 i from congrFun (va_n1 (by decide)) i]
    rw [show cJ11 106 i = cJ10 106 i from congrFun (va_n1 (by decide)) i]
    rw [show cJ10 106 i = cJ9 106 i from congrFun (va_n1 (by decide)) i]
    rw [show cJ9 106 i = cJ8 106 i from congrFun (va_n1 (by decide)) i]
    rw [show cJ8 106 i = cJ7 106 i from congrFun (va_n1 (by decide)) i]
    rw [show cJ7 106 i = cJ6 106 i from congrFun (va_n1 (by decide)) i]
    rw [show cJ6 106 i = cJ5 106 i from congrFun (va_n1 (by decide)) i]
    rw [show cJ5 106 i = cJ4 106 i from congrFun (va_n1 (by decide)) i]
    rw [show cJ4 106 i = cJ3 106 i from congrFun (va_n1 (by decide)) i]
    rw [show cJ3 106 i = cJ2 106 i from congrFun (va_n1 (by decide)) i]
    rw [show cJ2 106 i = cJ1 106 i from congrFun (va_n1 (by decide)) i]
    rw [show cJ1 106 i = cJ0 106 i from congrFun (va_n1 (by decide)) i]
    rfl
theorem wf_z {b : Int32} : ∀ d, wf b (fun _ => 0) (fun _ => 0) d = b := by
  intro d
  induction d with
  | zero => rfl
  | succ d ih => show (if (0 : Int32) = 0 then wf b (fun _ => 0) (fun _ => 0) d else 0) = b; rw [if_pos rfl, ih]
theorem sI_j {X : Nat → Nat → Int32} {j : Nat} (h : j < 131) : cI 131 sJ X j = sJ j := cI_a (by have := am_rn_f j; omega)
theorem cK_w {kk : Nat → Nat × Nat} : cK 131 kk = wKK kk := by
  funext j
  unfold cK wKK
  by_cases h : 131 ≤ j
  · rw [cble h, cble (by have := am_rn_f j; omega)]
  · rw [cnle (show j < 131 by omega), cnle (by have := am_rn_f j; omega)]
theorem zsn {f : Nat → Int} {C : Nat} (h : C = 0) : zS f C = 0 := by subst h; rfl
set_option maxHeartbeats 4000000 in
theorem hInv_0 {Ln : Nat} {X : Nat → Int32} : hInv 0 (131, 231806, wKK (am_K0 Ln), cI 131 sJ (am_I0 X), cZ, wQQ (cQ cl109)) := by
  have e : ∀ j, j < 131 → cI 131 sJ (am_I0 X) j = sJ j := fun j h => sI_j h
  have z : ∀ j, j < 131 → (j ≠ 2 ∧ j ≠ 11 ∧ j ≠ 12 ∧ j ≠ 14 ∧ j ≠ 55 ∧ j ≠ 57 ∧ j ≠ 60 ∧ j ≠ 67 ∧ j ≠ 80 ∧ j ≠ 94 ∧ j ≠ 98 ∧ j ≠ 99 ∧ j ≠ 106) → cI 131 sJ (am_I0 X) j = fun _ => 0 := fun j h h2 => (e j h).trans (sJ_z j h2)
  have e1 : ∀ w, w < 21 → am_K0 Ln (am_B + 1 + w) = (31, am_sln w) ∧ cI 131 sJ (am_I0 X) (am_B + 1 + w) = am_sch w := fun w hw => by
    have hB : am_B = 1000000 := rfl
    refine ⟨?_, ?_⟩
    · unfold am_K0
      rw [if_neg (by omega), if_pos ⟨by omega, by omega⟩, show am_B + 1 + w - am_B - 1 = w by omega]
    · unfold cI
      rw [cble (by have := am_rn_f (am_B + 1 + w); omega)]
      show am_I0 X (am_B + 1 + w) = am_sch w
      unfold am_I0
      rw [if_neg (by omega), show am_B + 1 + w - am_B - 1 = w by omega]
  generalize cI 131 sJ (am_I0 X) = I at e z e1
  have f : ∀ j k v, j < 131 → sJ j k = v → I j k = v := fun j k v h h2 => by rw [e j h]; exact h2
  have hC : nC I = 0 := by unfold nC; rw [f 80 45 0 (by decide) rfl]; rfl
  have r94 : I 94 = fun i => if i < 16 then 100 else 0 := (e 94 (by decide)).trans sJ_94
  have r98 : I 98 = fun i => if i < 8 then 10 else 0 := (e 98 (by decide)).trans sJ_98
  have r99 : I 99 = fun i => if i < 8 then 1000000 else 0 := (e 99 (by decide)).trans sJ_99
  have r106 : I 106 = fun i => if i < 4 then 1000 else 0 := (e 106 (by decide)).trans sJ_106
  have r67 : I 67 = fun i => if i < 4 then 1000 else 0 := (e 67 (by decide)).trans sJ_67
  have r2 : I 2 = fun i => if i < 400 then 50 else 0 := (e 2 (by decide)).trans sJ_2
  have r11 : I 11 = fun i => if i < 8 then 10 else 0 := (e 11 (by decide)).trans sJ_11
  have r12 : I 12 = fun i => if i < 8 then 1000000 else 0 := (e 12 (by decide)).trans sJ_12
  have r14 : I 14 = fun i => if i < 16 then 100 else 0 := (e 14 (by decide)).trans sJ_14
  have hT : wfT I := by
    refine ⟨fun c hc => ?_, fun j => ?_, fun r hr => ?_, fun d _ => ?_⟩
    · rw [r94]; show 1 ≤ (if c < 16 then (100 : Int32) else 0).toInt ∧ (if c < 16 then (100 : Int32) else 0).toInt ≤ 1000
      rw [if_pos hc]; decide
    · rw [r94]; show (if j < 16 then (100 : Int32) else 0) ≤ 1000
      split <;> decide
    · rw [z 95 (by decide) (by decide), z 96 (by decide) (by decide), z 97 (by decide) (by decide), r98, r99]
      refine ⟨(show 0 ≤ (0 : Int32).toInt ∧ (0 : Int32).toInt ≤ 5000 from by decide), (show 0 ≤ (0 : Int32).toInt ∧ (0 : Int32).toInt ≤ 100 from by decide), (show -500 ≤ (0 : Int32).toInt ∧ (0 : Int32).toInt ≤ 500 from by decide), ?_, ?_⟩
      · show 1 ≤ (if r < 8 then (10 : Int32) else 0).toInt ∧ (if r < 8 then (10 : Int32) else 0).toInt ≤ 100
        rw [if_pos hr]; decide
      · show 0 ≤ (if r < 8 then (1000000 : Int32) else 0).toInt ∧ (if r < 8 then (1000000 : Int32) else 0).toInt ≤ 1000000
        rw [if_pos hr]; decide
    · rw [z 100 (by decide) (by decide)]; exact (show 0 ≤ (0 : Int32).toInt ∧ (0 : Int32).toInt ≤ 100 from by decide)
  have hB : wfB I := ⟨⟨by rw [hC]; exact f 80 45 0 (by decide) rfl, by omega⟩, Or.inl (f 80 46 (-1) (by decide) rfl), fun n h1 h2 => by omega⟩
  have hG : cGr 131 (am_K0 Ln) (cQ cl109) I cZ I 0 (fun _ => 0) := by
    refine ⟨⟨by rw [r14, r94], by rw [z 8 (by decide) (by decide), z 95 (by decide) (by decide)], by rw [z 9 (by decide) (by decide), z 96 (by decide) (by decide)], by rw [z 10 (by decide) (by decide), z 97 (by decide) (by decide)], by rw [r11, r98], by rw [r12, r99]⟩, fun d hd => ?_, ⟨⟨fun i hi => absurd hi (by omega), fun i hi => absurd hi (by omega), fun i j hi => absurd hi (by omega)⟩, hC, fun i hi => absurd hi (by omega), ?_, ?_, fun i hi => absurd hi (by omega)⟩, fun d hd => ?_, 0, ?_, by omega, fun D hD => ?_⟩
    · rw [z 101 (by decide) (by decide), z 100 (by decide) (by decide), wf_z, r2]
      exact if_pos hd
    · rw [f 55 2 0 (by decide) rfl, f 80 45 0 (by decide) rfl]
    · rw [f 55 3 (-1) (by decide) rfl, f 80 46 (-1) (by decide) rfl]
    · refine ⟨?_, ?_, ?_, fun c hc => ?_⟩
      · rw [z 15 (by decide) (by decide)]; unfold gT; rw [zsn hC]; rfl
      · unfold gM; rw [zsn hC]; rfl
      · rw [z 17 (by decide) (by decide)]; unfold gLd; rw [zsn hC]; rfl
      · rw [z (19 + c) (by omega) (by omega)]; unfold wkZ gLi gFr; rw [zsn hC, zsn hC, zsn hC]; split <;> rfl
    · exact f 13 11 0 (by decide) rfl
    · have e0 : D = 0 := by omega
      subst e0
      refine ⟨?_, ?_, ?_, fun c hc => rfl⟩
      · rw [z 52 (by decide) (by decide)]; rfl
      · rw [z 53 (by decide) (by decide)]; rfl
      · rw [z 54 (by decide) (by decide)]; rfl
  refine ⟨131, 231806, am_K0 Ln, I, cZ, cQ cl109, rfl, 0, fun _ => 0, fun _ => [], fun _ => 0, 0, ⟨hT, hB, hG, fun i hi => absurd hi (by omega), fun r h1 h2 => by omega, Nat.le_refl _⟩, ⟨⟨f 57 1 0 (by decide) rfl, by omega, fun i hi => absurd hi (by omega)⟩, e1, f 80 1 0 (by decide) rfl, fun i hi => absurd hi (by omega), by rw [f 57 12 0 (by decide) rfl, f 80 10 0 (by decide) rfl], by rw [f 57 13 (-1) (by decide) rfl, f 80 11 (-1) (by decide) rfl]⟩, ⟨fun d _ => ?_, fun d _ => ?_, fun d _ => ?_, fun d _ => ?_⟩, fun g hg => ?_, ⟨fun k hk => ?_, Or.inl ⟨f 71 10 0 (by decide) rfl, f 80 68 (-1) (by decide) rfl⟩⟩, ⟨0, by omega, f 77 2 0 (by decide) rfl, f 80 71 0 (by decide) rfl, fun k hk => absurd hk (by omega), fun s hs => ?_⟩, ⟨0, 0, f 55 4 0 (by decide) rfl, f 13 12 0 (by decide) rfl, by omega, by omega, Or.inl (f 60 10 (-1) (by decide) rfl)⟩, by omega, by omega⟩
  · rw [z 3 (by decide) (by decide), z 101 (by decide) (by decide)]
  · rw [z 6 (by decide) (by decide), z 103 (by decide) (by decide)]
  · rw [z 5 (by decide) (by decide), z 103 (by decide) (by decide), z 102 (by decide) (by decide), wf_z]
  · rw [z 102 (by decide) (by decide)]; exact (show -20 ≤ (0 : Int32).toInt ∧ (0 : Int32).toInt ≤ 50 from by decide)
  · rw [z 65 (by decide) (by decide), z 104 (by decide) (by decide), z 66 (by decide) (by decide), z 105 (by decide) (by decide), r67, r106]
    refine ⟨⟨rfl, rfl, rfl⟩, (show -100 ≤ (0 : Int32).toInt ∧ (0 : Int32).toInt ≤ 100 from by decide), (show -1000 ≤ (0 : Int32).toInt ∧ (0 : Int32).toInt ≤ 1000 from by decide), ?_⟩
    show 0 ≤ (if g < 4 then (1000 : Int32) else 0).toInt ∧ (if g < 4 then (1000 : Int32) else 0).toInt ≤ 1000000
    rw [if_pos hg]; decide
  · rw [z 72 (by decide) (by decide), z 121 (by decide) (by decide), z 73 (by decide) (by decide), z 122 (by decide) (by decide)]
    exact ⟨rfl, rfl, (show 0 ≤ (0 : Int32).toInt ∧ (0 : Int32).toInt < 16 from by decide), (show 0 ≤ (0 : Int32).toInt ∧ (0 : Int32).toInt ≤ 1000 from by decide)⟩
  · have e0 : s = 0 := by have : 2 ^ 0 = 1 := rfl; omega
    subst e0
    rw [z 78 (by decide) (by decide), z 79 (by decide) (by decide)]
    exact ⟨rfl, rfl⟩
theorem am_goal : am_Goal := by
  intro Ln X hL
  have hsc : scr Ln X (131, 231806, wKK (am_K0 Ln), cI 131 sJ (am_I0 X), cZ, wQQ (cQ cl109)) := by
    have hB : am_B = 1000000 := rfl
    refine ⟨?_, ?_⟩
    · show wKK (am_K0 Ln) am_B = (30, Ln)
      show am_K0 Ln am_B = (30, Ln)
      unfold am_K0
      rw [if_pos rfl]
    · show cI 131 sJ (am_I0 X) am_B = X
      show am_I0 X am_B = X
      unfold am_I0
      rw [if_pos rfl]
  have h1 := lw_loop hL 512 0 rfl _ (hInv_0 (Ln := Ln) (X := X)) hsc
  rw [← cq_w, ← cK_w] at h1
  have h2 := lw_st (kk := am_K0 Ln) (X := am_I0 X) h1
  obtain ⟨rv, h', ⟨f, hf⟩, rfl, p1, p2⟩ := h2
  exact ⟨f, h', hf, p1, p2⟩
