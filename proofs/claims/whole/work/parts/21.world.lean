/-! THE STORE BEHIND THE CONSTRUCTORS: what kind each of the 131 cells is, how they hang together -/
def wK (j : Nat) : Nat × Nat := cond (Nat.ble 65 j) (cond (Nat.ble 98 j) (cond (Nat.ble 114 j) (cond (Nat.ble 122 j) (cond (Nat.ble 126 j) (cond (Nat.ble 128 j) (cond (Nat.ble 129 j) (cond (Nat.ble 130 j) ((20, 801)) ((20, 801))) ((20, 801))) (cond (Nat.ble 127 j) ((20, 801)) ((20, 10)))) (cond (Nat.ble 124 j) (cond (Nat.ble 125 j) ((20, 10)) ((20, 8))) (cond (Nat.ble 123 j) ((20, 8)) ((20, 3))))) (cond (Nat.ble 118 j) (cond (Nat.ble 120 j) (cond (Nat.ble 121 j) ((20, 3)) ((21, 9))) (cond (Nat.ble 119 j) ((21, 850)) ((20, 6400)))) (cond (Nat.ble 116 j) (cond (Nat.ble 117 j) ((20, 6400)) ((21, 400))) (cond (Nat.ble 115 j) ((21, 400)) ((21, 401)))))) (cond (Nat.ble 106 j) (cond (Nat.ble 110 j) (cond (Nat.ble 112 j) (cond (Nat.ble 113 j) ((21, 6416)) ((20, 201))) (cond (Nat.ble 111 j) ((20, 201)) ((20, 201)))) (cond (Nat.ble 108 j) (cond (Nat.ble 109 j) ((20, 201)) ((20, 201))) (cond (Nat.ble 107 j) ((20, 201)) ((20, 4))))) (cond (Nat.ble 102 j) (cond (Nat.ble 104 j) (cond (Nat.ble 105 j) ((20, 4)) ((20, 4))) (cond (Nat.ble 103 j) ((23, 400)) ((20, 400)))) (cond (Nat.ble 100 j) (cond (Nat.ble 101 j) ((23, 400)) ((20, 400))) (cond (Nat.ble 99 j) ((20, 8)) ((20, 8))))))) (cond (Nat.ble 81 j) (cond (Nat.ble 89 j) (cond (Nat.ble 93 j) (cond (Nat.ble 95 j) (cond (Nat.ble 96 j) (cond (Nat.ble 97 j) ((20, 8)) ((20, 8))) ((20, 8))) (cond (Nat.ble 94 j) ((20, 16)) ((20, 500)))) (cond (Nat.ble 91 j) (cond (Nat.ble 92 j) ((20, 20)) ((20, 20))) (cond (Nat.ble 90 j) ((23, 20)) ((20, 20))))) (cond (Nat.ble 85 j) (cond (Nat.ble 87 j) (cond (Nat.ble 88 j) ((20, 20)) ((20, 160800))) (cond (Nat.ble 86 j) ((20, 4020)) ((20, 4020)))) (cond (Nat.ble 83 j) (cond (Nat.ble 84 j) ((20, 4020)) ((20, 4020))) (cond (Nat.ble 82 j) ((20, 201)) ((20, 800)))))) (cond (Nat.ble 73 j) (cond (Nat.ble 77 j) (cond (Nat.ble 79 j) (cond (Nat.ble 80 j) ((11, 0)) ((20, 1024))) (cond (Nat.ble 78 j) ((20, 1024)) ((2, 0)))) (cond (Nat.ble 75 j) (cond (Nat.ble 76 j) ((21, 4096)) ((20, 8))) (cond (Nat.ble 74 j) ((20, 8)) ((20, 3))))) (cond (Nat.ble 69 j) (cond (Nat.ble 71 j) (cond (Nat.ble 72 j) ((20, 3)) ((7, 0))) (cond (Nat.ble 70 j) ((21, 200)) ((21, 200)))) (cond (Nat.ble 67 j) (cond (Nat.ble 68 j) ((20, 200)) ((20, 4))) (cond (Nat.ble 66 j) ((20, 4)) ((20, 4)))))))) (cond (Nat.ble 32 j) (cond (Nat.ble 48 j) (cond (Nat.ble 56 j) (cond (Nat.ble 60 j) (cond (Nat.ble 62 j) (cond (Nat.ble 63 j) (cond (Nat.ble 64 j) ((4, 0)) ((20, 200))) ((21, 64))) (cond (Nat.ble 61 j) ((21, 7)) ((5, 0)))) (cond (Nat.ble 58 j) (cond (Nat.ble 59 j) ((20, 800)) ((22, 800))) (cond (Nat.ble 57 j) ((6, 0)) ((24, 200))))) (cond (Nat.ble 52 j) (cond (Nat.ble 54 j) (cond (Nat.ble 55 j) ((1, 0)) ((20, 401))) (cond (Nat.ble 53 j) ((20, 401)) ((20, 401)))) (cond (Nat.ble 50 j) (cond (Nat.ble 51 j) ((21, 401)) ((21, 401))) (cond (Nat.ble 49 j) ((21, 401)) ((21, 401)))))) (cond (Nat.ble 40 j) (cond (Nat.ble 44 j) (cond (Nat.ble 46 j) (cond (Nat.ble 47 j) ((21, 401)) ((21, 401))) (cond (Nat.ble 45 j) ((21, 401)) ((21, 401)))) (cond (Nat.ble 42 j) (cond (Nat.ble 43 j) ((21, 401)) ((21, 401))) (cond (Nat.ble 41 j) ((21, 401)) ((21, 401))))) (cond (Nat.ble 36 j) (cond (Nat.ble 38 j) (cond (Nat.ble 39 j) ((21, 401)) ((21, 401))) (cond (Nat.ble 37 j) ((21, 401)) ((21, 401)))) (cond (Nat.ble 34 j) (cond (Nat.ble 35 j) ((26, 16)) ((20, 400))) (cond (Nat.ble 33 j) ((20, 400)) ((20, 400))))))) (cond (Nat.ble 16 j) (cond (Nat.ble 24 j) (cond (Nat.ble 28 j) (cond (Nat.ble 30 j) (cond (Nat.ble 31 j) ((20, 400)) ((20, 400))) (cond (Nat.ble 29 j) ((20, 400)) ((20, 400)))) (cond (Nat.ble 26 j) (cond (Nat.ble 27 j) ((20, 400)) ((20, 400))) (cond (Nat.ble 25 j) ((20, 400)) ((20, 400))))) (cond (Nat.ble 20 j) (cond (Nat.ble 22 j) (cond (Nat.ble 23 j) ((20, 400)) ((20, 400))) (cond (Nat.ble 21 j) ((20, 400)) ((20, 400)))) (cond (Nat.ble 18 j) (cond (Nat.ble 19 j) ((20, 400)) ((25, 16))) (cond (Nat.ble 17 j) ((20, 400)) ((21, 400)))))) (cond (Nat.ble 8 j) (cond (Nat.ble 12 j) (cond (Nat.ble 14 j) (cond (Nat.ble 15 j) ((20, 400)) ((20, 16))) (cond (Nat.ble 13 j) ((3, 0)) ((20, 8)))) (cond (Nat.ble 10 j) (cond (Nat.ble 11 j) ((20, 8)) ((20, 8))) (cond (Nat.ble 9 j) ((20, 8)) ((20, 8))))) (cond (Nat.ble 4 j) (cond (Nat.ble 6 j) (cond (Nat.ble 7 j) ((8, 0)) ((23, 400))) (cond (Nat.ble 5 j) ((20, 400)) ((9, 0)))) (cond (Nat.ble 2 j) (cond (Nat.ble 3 j) ((23, 400)) ((20, 400))) (cond (Nat.ble 1 j) ((9, 0)) ((10, 0))))))))
def wKK (k : Nat → Nat × Nat) (j : Nat) : Nat × Nat := cond (Nat.ble 131 j) (k j) (wK j)
def wQ (j i : Nat) : Option Nat := cond (Nat.beq j 18) (cond (Nat.ble 16 i) none (some (19 + i))) (cond (Nat.beq j 35) (cond (Nat.ble 16 i) none (some (36 + i))) ((cond (Nat.ble 57 j) (cond (Nat.ble 71 j) (cond (Nat.ble 77 j) (cond (Nat.ble 80 j) (cond (Nat.beq j 80) [some 81, none, none, none, none, none, none, none, none, none, none, none, none, none, none, some 82, some 83, some 84, some 85, some 86, some 87, none, some 88, some 89, some 90, some 91, some 92, none, none, some 93, none, none, some 94, some 95, some 96, some 97, some 98, some 99, some 100, some 101, some 102, some 103, some 104, some 105, some 106, none, none, some 107, some 108, some 109, some 110, some 111, some 112, some 113, some 114, some 115, some 116, none, none, some 117, some 118, some 119, some 120, none, none, none, some 121, some 122, none, some 123, some 124, none, some 125, some 126] []) (cond (Nat.beq j 77) [some 78, some 79] [])) (cond (Nat.beq j 71) [some 13, some 72, some 73, none, none, none, none, none, some 74, some 75, none, some 76] [])) (cond (Nat.ble 60 j) (cond (Nat.ble 64 j) (cond (Nat.beq j 64) [some 55, some 13, some 4, some 65, some 66, some 67, some 68, some 69, some 70] []) (cond (Nat.beq j 60) [some 55, some 13, some 1, some 61, none, none, none, some 62, some 63] [])) (cond (Nat.beq j 57) [some 58, none, some 127, some 128, some 129, some 130, none, none, none, none, none, none, none, none, some 59] []))) (cond (Nat.ble 7 j) (cond (Nat.ble 13 j) (cond (Nat.ble 55 j) (cond (Nat.beq j 55) [some 13, some 56] []) (cond (Nat.beq j 13) [some 1, some 7, some 14, some 15, some 16, some 17, some 18, some 35, some 52, some 53, some 54] [])) (cond (Nat.beq j 7) [some 8, some 9, some 10, some 11, some 12] [])) (cond (Nat.ble 1 j) (cond (Nat.ble 4 j) (cond (Nat.beq j 4) [some 5, some 6] []) (cond (Nat.beq j 1) [some 2, some 3] [])) (cond (Nat.beq j 0) [some 1, some 4, some 7, some 13, some 55, some 57, some 60, some 64, some 71, some 77] []))) : List (Option Nat)).getD i none))
def wQQ (q : Nat → Nat → Option Nat) (j i : Nat) : Option Nat := cond (Nat.ble 131 j) (q j i) (cond (Nat.beq j 56) (q j i) (wQ j i))
section EVA
variable {d mi pc pc' a k n : Nat} {ls ls' : am_L} {st : List Value} {h : am_H} {r : Option Value × am_H} {v : Value} {N sl : Nat} {K : Nat → Nat × Nat} {I : Nat → Nat → Int32} {L : Nat → Nat → Int64} {Q : Nat → Nat → Option Nat}
theorem ev_iincN {j : Nat} (hP : am_P mi pc = some (.iinc j 1, 3, [], v)) (hg : am_lget ls j = some (.int (nI k))) (hl : (if j < ls.length then some (am_lset1 ls j (.int (nI (k + 1)))) else none) = some ls') (kk : am_Ev d mi (pc + 3) ls' st h r) : am_Ev d mi pc ls st h r := by
  refine ev_1 hP rfl ?_ kk
  show (match am_lget ls j with
    | some (.int x) => if j < ls.length then some (pc + 3, am_lset1 ls j (.int (x + Int32.ofInt 1)), st, h) else none
    | _ => none) = _
  rw [hg]
  by_cases hj : j < ls.length
  · rw [if_pos hj] at hl
    simp only [if_pos hj]
    rw [← Option.some.inj hl, nI_succ]
    rfl
  · rw [if_neg hj] at hl
    cases hl
theorem ev_ix (hk : k < n) (hn : n < 2 ^ 31) : ¬ (nI k < 0 ∨ n ≤ (nI k).toNatClampNeg) := by
  rintro (h | h)
  · exact nI_pos (by omega) h
  · rw [nI_clamp (by omega)] at h
    omega
theorem ev_ial {i : Int32} (hP : am_P mi pc = some (.iaload, 1, [], v)) (hK : K a = (20, n)) (hin : ¬ (i < 0 ∨ n ≤ i.toNatClampNeg)) (kk : am_Ev d mi (pc + 1) ls (.int (I a i.toNatClampNeg) :: st) (N, sl, K, I, L, Q) r) : am_Ev d mi pc ls (.int i :: .ref a :: st) (N, sl, K, I, L, Q) r := by
  refine ev_1 hP rfl ?_ kk
  show (if (K a).1 = 20 ∨ (K a).1 = 30 then (if i < 0 ∨ (K a).2 ≤ i.toNatClampNeg then none else some (pc + 1, ls, .int (I a i.toNatClampNeg) :: st, (N, sl, K, I, L, Q))) else none) = _
  rw [hK, if_pos (Or.inl rfl), if_neg hin]
theorem ev_bal {i : Int32} {t : Nat} (hP : am_P mi pc = some (.baload, 1, [], v)) (hK : K a = (t, n)) (ht : t = 22 ∨ t = 23) (hin : ¬ (i < 0 ∨ n ≤ i.toNatClampNeg)) (kk : am_Ev d mi (pc + 1) ls (.int (I a i.toNatClampNeg) :: st) (N, sl, K, I, L, Q) r) : am_Ev d mi pc ls (.int i :: .ref a :: st) (N, sl, K, I, L, Q) r := by
  refine ev_1 hP rfl ?_ kk
  show (if (K a).1 = 22 ∨ (K a).1 = 23 then (if i < 0 ∨ (K a).2 ≤ i.toNatClampNeg then none else some (pc + 1, ls, .int (I a i.toNatClampNeg) :: st, (N, sl, K, I, L, Q))) else none) = _
  rw [hK, if_pos ht, if_neg hin]
theorem ev_lal {i : Int32} (hP : am_P mi pc = some (.laload, 1, [], v)) (hK : K a = (21, n)) (hin : ¬ (i < 0 ∨ n ≤ i.toNatClampNeg)) (kk : am_Ev d mi (pc + 1) ls (.long (L a i.toNatClampNeg) :: st) (N, sl, K, I, L, Q) r) : am_Ev d mi pc ls (.int i :: .ref a :: st) (N, sl, K, I, L, Q) r := by
  refine ev_1 hP rfl ?_ kk
  show (if (K a).1 = 21 then (if i < 0 ∨ (K a).2 ≤ i.toNatClampNeg then none else some (pc + 1, ls, .long (L a i.toNatClampNeg) :: st, (N, sl, K, I, L, Q))) else none) = _
  rw [hK, if_pos rfl, if_neg hin]
theorem ev_aal {i : Int32} {t : Nat} (hP : am_P mi pc = some (.aaload, 1, [], v)) (hK : K a = (t, n)) (ht : t = 24 ∨ t = 25 ∨ t = 26) (hin : ¬ (i < 0 ∨ n ≤ i.toNatClampNeg)) (kk : am_Ev d mi (pc + 1) ls (va_rf (Q a i.toNatClampNeg) :: st) (N, sl, K, I, L, Q) r) : am_Ev d mi pc ls (.int i :: .ref a :: st) (N, sl, K, I, L, Q) r := by
  refine ev_1 hP rfl ?_ kk
  show (if (K a).1 = 24 ∨ (K a).1 = 25 ∨ (K a).1 = 26 then (if i < 0 ∨ (K a).2 ≤ i.toNatClampNeg then none else some (pc + 1, ls, va_rf (Q a i.toNatClampNeg) :: st, (N, sl, K, I, L, Q))) else none) = _
  rw [hK, if_pos ht, if_neg hin]
theorem ev_ias {i x : Int32} (hP : am_P mi pc = some (.iastore, 1, [], v)) (hK : K a = (20, n)) (hin : ¬ (i < 0 ∨ n ≤ i.toNatClampNeg)) (kk : am_Ev d mi (pc + 1) ls st (N, sl, K, va_up I a (upd (I a) i.toNatClampNeg x), L, Q) r) : am_Ev d mi pc ls (.int x :: .int i :: .ref a :: st) (N, sl, K, I, L, Q) r := by
  refine ev_1 hP rfl ?_ kk
  show (if (K a).1 = 20 then (if i < 0 ∨ (K a).2 ≤ i.toNatClampNeg then none else some (pc + 1, ls, st, (N, sl, K, va_up I a (upd (I a) i.toNatClampNeg x), L, Q))) else none) = _
  rw [hK, if_pos rfl, if_neg hin]
theorem ev_las {i : Int32} {x : Int64} (hP : am_P mi pc = some (.lastore, 1, [], v)) (hK : K a = (21, n)) (hin : ¬ (i < 0 ∨ n ≤ i.toNatClampNeg)) (kk : am_Ev d mi (pc + 1) ls st (N, sl, K, I, va_up L a (vp_updL (L a) i.toNatClampNeg x), Q) r) : am_Ev d mi pc ls (.long x :: .int i :: .ref a :: st) (N, sl, K, I, L, Q) r := by
  refine ev_1 hP rfl ?_ kk
  show (if (K a).1 = 21 then (if i < 0 ∨ (K a).2 ≤ i.toNatClampNeg then none else some (pc + 1, ls, st, (N, sl, K, I, va_up L a (vp_updL (L a) i.toNatClampNeg x), Q))) else none) = _
  rw [hK, if_pos rfl, if_neg hin]
theorem ev_basB {i x : Int32} (hP : am_P mi pc = some (.bastore, 1, [], v)) (hK : K a = (22, n)) (hin : ¬ (i < 0 ∨ n ≤ i.toNatClampNeg)) (kk : am_Ev d mi (pc + 1) ls st (N, sl, K, va_up I a (upd (I a) i.toNatClampNeg (vp_nar .byte x)), L, Q) r) : am_Ev d mi pc ls (.int x :: .int i :: .ref a :: st) (N, sl, K, I, L, Q) r := by
  refine ev_1 hP rfl ?_ kk
  show (if i < 0 ∨ (K a).2 ≤ i.toNatClampNeg then none else
      (if (K a).1 = 22 then some (pc + 1, ls, st, (N, sl, K, va_up I a (upd (I a) i.toNatClampNeg (vp_nar .byte x)), L, Q)) else
      if (K a).1 = 23 then some (pc + 1, ls, st, (N, sl, K, va_up I a (upd (I a) i.toNatClampNeg (vp_nar .boolean x)), L, Q)) else none)) = _
  rw [hK, if_neg hin, if_pos rfl]
theorem ev_basZ {i x : Int32} (hP : am_P mi pc = some (.bastore, 1, [], v)) (hK : K a = (23, n)) (hin : ¬ (i < 0 ∨ n ≤ i.toNatClampNeg)) (kk : am_Ev d mi (pc + 1) ls st (N, sl, K, va_up I a (upd (I a) i.toNatClampNeg (vp_nar .boolean x)), L, Q) r) : am_Ev d mi pc ls (.int x :: .int i :: .ref a :: st) (N, sl, K, I, L, Q) r := by
  refine ev_1 hP rfl ?_ kk
  show (if i < 0 ∨ (K a).2 ≤ i.toNatClampNeg then none else
      (if (K a).1 = 22 then some (pc + 1, ls, st, (N, sl, K, va_up I a (upd (I a) i.toNatClampNeg (vp_nar .byte x)), L, Q)) else
      if (K a).1 = 23 then some (pc + 1, ls, st, (N, sl, K, va_up I a (upd (I a) i.toNatClampNeg (vp_nar .boolean x)), L, Q)) else none)) = _
  rw [hK, if_neg hin, if_neg (show ¬ (23 : Nat) = 22 by decide), if_pos rfl]
theorem ev_nk (hk : k < n) (hn : n ≤ 200000) {P : Nat → Prop} (h : P k) : P (nI k).toNatClampNeg := by
  rw [nI_clamp (by omega)]
  exact h
theorem ev_ialN (hP : am_P mi pc = some (.iaload, 1, [], v)) (hK : K a = (20, n)) (hk : k < n ∧ n ≤ 200000) (kk : am_Ev d mi (pc + 1) ls (.int (I a k) :: st) (N, sl, K, I, L, Q) r) : am_Ev d mi pc ls (.int (nI k) :: .ref a :: st) (N, sl, K, I, L, Q) r :=
  ev_ial hP hK (ev_ix hk.1 (by omega)) (ev_nk (P := fun z => am_Ev d mi (pc + 1) ls (.int (I a z) :: st) (N, sl, K, I, L, Q) r) hk.1 hk.2 kk)
theorem ev_lalN (hP : am_P mi pc = some (.laload, 1, [], v)) (hK : K a = (21, n)) (hk : k < n ∧ n ≤ 200000) (kk : am_Ev d mi (pc + 1) ls (.long (L a k) :: st) (N, sl, K, I, L, Q) r) : am_Ev d mi pc ls (.int (nI k) :: .ref a :: st) (N, sl, K, I, L, Q) r :=
  ev_lal hP hK (ev_ix hk.1 (by omega)) (ev_nk (P := fun z => am_Ev d mi (pc + 1) ls (.long (L a z) :: st) (N, sl, K, I, L, Q) r) hk.1 hk.2 kk)
theorem ev_balN {t : Nat} (hP : am_P mi pc = some (.baload, 1, [], v)) (hK : K a = (t, n)) (hk : (t = 22 ∨ t = 23) ∧ k < n ∧ n ≤ 200000) (kk : am_Ev d mi (pc + 1) ls (.int (I a k) :: st) (N, sl, K, I, L, Q) r) : am_Ev d mi pc ls (.int (nI k) :: .ref a :: st) (N, sl, K, I, L, Q) r :=
  ev_bal hP hK hk.1 (ev_ix hk.2.1 (by omega)) (ev_nk (P := fun z => am_Ev d mi (pc + 1) ls (.int (I a z) :: st) (N, sl, K, I, L, Q) r) hk.2.1 hk.2.2 kk)
theorem ev_iasN {x : Int32} (hP : am_P mi pc = some (.iastore, 1, [], v)) (hK : K a = (20, n)) (hk : k < n ∧ n ≤ 200000) (kk : am_Ev d mi (pc + 1) ls st (N, sl, K, va_up I a (upd (I a) k x), L, Q) r) : am_Ev d mi pc ls (.int x :: .int (nI k) :: .ref a :: st) (N, sl, K, I, L, Q) r :=
  ev_ias hP hK (ev_ix hk.1 (by omega)) (ev_nk (P := fun z => am_Ev d mi (pc + 1) ls st (N, sl, K, va_up I a (upd (I a) z x), L, Q) r) hk.1 hk.2 kk)
theorem ev_lasN {x : Int64} (hP : am_P mi pc = some (.lastore, 1, [], v)) (hK : K a = (21, n)) (hk : k < n ∧ n ≤ 200000) (kk : am_Ev d mi (pc + 1) ls st (N, sl, K, I, va_up L a (vp_updL (L a) k x), Q) r) : am_Ev d mi pc ls (.long x :: .int (nI k) :: .ref a :: st) (N, sl, K, I, L, Q) r :=
  ev_las hP hK (ev_ix hk.1 (by omega)) (ev_nk (P := fun z => am_Ev d mi (pc + 1) ls st (N, sl, K, I, va_up L a (vp_updL (L a) z x), Q) r) hk.1 hk.2 kk)
theorem ev_basBN {x : Int32} (hP : am_P mi pc = some (.bastore, 1, [], v)) (hK : K a = (22, n)) (hk : k < n ∧ n ≤ 200000) (kk : am_Ev d mi (pc + 1) ls st (N, sl, K, va_up I a (upd (I a) k (vp_nar .byte x)), L, Q) r) : am_Ev d mi pc ls (.int x :: .int (nI k) :: .ref a :: st) (N, sl, K, I, L, Q) r :=
  ev_basB hP hK (ev_ix hk.1 (by omega)) (ev_nk (P := fun z => am_Ev d mi (pc + 1) ls st (N, sl, K, va_up I a (upd (I a) z (vp_nar .byte x)), L, Q) r) hk.1 hk.2 kk)
theorem ev_basZN {x : Int32} (hP : am_P mi pc = some (.bastore, 1, [], v)) (hK : K a = (23, n)) (hk : k < n ∧ n ≤ 200000) (kk : am_Ev d mi (pc + 1) ls st (N, sl, K, va_up I a (upd (I a) k (vp_nar .boolean x)), L, Q) r) : am_Ev d mi pc ls (.int x :: .int (nI k) :: .ref a :: st) (N, sl, K, I, L, Q) r :=
  ev_basZ hP hK (ev_ix hk.1 (by omega)) (ev_nk (P := fun z => am_Ev d mi (pc + 1) ls st (N, sl, K, va_up I a (upd (I a) z (vp_nar .boolean x)), L, Q) r) hk.1 hk.2 kk)
theorem ev_ldiv {x y : Int64} (hP : am_P mi pc = some (.ldiv, 1, [], v)) (hy : ¬ y = 0) (kk : am_Ev d mi (pc + 1) ls (.long (x / y) :: st) h r) : am_Ev d mi pc ls (.long y :: .long x :: st) h r := by
  refine ev_1 hP rfl ?_ kk
  show (if y = 0 then none else some (pc + 1, ls, .long (x / y) :: st, h)) = _
  rw [if_neg hy]
theorem ev_lrem {x y : Int64} (hP : am_P mi pc = some (.lrem, 1, [], v)) (hy : ¬ y = 0) (kk : am_Ev d mi (pc + 1) ls (.long (x - x / y * y) :: st) h r) : am_Ev d mi pc ls (.long y :: .long x :: st) h r := by
  refine ev_1 hP rfl ?_ kk
  show (if y = 0 then none else some (pc + 1, ls, .long (x - x / y * y) :: st, h)) = _
  rw [if_neg hy]
theorem ev_idiv {x y : Int32} (hP : am_P mi pc = some (.idiv, 1, [], v)) (hy : ¬ y = 0) (kk : am_Ev d mi (pc + 1) ls (.int (x / y) :: st) h r) : am_Ev d mi pc ls (.int y :: .int x :: st) h r := by
  refine ev_1 hP rfl ?_ kk
  show (if y = 0 then none else some (pc + 1, ls, .int (x / y) :: st, h)) = _
  rw [if_neg hy]
end EVA
section EVI
theorem ev_ifIs {d mi : Nat} {ls : am_L} {st : List Value} {h : am_H} {c : Prop} {dc : Decidable c} {a b : Nat} {x y : Int32} {h9 : am_H} (k1 : c → am_Ev d mi a ls st h (some (.int x), h9)) (k2 : ¬ c → am_Ev d mi b ls st h (some (.int y), h9)) : am_Ev d mi (if c then a else b) ls st h (some (.int (if c then x else y)), h9) := by
  by_cases q : c
  · simp only [if_pos q]; exact k1 q
  · simp only [if_neg q]; exact k2 q
theorem ev_ifIw {d mi : Nat} {ls : am_L} {st : List Value} {h : am_H} {c : Prop} {dc : Decidable c} {a b : Nat} {x y : Int32} {n sl : Nat} {K : Nat → Nat × Nat} {I1 I2 : Nat → Nat → Int32} {L1 L2 : Nat → Nat → Int64} {Q : Nat → Nat → Option Nat} (k1 : c → am_Ev d mi a ls st h (some (.int x), (n, sl, K, I1, L1, Q))) (k2 : ¬ c → am_Ev d mi b ls st h (some (.int y), (n, sl, K, I2, L2, Q))) : am_Ev d mi (if c then a else b) ls st h (some (.int (if c then x else y)), (n, sl, K, (if c then I1 else I2), (if c then L1 else L2), Q)) := by
  by_cases q : c
  · simp only [if_pos q]; exact k1 q
  · simp only [if_neg q]; exact k2 q
theorem ev_ifJs {d mi : Nat} {ls : am_L} {st : List Value} {h : am_H} {c : Prop} {dc : Decidable c} {a b : Nat} {x y : Int64} {h9 : am_H} (k1 : c → am_Ev d mi a ls st h (some (.long x), h9)) (k2 : ¬ c → am_Ev d mi b ls st h (some (.long y), h9)) : am_Ev d mi (if c then a else b) ls st h (some (.long (if c then x else y)), h9) := by
  by_cases q : c
  · simp only [if_pos q]; exact k1 q
  · simp only [if_neg q]; exact k2 q
theorem ev_ifJw {d mi : Nat} {ls : am_L} {st : List Value} {h : am_H} {c : Prop} {dc : Decidable c} {a b : Nat} {x y : Int64} {n sl : Nat} {K : Nat → Nat × Nat} {I1 I2 : Nat → Nat → Int32} {L1 L2 : Nat → Nat → Int64} {Q : Nat → Nat → Option Nat} (k1 : c → am_Ev d mi a ls st h (some (.long x), (n, sl, K, I1, L1, Q))) (k2 : ¬ c → am_Ev d mi b ls st h (some (.long y), (n, sl, K, I2, L2, Q))) : am_Ev d mi (if c then a else b) ls st h (some (.long (if c then x else y)), (n, sl, K, (if c then I1 else I2), (if c then L1 else L2), Q)) := by
  by_cases q : c
  · simp only [if_pos q]; exact k1 q
  · simp only [if_neg q]; exact k2 q
theorem ev_ifVw {d mi : Nat} {ls : am_L} {st : List Value} {h : am_H} {c : Prop} {dc : Decidable c} {a b : Nat} {n sl : Nat} {K : Nat → Nat × Nat} {I1 I2 : Nat → Nat → Int32} {L1 L2 : Nat → Nat → Int64} {Q : Nat → Nat → Option Nat} (k1 : c → am_Ev d mi a ls st h (none, (n, sl, K, I1, L1, Q))) (k2 : ¬ c → am_Ev d mi b ls st h (none, (n, sl, K, I2, L2, Q))) : am_Ev d mi (if c then a else b) ls st h (none, (n, sl, K, (if c then I1 else I2), (if c then L1 else L2), Q)) := by
  by_cases q : c
  · simp only [if_pos q]; exact k1 q
  · simp only [if_neg q]; exact k2 q
theorem ev_ifVs {d mi : Nat} {ls : am_L} {st : List Value} {h : am_H} {c : Prop} {dc : Decidable c} {a b : Nat} {r : Option Value × am_H} (k1 : c → am_Ev d mi a ls st h r) (k2 : ¬ c → am_Ev d mi b ls st h r) : am_Ev d mi (if c then a else b) ls st h r := by
  by_cases q : c
  · simp only [if_pos q]; exact k1 q
  · simp only [if_neg q]; exact k2 q
theorem am_01 {c : Prop} {dc : Decidable c} {x y : Int32} (hx : x = 0 ∨ x = 1) (hy : y = 0 ∨ y = 1) : (if c then x else y) = 0 ∨ (if c then x else y) = 1 := by
  by_cases q : c
  · rw [if_pos q]; exact hx
  · rw [if_neg q]; exact hy
end EVI
