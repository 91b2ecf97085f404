/-! COUNTED LOOPS OF NUMBERS: rings, columns -/
def sL (f : Nat → Int64) : Nat → Int64
  | 0 => 0
  | n + 1 => sL f n + f n
theorem wK_19 : ∀ c : Nat, c < 16 → wK (19 + c) = (20, 400) := by decide +kernel
theorem wK_36 : ∀ c : Nat, c < 16 → wK (36 + c) = (21, 401) := by decide +kernel
theorem wKK_lo {kk : Nat → Nat × Nat} {j : Nat} (h : j < 131) : wKK kk j = wK j := by
  unfold wKK
  rw [show Nat.ble 131 j = false from Bool.eq_false_iff.mpr (fun q => by have := Nat.le_of_ble_eq_true q; omega)]
  rfl
theorem wKK_19 {kk : Nat → Nat × Nat} {c : Nat} (h : c < 16) : wKK kk (19 + c) = (20, 400) := by
  rw [wKK_lo (by omega), wK_19 c h]
theorem wKK_36 {kk : Nat → Nat × Nat} {c : Nat} (h : c < 16) : wKK kk (36 + c) = (21, 401) := by
  rw [wKK_lo (by omega), wK_36 c h]
theorem wQQ_18 {q : Nat → Nat → Option Nat} {c : Nat} (h : c < 16) : wQQ q 18 c = some (19 + c) := by
  show cond (Nat.ble 16 c) none (some (19 + c)) = _
  rw [show Nat.ble 16 c = false from Bool.eq_false_iff.mpr (fun q => by have := Nat.le_of_ble_eq_true q; omega)]
  rfl
theorem wQQ_35 {q : Nat → Nat → Option Nat} {c : Nat} (h : c < 16) : wQQ q 35 c = some (36 + c) := by
  show cond (Nat.ble 16 c) none (some (36 + c)) = _
  rw [show Nat.ble 16 c = false from Bool.eq_false_iff.mpr (fun q => by have := Nat.le_of_ble_eq_true q; omega)]
  rfl
theorem am_inlt {i : Int32} {n : Nat} (h : ¬ (i < 0 ∨ n ≤ i.toNatClampNeg)) : i.toNatClampNeg < n := Nat.not_le.mp fun q => h (Or.inr q)
section EVR
variable {d mi pc k N sl : Nat} {ls : am_L} {st : List Value} {r : Option Value × am_H} {v : Value} {kk : Nat → Nat × Nat} {I : Nat → Nat → Int32} {L : Nat → Nat → Int64} {q : Nat → Nat → Option Nat}
theorem ev_row18 {i : Int32} (hP : am_P mi pc = some (.aaload, 1, [], v)) (hin : ¬ (i < 0 ∨ 16 ≤ i.toNatClampNeg)) (k1 : am_Ev d mi (pc + 1) ls (.ref (19 + i.toNatClampNeg) :: st) (N, sl, wKK kk, I, L, wQQ q) r) : am_Ev d mi pc ls (.int i :: .ref 18 :: st) (N, sl, wKK kk, I, L, wQQ q) r := by
  refine ev_aal (t := 25) hP rfl (Or.inr (Or.inl rfl)) hin ?_
  rw [wQQ_18 (am_inlt hin)]
  exact k1
theorem ev_row35 {i : Int32} (hP : am_P mi pc = some (.aaload, 1, [], v)) (hin : ¬ (i < 0 ∨ 16 ≤ i.toNatClampNeg)) (k1 : am_Ev d mi (pc + 1) ls (.ref (36 + i.toNatClampNeg) :: st) (N, sl, wKK kk, I, L, wQQ q) r) : am_Ev d mi pc ls (.int i :: .ref 35 :: st) (N, sl, wKK kk, I, L, wQQ q) r := by
  refine ev_aal (t := 26) hP rfl (Or.inr (Or.inr rfl)) hin ?_
  rw [wQQ_35 (am_inlt hin)]
  exact k1
theorem ev_row18N (hP : am_P mi pc = some (.aaload, 1, [], v)) (hk : k < 16) (k1 : am_Ev d mi (pc + 1) ls (.ref (19 + k) :: st) (N, sl, wKK kk, I, L, wQQ q) r) : am_Ev d mi pc ls (.int (nI k) :: .ref 18 :: st) (N, sl, wKK kk, I, L, wQQ q) r :=
  ev_row18 hP (ev_ix hk (by omega)) (ev_nk (n := 16) (P := fun z => am_Ev d mi (pc + 1) ls (.ref (19 + z) :: st) (N, sl, wKK kk, I, L, wQQ q) r) hk (by omega) k1)
theorem ev_row35N (hP : am_P mi pc = some (.aaload, 1, [], v)) (hk : k < 16) (k1 : am_Ev d mi (pc + 1) ls (.ref (36 + k) :: st) (N, sl, wKK kk, I, L, wQQ q) r) : am_Ev d mi pc ls (.int (nI k) :: .ref 35 :: st) (N, sl, wKK kk, I, L, wQQ q) r :=
  ev_row35 hP (ev_ix hk (by omega)) (ev_nk (n := 16) (P := fun z => am_Ev d mi (pc + 1) ls (.ref (36 + z) :: st) (N, sl, wKK kk, I, L, wQQ q) r) hk (by omega) k1)
end EVR
theorem ev_st_weight {d : Nat} {n sl : Nat} {kk : Nat → Nat × Nat} {I : Nat → Nat → Int32} {L : Nat → Nat → Int64} {q : Nat → Nat → Option Nat} : am_Ev (d) 101 0 (am_ent 4 [.ref 7]) [] (n, sl, wKK kk, I, L, wQQ q) (some (.long (sL (fun j => (I 8 j).toInt64) 8)), (n, sl, wKK kk, I, L, wQQ q)) := by
  have loop : ∀ m k : Nat, k + m = 8 → am_Ev (d) 101 4 [some (.ref 7), some (.long (sL (fun j => (I 8 j).toInt64) k)), none, some (.int (nI k))] [] (n, sl, wKK kk, I, L, wQQ q) (some (.long (sL (fun j => (I 8 j).toInt64) 8)), (n, sl, wKK kk, I, L, wQQ q)) := by
    intro m
    induction m with
    | zero =>
      intro k hk
      obtain rfl : k = 8 := by omega
      refine ev_b (pc' := (if 8 ≤ (nI 8) then 26 else 10)) (ls' := [some (.ref 7), some (.long (sL (fun j => (I 8 j).toInt64) 8)), none, some (.int (nI 8))]) (st' := []) (h' := (n, sl, wKK kk, I, L, wQQ q)) 3 rfl ?_
      refine ev_t (by decide) ?_
      refine ev_b (pc' := 27) (ls' := [some (.ref 7), some (.long (sL (fun j => (I 8 j).toInt64) 8)), none, some (.int (nI 8))]) (st' := [.long (sL (fun j => (I 8 j).toInt64) 8)]) (h' := (n, sl, wKK kk, I, L, wQQ q)) 1 rfl ?_
      exact ev_rl rfl (rfl) rfl
    | succ m ih =>
      intro k hk
      refine ev_b (pc' := (if 8 ≤ (nI k) then 26 else 10)) (ls' := [some (.ref 7), some (.long (sL (fun j => (I 8 j).toInt64) k)), none, some (.int (nI k))]) (st' := []) (h' := (n, sl, wKK kk, I, L, wQQ q)) 3 rfl ?_
      refine ev_f (nI_ge (a := k) (b := 8) (by omega) (by omega)) ?_
      refine ev_b (pc' := 16) (ls' := [some (.ref 7), some (.long (sL (fun j => (I 8 j).toInt64) k)), none, some (.int (nI k))]) (st' := [.int (nI k), .ref 8, .long (sL (fun j => (I 8 j).toInt64) k)]) (h' := (n, sl, wKK kk, I, L, wQQ q)) 4 rfl ?_
      refine ev_ialN (k := k) rfl (rfl) (by omega) ?_
      refine ev_b (pc' := 20) (ls' := [some (.ref 7), some (.long ((sL (fun j => (I 8 j).toInt64) k) + ((I 8 k).toInt64))), none, some (.int (nI k))]) (st' := []) (h' := (n, sl, wKK kk, I, L, wQQ q)) 3 rfl ?_
      refine ev_iincN (k := k) (ls' := [some (.ref 7), some (.long ((sL (fun j => (I 8 j).toInt64) k) + ((I 8 k).toInt64))), none, some (.int (nI (k + 1)))]) rfl rfl rfl ?_
      refine ev_b (pc' := 4) (ls' := [some (.ref 7), some (.long ((sL (fun j => (I 8 j).toInt64) k) + ((I 8 k).toInt64))), none, some (.int (nI (k + 1)))]) (st' := []) (h' := (n, sl, wKK kk, I, L, wQQ q)) 1 rfl ?_
      exact ih (k + 1) (by omega)
  show am_Ev _ _ 0 [some (.ref 7), none, none, none] _ _ _
  refine ev_b (pc' := 4) (ls' := [some (.ref 7), some (.long 0), none, some (.int 0)]) (st' := []) (h' := (n, sl, wKK kk, I, L, wQQ q)) 4 rfl ?_
  exact loop 8 0 (rfl)
theorem ev_st_momentAt {d : Nat} {n sl : Nat} {kk : Nat → Nat × Nat} {I : Nat → Nat → Int32} {L : Nat → Nat → Int64} {q : Nat → Nat → Option Nat} {l : Int64} : am_Ev (d + 2) 102 0 (am_ent 6 [.ref 7, .long l]) [] (n, sl, wKK kk, I, L, wQQ q) (some (.long (sL (fun j => (I 8 j).toInt64 * sp_st_overhang (nI j) l I L) 8)), (n, sl, wKK kk, I, L, wQQ q)) := by
  have loop : ∀ m k : Nat, k + m = 8 → am_Ev (d + 2) 102 5 [some (.ref 7), some (.long l), none, some (.long (sL (fun j => (I 8 j).toInt64 * sp_st_overhang (nI j) l I L) k)), none, some (.int (nI k))] [] (n, sl, wKK kk, I, L, wQQ q) (some (.long (sL (fun j => (I 8 j).toInt64 * sp_st_overhang (nI j) l I L) 8)), (n, sl, wKK kk, I, L, wQQ q)) := by
    intro m
    induction m with
    | zero =>
      intro k hk
      obtain rfl : k = 8 := by omega
      refine ev_b (pc' := (if 8 ≤ (nI 8) then 37 else 12)) (ls' := [some (.ref 7), some (.long l), none, some (.long (sL (fun j => (I 8 j).toInt64 * sp_st_overhang (nI j) l I L) 8)), none, some (.int (nI 8))]) (st' := []) (h' := (n, sl, wKK kk, I, L, wQQ q)) 3 rfl ?_
      refine ev_t (by decide) ?_
      refine ev_b (pc' := 38) (ls' := [some (.ref 7), some (.long l), none, some (.long (sL (fun j => (I 8 j).toInt64 * sp_st_overhang (nI j) l I L) 8)), none, some (.int (nI 8))]) (st' := [.long (sL (fun j => (I 8 j).toInt64 * sp_st_overhang (nI j) l I L) 8)]) (h' := (n, sl, wKK kk, I, L, wQQ q)) 1 rfl ?_
      exact ev_rl rfl (rfl) rfl
    | succ m ih =>
      intro k hk
      refine ev_b (pc' := (if 8 ≤ (nI k) then 37 else 12)) (ls' := [some (.ref 7), some (.long l), none, some (.long (sL (fun j => (I 8 j).toInt64 * sp_st_overhang (nI j) l I L) k)), none, some (.int (nI k))]) (st' := []) (h' := (n, sl, wKK kk, I, L, wQQ q)) 3 rfl ?_
      refine ev_f (nI_ge (a := k) (b := 8) (by omega) (by omega)) ?_
      refine ev_b (pc' := 19) (ls' := [some (.ref 7), some (.long l), none, some (.long (sL (fun j => (I 8 j).toInt64 * sp_st_overhang (nI j) l I L) k)), none, some (.int (nI k))]) (st' := [.int (nI k), .ref 8, .long (sL (fun j => (I 8 j).toInt64 * sp_st_overhang (nI j) l I L) k)]) (h' := (n, sl, wKK kk, I, L, wQQ q)) 4 rfl ?_
      refine ev_ialN (k := k) rfl (rfl) (by omega) ?_
      refine ev_b (pc' := 25) (ls' := [some (.ref 7), some (.long l), none, some (.long (sL (fun j => (I 8 j).toInt64 * sp_st_overhang (nI j) l I L) k)), none, some (.int (nI k))]) (st' := [.long l, .int (nI k), .ref 7, .long ((I 8 k).toInt64), .long (sL (fun j => (I 8 j).toInt64 * sp_st_overhang (nI j) l I L) k)]) (h' := (n, sl, wKK kk, I, L, wQQ q)) 4 rfl ?_
      refine ev_cv [.int (nI k), .long l] [.long ((I 8 k).toInt64), .long (sL (fun j => (I 8 j).toInt64 * sp_st_overhang (nI j) l I L) k)] rfl rfl (by omega) rfl (Nat.le_of_ble_eq_true rfl) (Nat.le_of_ble_eq_true rfl) (Or.inr (Or.inr rfl)) (ev_st_overhang) ?_
      refine ev_b (pc' := 31) (ls' := [some (.ref 7), some (.long l), none, some (.long ((sL (fun j => (I 8 j).toInt64 * sp_st_overhang (nI j) l I L) k) + (((I 8 k).toInt64) * (sp_st_overhang (nI k) l I L)))), none, some (.int (nI k))]) (st' := []) (h' := (n, sl, wKK kk, I, L, wQQ q)) 3 rfl ?_
      refine ev_iincN (k := k) (ls' := [some (.ref 7), some (.long l), none, some (.long ((sL (fun j => (I 8 j).toInt64 * sp_st_overhang (nI j) l I L) k) + (((I 8 k).toInt64) * (sp_st_overhang (nI k) l I L)))), none, some (.int (nI (k + 1)))]) rfl rfl rfl ?_
      refine ev_b (pc' := 5) (ls' := [some (.ref 7), some (.long l), none, some (.long ((sL (fun j => (I 8 j).toInt64 * sp_st_overhang (nI j) l I L) k) + (((I 8 k).toInt64) * (sp_st_overhang (nI k) l I L)))), none, some (.int (nI (k + 1)))]) (st' := []) (h' := (n, sl, wKK kk, I, L, wQQ q)) 1 rfl ?_
      exact ih (k + 1) (by omega)
  show am_Ev _ _ 0 [some (.ref 7), some (.long l), none, none, none, none] _ _ _
  refine ev_b (pc' := 5) (ls' := [some (.ref 7), some (.long l), none, some (.long 0), none, some (.int 0)]) (st' := []) (h' := (n, sl, wKK kk, I, L, wQQ q)) 4 rfl ?_
  exact loop 8 0 (rfl)
def sp_d_totalOn (x : Int32) (I : Nat → Nat → Int32) (L : Nat → Nat → Int64) : Int64 := (sL (fun j => (I 8 j).toInt64) 8) + ((sp_d_leadOn x I L).toInt64)
theorem ev_d_totalOn {d : Nat} {n sl : Nat} {k : Nat → Nat × Nat} {I : Nat → Nat → Int32} {L : Nat → Nat → Int64} {q : Nat → Nat → Option Nat} {x : Int32} : am_Ev (d + 2) 33 0 (am_ent 2 [.ref 13, .int x]) [] (n, sl, wKK k, I, L, wQQ q) (some (.long (sp_d_totalOn x I L)), (n, sl, wKK k, I, L, wQQ q)) := by
  show am_Ev _ _ 0 [some (.ref 13), some (.int x)] _ _ (some (.long ((sL (fun j => (I 8 j).toInt64) 8) + ((sp_d_leadOn x I L).toInt64))), (n, sl, wKK k, I, L, wQQ q))
  refine ev_b (pc' := 4) (ls' := [some (.ref 13), some (.int x)]) (st' := [.ref 7]) (h' := (n, sl, wKK k, I, L, wQQ q)) 2 rfl ?_
  refine ev_cv [] [] rfl rfl (by omega) rfl (Nat.le_of_ble_eq_true rfl) (Nat.le_of_ble_eq_true rfl) (Or.inr (Or.inr rfl)) (ev_st_weight) ?_
  refine ev_b (pc' := 9) (ls' := [some (.ref 13), some (.int x)]) (st' := [.int x, .ref 13, .long (sL (fun j => (I 8 j).toInt64) 8)]) (h' := (n, sl, wKK k, I, L, wQQ q)) 2 rfl ?_
  refine ev_cv [.int x] [.long (sL (fun j => (I 8 j).toInt64) 8)] rfl rfl (by omega) rfl (Nat.le_of_ble_eq_true rfl) (Nat.le_of_ble_eq_true rfl) (Or.inr (Or.inr rfl)) (ev_d_leadOn) ?_
  refine ev_b (pc' := 14) (ls' := [some (.ref 13), some (.int x)]) (st' := [.long ((sL (fun j => (I 8 j).toInt64) 8) + ((sp_d_leadOn x I L).toInt64))]) (h' := (n, sl, wKK k, I, L, wQQ q)) 2 rfl ?_
  exact ev_rl rfl rfl rfl
def sp_d_momentOn (x : Int32) (l : Int32) (I : Nat → Nat → Int32) (L : Nat → Nat → Int64) : Int64 := (if (sp_isDay x) = 0 then (sL (fun j => (I 8 j).toInt64 * sp_st_overhang (nI j) l.toInt64 I L) 8) + 0 else (sL (fun j => (I 8 j).toInt64 * sp_st_overhang (nI j) l.toInt64 I L) 8) + (L 16 x.toNatClampNeg))
theorem ev_d_momentOn {d : Nat} {n sl : Nat} {k : Nat → Nat × Nat} {I : Nat → Nat → Int32} {L : Nat → Nat → Int64} {q : Nat → Nat → Option Nat} {x : Int32} {l : Int32} : am_Ev (d + 3) 34 0 (am_ent 3 [.ref 13, .int x, .int l]) [] (n, sl, wKK k, I, L, wQQ q) (some (.long (sp_d_momentOn x l I L)), (n, sl, wKK k, I, L, wQQ q)) := by
  show am_Ev _ _ 0 [some (.ref 13), some (.int x), some (.int l)] _ _ (some (.long (if (sp_isDay x) = 0 then (sL (fun j => (I 8 j).toInt64 * sp_st_overhang (nI j) l.toInt64 I L) 8) + 0 else (sL (fun j => (I 8 j).toInt64 * sp_st_overhang (nI j) l.toInt64 I L) 8) + (L 16 x.toNatClampNeg))), (n, sl, wKK k, I, L, wQQ q))
  refine ev_b (pc' := 6) (ls' := [some (.ref 13), some (.int x), some (.int l)]) (st' := [.long l.toInt64, .ref 7]) (h' := (n, sl, wKK k, I, L, wQQ q)) 4 rfl ?_
  refine ev_cv [.long l.toInt64] [] rfl rfl (by omega) rfl (Nat.le_of_ble_eq_true rfl) (Nat.le_of_ble_eq_true rfl) (Or.inr (Or.inr rfl)) (ev_st_momentAt) ?_
  refine ev_b (pc' := 10) (ls' := [some (.ref 13), some (.int x), some (.int l)]) (st' := [.int x, .long (sL (fun j => (I 8 j).toInt64 * sp_st_overhang (nI j) l.toInt64 I L) 8)]) (h' := (n, sl, wKK k, I, L, wQQ q)) 1 rfl ?_
  refine ev_cs [.int x] [.long (sL (fun j => (I 8 j).toInt64 * sp_st_overhang (nI j) l.toInt64 I L) 8)] rfl rfl (by omega) rfl (Nat.le_of_ble_eq_true rfl) (Nat.le_of_ble_eq_true rfl) (ev_isDay) ?_
  refine ev_b (pc' := (if (sp_isDay x) = 0 then 25 else 16)) (ls' := [some (.ref 13), some (.int x), some (.int l)]) (st' := [.long (sL (fun j => (I 8 j).toInt64 * sp_st_overhang (nI j) l.toInt64 I L) 8)]) (h' := (n, sl, wKK k, I, L, wQQ q)) 1 rfl ?_
  refine ev_ifJs (fun c13 => ?_) (fun c13 => ?_)
  · refine ev_b (pc' := 27) (ls' := [some (.ref 13), some (.int x), some (.int l)]) (st' := [.long ((sL (fun j => (I 8 j).toInt64 * sp_st_overhang (nI j) l.toInt64 I L) 8) + 0)]) (h' := (n, sl, wKK k, I, L, wQQ q)) 2 rfl ?_
    exact ev_rl rfl rfl rfl
  · refine ev_b (pc' := 21) (ls' := [some (.ref 13), some (.int x), some (.int l)]) (st' := [.int x, .ref 16, .long (sL (fun j => (I 8 j).toInt64 * sp_st_overhang (nI j) l.toInt64 I L) 8)]) (h' := (n, sl, wKK k, I, L, wQQ q)) 3 rfl ?_
    refine ev_lal rfl (rfl) (sp_isDay_in (by assumption)) ?_
    refine ev_b (pc' := 27) (ls' := [some (.ref 13), some (.int x), some (.int l)]) (st' := [.long ((sL (fun j => (I 8 j).toInt64 * sp_st_overhang (nI j) l.toInt64 I L) 8) + (L 16 x.toNatClampNeg))]) (h' := (n, sl, wKK k, I, L, wQQ q)) 2 rfl ?_
    exact ev_rl rfl rfl rfl
def sp_d_loadOf (c : Int32) (t : Int64) (m : Int64) (I : Nat → Nat → Int32) (L : Nat → Nat → Int64) : Int64 := sp_maxL 0 (sp_floorDivL ((t * 42500) + (m * ((sp_southOf c).toInt64))) 680000)
theorem ev_d_loadOf {d : Nat} {n sl : Nat} {k : Nat → Nat × Nat} {I : Nat → Nat → Int32} {L : Nat → Nat → Int64} {q : Nat → Nat → Option Nat} {c : Int32} {t : Int64} {m : Int64} : am_Ev (d + 1) 35 0 (am_ent 6 [.ref 13, .int c, .long t, .long m]) [] (n, sl, wKK k, I, L, wQQ q) (some (.long (sp_d_loadOf c t m I L)), (n, sl, wKK k, I, L, wQQ q)) := by
  show am_Ev _ _ 0 [some (.ref 13), some (.int c), some (.long t), none, some (.long m), none] _ _ (some (.long (sp_maxL 0 (sp_floorDivL ((t * 42500) + (m * ((sp_southOf c).toInt64))) 680000))), (n, sl, wKK k, I, L, wQQ q))
  refine ev_b (pc' := 9) (ls' := [some (.ref 13), some (.int c), some (.long t), none, some (.long m), none]) (st' := [.int c, .long m, .long (t * 42500), .long 0]) (h' := (n, sl, wKK k, I, L, wQQ q)) 6 rfl ?_
  refine ev_cs [.int c] [.long m, .long (t * 42500), .long 0] rfl rfl (by omega) rfl (Nat.le_of_ble_eq_true rfl) (Nat.le_of_ble_eq_true rfl) (ev_southOf) ?_
  refine ev_b (pc' := 18) (ls' := [some (.ref 13), some (.int c), some (.long t), none, some (.long m), none]) (st' := [.long 680000, .long ((t * 42500) + (m * ((sp_southOf c).toInt64))), .long 0]) (h' := (n, sl, wKK k, I, L, wQQ q)) 4 rfl ?_
  refine ev_cs [.long ((t * 42500) + (m * ((sp_southOf c).toInt64))), .long 680000] [.long 0] rfl rfl (by omega) rfl (Nat.le_of_ble_eq_true rfl) (Nat.le_of_ble_eq_true rfl) (ev_floorDivL (by decide)) ?_
  refine ev_cs [.long 0, .long (sp_floorDivL ((t * 42500) + (m * ((sp_southOf c).toInt64))) 680000)] [] rfl rfl (by omega) rfl (Nat.le_of_ble_eq_true rfl) (Nat.le_of_ble_eq_true rfl) (ev_maxL) ?_
  exact ev_rl rfl rfl rfl
def sp_d_settledAt (c : Int32) (x : Int32) (I : Nat → Nat → Int32) (L : Nat → Nat → Int64) : Int64 := (if (sp_isColumn c) = 0 then 0 else (if (sp_isWithin x.toInt64 0 400) = 0 then 0 else L (36 + c.toNatClampNeg) x.toNatClampNeg))
theorem ev_d_settledAt {d : Nat} {n sl : Nat} {k : Nat → Nat × Nat} {I : Nat → Nat → Int32} {L : Nat → Nat → Int64} {q : Nat → Nat → Option Nat} {c : Int32} {x : Int32} : am_Ev (d + 1) 32 0 (am_ent 3 [.ref 13, .int c, .int x]) [] (n, sl, wKK k, I, L, wQQ q) (some (.long (sp_d_settledAt c x I L)), (n, sl, wKK k, I, L, wQQ q)) := by
  show am_Ev _ _ 0 [some (.ref 13), some (.int c), some (.int x)] _ _ (some (.long (if (sp_isColumn c) = 0 then 0 else (if (sp_isWithin x.toInt64 0 400) = 0 then 0 else L (36 + c.toNatClampNeg) x.toNatClampNeg))), (n, sl, wKK k, I, L, wQQ q))
  refine ev_b (pc' := 1) (ls' := [some (.ref 13), some (.int c), some (.int x)]) (st' := [.int c]) (h' := (n, sl, wKK k, I, L, wQQ q)) 1 rfl ?_
  refine ev_cs [.int c] [] rfl rfl (by omega) rfl (Nat.le_of_ble_eq_true rfl) (Nat.le_of_ble_eq_true rfl) (ev_isColumn) ?_
  refine ev_b (pc' := (if (sp_isColumn c) = 0 then 30 else 7)) (ls' := [some (.ref 13), some (.int c), some (.int x)]) (st' := []) (h' := (n, sl, wKK k, I, L, wQQ q)) 1 rfl ?_
  refine ev_ifJs (fun c4 => ?_) (fun c4 => ?_)
  · refine ev_b (pc' := 31) (ls' := [some (.ref 13), some (.int c), some (.int x)]) (st' := [.long 0]) (h' := (n, sl, wKK k, I, L, wQQ q)) 1 rfl ?_
    exact ev_rl rfl rfl rfl
  · refine ev_b (pc' := 13) (ls' := [some (.ref 13), some (.int c), some (.int x)]) (st' := [.long 400, .long 0, .long x.toInt64]) (h' := (n, sl, wKK k, I, L, wQQ q)) 4 rfl ?_
    refine ev_cs [.long x.toInt64, .long 0, .long 400] [] rfl rfl (by omega) rfl (Nat.le_of_ble_eq_true rfl) (Nat.le_of_ble_eq_true rfl) (ev_isWithin) ?_
    refine ev_b (pc' := (if (sp_isWithin x.toInt64 0 400) = 0 then 30 else 19)) (ls' := [some (.ref 13), some (.int c), some (.int x)]) (st' := []) (h' := (n, sl, wKK k, I, L, wQQ q)) 1 rfl ?_
    refine ev_ifJs (fun c16 => ?_) (fun c16 => ?_)
    · refine ev_b (pc' := 31) (ls' := [some (.ref 13), some (.int c), some (.int x)]) (st' := [.long 0]) (h' := (n, sl, wKK k, I, L, wQQ q)) 1 rfl ?_
      exact ev_rl rfl rfl rfl
    · refine ev_b (pc' := 24) (ls' := [some (.ref 13), some (.int c), some (.int x)]) (st' := [.int c, .ref 35]) (h' := (n, sl, wKK k, I, L, wQQ q)) 3 rfl ?_
      refine ev_row35 rfl (sp_isColumn_in (by assumption)) ?_
      refine ev_b (pc' := 26) (ls' := [some (.ref 13), some (.int c), some (.int x)]) (st' := [.int x, .ref (36 + c.toNatClampNeg)]) (h' := (n, sl, wKK k, I, L, wQQ q)) 1 rfl ?_
      refine ev_lal rfl (wKK_36 (am_inlt (sp_isColumn_in (by assumption)))) (sp_isWithin_400 (by assumption)) ?_
      refine ev_b (pc' := 31) (ls' := [some (.ref 13), some (.int c), some (.int x)]) (st' := [.long (L (36 + c.toNatClampNeg) x.toNatClampNeg)]) (h' := (n, sl, wKK k, I, L, wQQ q)) 1 rfl ?_
      exact ev_rl rfl rfl rfl
theorem am_nz {x : Int32} (h0 : 1 ≤ x) (h1 : x ≤ 1000) : ¬ ((10 : Int32) * x).toInt64 = 0 := by
  intro e
  have e2 := congrArg Int64.toInt e
  rw [Int32.toInt_toInt64] at e2
  have a0 : 1 ≤ x.toInt := Int32.le_iff_toInt_le.mp h0
  have a1 : x.toInt ≤ 1000 := Int32.le_iff_toInt_le.mp h1
  rw [Int32.toInt_mul, Int.bmod_eq_of_le (by show _ ≤ 10 * x.toInt; omega) (by show 10 * x.toInt < _; omega)] at e2
  have e3 : 10 * x.toInt = 0 := e2
  omega
def sp_d_given (c : Int32) (x : Int32) (t : Int64) (m : Int64) (I : Nat → Nat → Int32) (L : Nat → Nat → Int64) : Int64 := (if (sp_isColumn c) = 0 then 0 else (if (sp_isDay x) = 0 then 0 else (if 1 ≤ (I 14 c.toNatClampNeg) then (((sp_d_loadOf c t m I L) * ((100 + (sp_wet_on x I L)).toInt64)) / ((10 * (I 14 c.toNatClampNeg)).toInt64)) + ((I (19 + c.toNatClampNeg) x.toNatClampNeg).toInt64) else 0)))
theorem ev_d_given {d : Nat} {n sl : Nat} {k : Nat → Nat × Nat} {I : Nat → Nat → Int32} {L : Nat → Nat → Int64} {q : Nat → Nat → Option Nat} {c : Int32} {x : Int32} {t : Int64} {m : Int64} (hs : ∀ j, I 14 j ≤ 1000) : am_Ev (d + 2) 39 0 (am_ent 9 [.ref 13, .int c, .int x, .long t, .long m]) [] (n, sl, wKK k, I, L, wQQ q) (some (.long (sp_d_given c x t m I L)), (n, sl, wKK k, I, L, wQQ q)) := by
  show am_Ev _ _ 0 [some (.ref 13), some (.int c), some (.int x), some (.long t), none, some (.long m), none, none, none] _ _ (some (.long (if (sp_isColumn c) = 0 then 0 else (if (sp_isDay x) = 0 then 0 else (if 1 ≤ (I 14 c.toNatClampNeg) then (((sp_d_loadOf c t m I L) * ((100 + (sp_wet_on x I L)).toInt64)) / ((10 * (I 14 c.toNatClampNeg)).toInt64)) + ((I (19 + c.toNatClampNeg) x.toNatClampNeg).toInt64) else 0)))), (n, sl, wKK k, I, L, wQQ q))
  refine ev_b (pc' := 1) (ls' := [some (.ref 13), some (.int c), some (.int x), some (.long t), none, some (.long m), none, none, none]) (st' := [.int c]) (h' := (n, sl, wKK k, I, L, wQQ q)) 1 rfl ?_
  refine ev_cs [.int c] [] rfl rfl (by omega) rfl (Nat.le_of_ble_eq_true rfl) (Nat.le_of_ble_eq_true rfl) (ev_isColumn) ?_
  refine ev_b (pc' := (if (sp_isColumn c) = 0 then 24 else 7)) (ls' := [some (.ref 13), some (.int c), some (.int x), some (.long t), none, some (.long m), none, none, none]) (st' := []) (h' := (n, sl, wKK k, I, L, wQQ q)) 1 rfl ?_
  refine ev_ifJs (fun c4 => ?_) (fun c4 => ?_)
  · refine ev_b (pc' := 25) (ls' := [some (.ref 13), some (.int c), some (.int x), some (.long t), none, some (.long m), none, none, none]) (st' := [.long 0]) (h' := (n, sl, wKK k, I, L, wQQ q)) 1 rfl ?_
    exact ev_rl rfl rfl rfl
  · refine ev_b (pc' := 8) (ls' := [some (.ref 13), some (.int c), some (.int x), some (.long t), none, some (.long m), none, none, none]) (st' := [.int x]) (h' := (n, sl, wKK k, I, L, wQQ q)) 1 rfl ?_
    refine ev_cs [.int x] [] rfl rfl (by omega) rfl (Nat.le_of_ble_eq_true rfl) (Nat.le_of_ble_eq_true rfl) (ev_isDay) ?_
    refine ev_b (pc' := (if (sp_isDay x) = 0 then 24 else 14)) (ls' := [some (.ref 13), some (.int c), some (.int x), some (.long t), none, some (.long m), none, none, none]) (st' := []) (h' := (n, sl, wKK k, I, L, wQQ q)) 1 rfl ?_
    refine ev_ifJs (fun c11 => ?_) (fun c11 => ?_)
    · refine ev_b (pc' := 25) (ls' := [some (.ref 13), some (.int c), some (.int x), some (.long t), none, some (.long m), none, none, none]) (st' := [.long 0]) (h' := (n, sl, wKK k, I, L, wQQ q)) 1 rfl ?_
      exact ev_rl rfl rfl rfl
    · refine ev_b (pc' := 19) (ls' := [some (.ref 13), some (.int c), some (.int x), some (.long t), none, some (.long m), none, none, none]) (st' := [.int c, .ref 14]) (h' := (n, sl, wKK k, I, L, wQQ q)) 3 rfl ?_
      refine ev_ial rfl (rfl) (sp_isColumn_in (by assumption)) ?_
      refine ev_b (pc' := (if 1 ≤ (I 14 c.toNatClampNeg) then 26 else 24)) (ls' := [some (.ref 13), some (.int c), some (.int x), some (.long t), none, some (.long m), none, none, none]) (st' := []) (h' := (n, sl, wKK k, I, L, wQQ q)) 2 rfl ?_
      refine ev_ifJs (fun c21 => ?_) (fun c21 => ?_)
      · refine ev_b (pc' := 31) (ls' := [some (.ref 13), some (.int c), some (.int x), some (.long t), none, some (.long m), none, none, none]) (st' := [.long m, .long t, .int c, .ref 13]) (h' := (n, sl, wKK k, I, L, wQQ q)) 4 rfl ?_
        refine ev_cv [.int c, .long t, .long m] [] rfl rfl (by omega) rfl (Nat.le_of_ble_eq_true rfl) (Nat.le_of_ble_eq_true rfl) (Or.inr (Or.inr rfl)) (ev_d_loadOf) ?_
        refine ev_b (pc' := 41) (ls' := [some (.ref 13), some (.int c), some (.int x), some (.long t), none, some (.long m), none, none, none]) (st' := [.int x, .ref 1, .int 100, .long (sp_d_loadOf c t m I L)]) (h' := (n, sl, wKK k, I, L, wQQ q)) 4 rfl ?_
        refine ev_cv [.int x] [.int 100, .long (sp_d_loadOf c t m I L)] rfl rfl (by omega) rfl (Nat.le_of_ble_eq_true rfl) (Nat.le_of_ble_eq_true rfl) (Or.inr (Or.inr rfl)) (ev_wet_on) ?_
        refine ev_b (pc' := 58) (ls' := [some (.ref 13), some (.int c), some (.int x), some (.long t), none, some (.long m), none, some (.long ((sp_d_loadOf c t m I L) * ((100 + (sp_wet_on x I L)).toInt64))), none]) (st' := [.int c, .ref 14, .int 10, .long ((sp_d_loadOf c t m I L) * ((100 + (sp_wet_on x I L)).toInt64))]) (h' := (n, sl, wKK k, I, L, wQQ q)) 9 rfl ?_
        refine ev_ial rfl (rfl) (sp_isColumn_in (by assumption)) ?_
        refine ev_b (pc' := 61) (ls' := [some (.ref 13), some (.int c), some (.int x), some (.long t), none, some (.long m), none, some (.long ((sp_d_loadOf c t m I L) * ((100 + (sp_wet_on x I L)).toInt64))), none]) (st' := [.long ((10 * (I 14 c.toNatClampNeg)).toInt64), .long ((sp_d_loadOf c t m I L) * ((100 + (sp_wet_on x I L)).toInt64))]) (h' := (n, sl, wKK k, I, L, wQQ q)) 2 rfl ?_
        refine ev_ldiv rfl (am_nz (by assumption) (hs _)) ?_
        refine ev_b (pc' := 67) (ls' := [some (.ref 13), some (.int c), some (.int x), some (.long t), none, some (.long m), none, some (.long ((sp_d_loadOf c t m I L) * ((100 + (sp_wet_on x I L)).toInt64))), none]) (st' := [.int c, .ref 18, .long (((sp_d_loadOf c t m I L) * ((100 + (sp_wet_on x I L)).toInt64)) / ((10 * (I 14 c.toNatClampNeg)).toInt64))]) (h' := (n, sl, wKK k, I, L, wQQ q)) 3 rfl ?_
        refine ev_row18 rfl (sp_isColumn_in (by assumption)) ?_
        refine ev_b (pc' := 69) (ls' := [some (.ref 13), some (.int c), some (.int x), some (.long t), none, some (.long m), none, some (.long ((sp_d_loadOf c t m I L) * ((100 + (sp_wet_on x I L)).toInt64))), none]) (st' := [.int x, .ref (19 + c.toNatClampNeg), .long (((sp_d_loadOf c t m I L) * ((100 + (sp_wet_on x I L)).toInt64)) / ((10 * (I 14 c.toNatClampNeg)).toInt64))]) (h' := (n, sl, wKK k, I, L, wQQ q)) 1 rfl ?_
        refine ev_ial rfl (wKK_19 (am_inlt (sp_isColumn_in (by assumption)))) (sp_isDay_in (by assumption)) ?_
        refine ev_b (pc' := 72) (ls' := [some (.ref 13), some (.int c), some (.int x), some (.long t), none, some (.long m), none, some (.long ((sp_d_loadOf c t m I L) * ((100 + (sp_wet_on x I L)).toInt64))), none]) (st' := [.long ((((sp_d_loadOf c t m I L) * ((100 + (sp_wet_on x I L)).toInt64)) / ((10 * (I 14 c.toNatClampNeg)).toInt64)) + ((I (19 + c.toNatClampNeg) x.toNatClampNeg).toInt64))]) (h' := (n, sl, wKK k, I, L, wQQ q)) 2 rfl ?_
        exact ev_rl rfl rfl rfl
      · refine ev_b (pc' := 25) (ls' := [some (.ref 13), some (.int c), some (.int x), some (.long t), none, some (.long m), none, none, none]) (st' := [.long 0]) (h' := (n, sl, wKK k, I, L, wQQ q)) 1 rfl ?_
        exact ev_rl rfl rfl rfl
theorem ev_d_sumAt {d : Nat} {n sl : Nat} {kk : Nat → Nat × Nat} {I : Nat → Nat → Int32} {L : Nat → Nat → Int64} {q : Nat → Nat → Option Nat} {x : Int32} : am_Ev (d + 2) 36 0 (am_ent 5 [.ref 13, .int x]) [] (n, sl, wKK kk, I, L, wQQ q) (some (.long (sL (fun j => (sp_southOf (nI j)).toInt64 * sp_d_settledAt (nI j) x I L) 16)), (n, sl, wKK kk, I, L, wQQ q)) := by
  have loop : ∀ m k : Nat, k + m = 16 → am_Ev (d + 2) 36 5 [some (.ref 13), some (.int x), some (.long (sL (fun j => (sp_southOf (nI j)).toInt64 * sp_d_settledAt (nI j) x I L) k)), none, some (.int (nI k))] [] (n, sl, wKK kk, I, L, wQQ q) (some (.long (sL (fun j => (sp_southOf (nI j)).toInt64 * sp_d_settledAt (nI j) x I L) 16)), (n, sl, wKK kk, I, L, wQQ q)) := by
    intro m
    induction m with
    | zero =>
      intro k hk
      obtain rfl : k = 16 := by omega
      refine ev_b (pc' := (if 16 ≤ (nI 16) then 35 else 12)) (ls' := [some (.ref 13), some (.int x), some (.long (sL (fun j => (sp_southOf (nI j)).toInt64 * sp_d_settledAt (nI j) x I L) 16)), none, some (.int (nI 16))]) (st' := []) (h' := (n, sl, wKK kk, I, L, wQQ q)) 3 rfl ?_
      refine ev_t (by decide) ?_
      refine ev_b (pc' := 36) (ls' := [some (.ref 13), some (.int x), some (.long (sL (fun j => (sp_southOf (nI j)).toInt64 * sp_d_settledAt (nI j) x I L) 16)), none, some (.int (nI 16))]) (st' := [.long (sL (fun j => (sp_southOf (nI j)).toInt64 * sp_d_settledAt (nI j) x I L) 16)]) (h' := (n, sl, wKK kk, I, L, wQQ q)) 1 rfl ?_
      exact ev_rl rfl (rfl) rfl
    | succ m ih =>
      intro k hk
      refine ev_b (pc' := (if 16 ≤ (nI k) then 35 else 12)) (ls' := [some (.ref 13), some (.int x), some (.long (sL (fun j => (sp_southOf (nI j)).toInt64 * sp_d_settledAt (nI j) x I L) k)), none, some (.int (nI k))]) (st' := []) (h' := (n, sl, wKK kk, I, L, wQQ q)) 3 rfl ?_
      refine ev_f (nI_ge (a := k) (b := 16) (by omega) (by omega)) ?_
      refine ev_b (pc' := 15) (ls' := [some (.ref 13), some (.int x), some (.long (sL (fun j => (sp_southOf (nI j)).toInt64 * sp_d_settledAt (nI j) x I L) k)), none, some (.int (nI k))]) (st' := [.int (nI k), .long (sL (fun j => (sp_southOf (nI j)).toInt64 * sp_d_settledAt (nI j) x I L) k)]) (h' := (n, sl, wKK kk, I, L, wQQ q)) 2 rfl ?_
      refine ev_cs [.int (nI k)] [.long (sL (fun j => (sp_southOf (nI j)).toInt64 * sp_d_settledAt (nI j) x I L) k)] rfl rfl (by omega) rfl (Nat.le_of_ble_eq_true rfl) (Nat.le_of_ble_eq_true rfl) (ev_southOf) ?_
      refine ev_b (pc' := 23) (ls' := [some (.ref 13), some (.int x), some (.long (sL (fun j => (sp_southOf (nI j)).toInt64 * sp_d_settledAt (nI j) x I L) k)), none, some (.int (nI k))]) (st' := [.int x, .int (nI k), .ref 13, .long ((sp_southOf (nI k)).toInt64), .long (sL (fun j => (sp_southOf (nI j)).toInt64 * sp_d_settledAt (nI j) x I L) k)]) (h' := (n, sl, wKK kk, I, L, wQQ q)) 4 rfl ?_
      refine ev_cv [.int (nI k), .int x] [.long ((sp_southOf (nI k)).toInt64), .long (sL (fun j => (sp_southOf (nI j)).toInt64 * sp_d_settledAt (nI j) x I L) k)] rfl rfl (by omega) rfl (Nat.le_of_ble_eq_true rfl) (Nat.le_of_ble_eq_true rfl) (Or.inr (Or.inr rfl)) (ev_d_settledAt) ?_
      refine ev_b (pc' := 29) (ls' := [some (.ref 13), some (.int x), some (.long ((sL (fun j => (sp_southOf (nI j)).toInt64 * sp_d_settledAt (nI j) x I L) k) + (((sp_southOf (nI k)).toInt64) * (sp_d_settledAt (nI k) x I L)))), none, some (.int (nI k))]) (st' := []) (h' := (n, sl, wKK kk, I, L, wQQ q)) 3 rfl ?_
      refine ev_iincN (k := k) (ls' := [some (.ref 13), some (.int x), some (.long ((sL (fun j => (sp_southOf (nI j)).toInt64 * sp_d_settledAt (nI j) x I L) k) + (((sp_southOf (nI k)).toInt64) * (sp_d_settledAt (nI k) x I L)))), none, some (.int (nI (k + 1)))]) rfl rfl rfl ?_
      refine ev_b (pc' := 5) (ls' := [some (.ref 13), some (.int x), some (.long ((sL (fun j => (sp_southOf (nI j)).toInt64 * sp_d_settledAt (nI j) x I L) k) + (((sp_southOf (nI k)).toInt64) * (sp_d_settledAt (nI k) x I L)))), none, some (.int (nI (k + 1)))]) (st' := []) (h' := (n, sl, wKK kk, I, L, wQQ q)) 1 rfl ?_
      exact ih (k + 1) (by omega)
  show am_Ev _ _ 0 [some (.ref 13), some (.int x), none, none, none] _ _ _
  refine ev_b (pc' := 5) (ls' := [some (.ref 13), some (.int x), some (.long 0), none, some (.int 0)]) (st' := []) (h' := (n, sl, wKK kk, I, L, wQQ q)) 4 rfl ?_
  exact loop 16 0 (rfl)
theorem ev_d_sumGrowth {d : Nat} {n sl : Nat} {kk : Nat → Nat × Nat} {I : Nat → Nat → Int32} {L : Nat → Nat → Int64} {q : Nat → Nat → Option Nat} {x : Int32} {l : Int32} (hs : ∀ j, I 14 j ≤ 1000) : am_Ev (d + 4) 37 0 (am_ent 10 [.ref 13, .int x, .int l]) [] (n, sl, wKK kk, I, L, wQQ q) (some (.long (sL (fun j => (sp_southOf (nI j)).toInt64 * sp_d_given (nI j) x (sp_d_totalOn x I L) (sp_d_momentOn x l I L) I L) 16)), (n, sl, wKK kk, I, L, wQQ q)) := by
  have loop : ∀ m k : Nat, k + m = 16 → am_Ev (d + 4) 37 20 [some (.ref 13), some (.int x), some (.int l), some (.long (sp_d_totalOn x I L)), none, some (.long (sp_d_momentOn x l I L)), none, some (.long (sL (fun j => (sp_southOf (nI j)).toInt64 * sp_d_given (nI j) x (sp_d_totalOn x I L) (sp_d_momentOn x l I L) I L) k)), none, some (.int (nI k))] [] (n, sl, wKK kk, I, L, wQQ q) (some (.long (sL (fun j => (sp_southOf (nI j)).toInt64 * sp_d_given (nI j) x (sp_d_totalOn x I L) (sp_d_momentOn x l I L) I L) 16)), (n, sl, wKK kk, I, L, wQQ q)) := by
    intro m
    induction m with
    | zero =>
      intro k hk
      obtain rfl : k = 16 := by omega
      refine ev_b (pc' := (if 16 ≤ (nI 16) then 55 else 27)) (ls' := [some (.ref 13), some (.int x), some (.int l), some (.long (sp_d_totalOn x I L)), none, some (.long (sp_d_momentOn x l I L)), none, some (.long (sL (fun j => (sp_southOf (nI j)).toInt64 * sp_d_given (nI j) x (sp_d_totalOn x I L) (sp_d_momentOn x l I L) I L) 16)), none, some (.int (nI 16))]) (st' := []) (h' := (n, sl, wKK kk, I, L, wQQ q)) 3 rfl ?_
      refine ev_t (by decide) ?_
      refine ev_b (pc' := 57) (ls' := [some (.ref 13), some (.int x), some (.int l), some (.long (sp_d_totalOn x I L)), none, some (.long (sp_d_momentOn x l I L)), none, some (.long (sL (fun j => (sp_southOf (nI j)).toInt64 * sp_d_given (nI j) x (sp_d_totalOn x I L) (sp_d_momentOn x l I L) I L) 16)), none, some (.int (nI 16))]) (st' := [.long (sL (fun j => (sp_southOf (nI j)).toInt64 * sp_d_given (nI j) x (sp_d_totalOn x I L) (sp_d_momentOn x l I L) I L) 16)]) (h' := (n, sl, wKK kk, I, L, wQQ q)) 1 rfl ?_
      exact ev_rl rfl (rfl) rfl
    | succ m ih =>
      intro k hk
      refine ev_b (pc' := (if 16 ≤ (nI k) then 55 else 27)) (ls' := [some (.ref 13), some (.int x), some (.int l), some (.long (sp_d_totalOn x I L)), none, some (.long (sp_d_momentOn x l I L)), none, some (.long (sL (fun j => (sp_southOf (nI j)).toInt64 * sp_d_given (nI j) x (sp_d_totalOn x I L) (sp_d_momentOn x l I L) I L) k)), none, some (.int (nI k))]) (st' := []) (h' := (n, sl, wKK kk, I, L, wQQ q)) 3 rfl ?_
      refine ev_f (nI_ge (a := k) (b := 16) (by omega) (by omega)) ?_
      refine ev_b (pc' := 31) (ls' := [some (.ref 13), some (.int x), some (.int l), some (.long (sp_d_totalOn x I L)), none, some (.long (sp_d_momentOn x l I L)), none, some (.long (sL (fun j => (sp_southOf (nI j)).toInt64 * sp_d_given (nI j) x (sp_d_totalOn x I L) (sp_d_momentOn x l I L) I L) k)), none, some (.int (nI k))]) (st' := [.int (nI k), .long (sL (fun j => (sp_southOf (nI j)).toInt64 * sp_d_given (nI j) x (sp_d_totalOn x I L) (sp_d_momentOn x l I L) I L) k)]) (h' := (n, sl, wKK kk, I, L, wQQ q)) 2 rfl ?_
      refine ev_cs [.int (nI k)] [.long (sL (fun j => (sp_southOf (nI j)).toInt64 * sp_d_given (nI j) x (sp_d_totalOn x I L) (sp_d_momentOn x l I L) I L) k)] rfl rfl (by omega) rfl (Nat.le_of_ble_eq_true rfl) (Nat.le_of_ble_eq_true rfl) (ev_southOf) ?_
      refine ev_b (pc' := 42) (ls' := [some (.ref 13), some (.int x), some (.int l), some (.long (sp_d_totalOn x I L)), none, some (.long (sp_d_momentOn x l I L)), none, some (.long (sL (fun j => (sp_southOf (nI j)).toInt64 * sp_d_given (nI j) x (sp_d_totalOn x I L) (sp_d_momentOn x l I L) I L) k)), none, some (.int (nI k))]) (st' := [.long (sp_d_momentOn x l I L), .long (sp_d_totalOn x I L), .int x, .int (nI k), .ref 13, .long ((sp_southOf (nI k)).toInt64), .long (sL (fun j => (sp_southOf (nI j)).toInt64 * sp_d_given (nI j) x (sp_d_totalOn x I L) (sp_d_momentOn x l I L) I L) k)]) (h' := (n, sl, wKK kk, I, L, wQQ q)) 6 rfl ?_
      refine ev_cv [.int (nI k), .int x, .long (sp_d_totalOn x I L), .long (sp_d_momentOn x l I L)] [.long ((sp_southOf (nI k)).toInt64), .long (sL (fun j => (sp_southOf (nI j)).toInt64 * sp_d_given (nI j) x (sp_d_totalOn x I L) (sp_d_momentOn x l I L) I L) k)] rfl rfl (by omega) rfl (Nat.le_of_ble_eq_true rfl) (Nat.le_of_ble_eq_true rfl) (Or.inr (Or.inr rfl)) (ev_d_given hs) ?_
      refine ev_b (pc' := 49) (ls' := [some (.ref 13), some (.int x), some (.int l), some (.long (sp_d_totalOn x I L)), none, some (.long (sp_d_momentOn x l I L)), none, some (.long ((sL (fun j => (sp_southOf (nI j)).toInt64 * sp_d_given (nI j) x (sp_d_totalOn x I L) (sp_d_momentOn x l I L) I L) k) + (((sp_southOf (nI k)).toInt64) * (sp_d_given (nI k) x (sp_d_totalOn x I L) (sp_d_momentOn x l I L) I L)))), none, some (.int (nI k))]) (st' := []) (h' := (n, sl, wKK kk, I, L, wQQ q)) 3 rfl ?_
      refine ev_iincN (k := k) (ls' := [some (.ref 13), some (.int x), some (.int l), some (.long (sp_d_totalOn x I L)), none, some (.long (sp_d_momentOn x l I L)), none, some (.long ((sL (fun j => (sp_southOf (nI j)).toInt64 * sp_d_given (nI j) x (sp_d_totalOn x I L) (sp_d_momentOn x l I L) I L) k) + (((sp_southOf (nI k)).toInt64) * (sp_d_given (nI k) x (sp_d_totalOn x I L) (sp_d_momentOn x l I L) I L)))), none, some (.int (nI (k + 1)))]) rfl rfl rfl ?_
      refine ev_b (pc' := 20) (ls' := [some (.ref 13), some (.int x), some (.int l), some (.long (sp_d_totalOn x I L)), none, some (.long (sp_d_momentOn x l I L)), none, some (.long ((sL (fun j => (sp_southOf (nI j)).toInt64 * sp_d_given (nI j) x (sp_d_totalOn x I L) (sp_d_momentOn x l I L) I L) k) + (((sp_southOf (nI k)).toInt64) * (sp_d_given (nI k) x (sp_d_totalOn x I L) (sp_d_momentOn x l I L) I L)))), none, some (.int (nI (k + 1)))]) (st' := []) (h' := (n, sl, wKK kk, I, L, wQQ q)) 1 rfl ?_
      exact ih (k + 1) (by omega)
  show am_Ev _ _ 0 [some (.ref 13), some (.int x), some (.int l), none, none, none, none, none, none, none] _ _ _
  refine ev_b (pc' := 2) (ls' := [some (.ref 13), some (.int x), some (.int l), none, none, none, none, none, none, none]) (st' := [.int x, .ref 13]) (h' := (n, sl, wKK kk, I, L, wQQ q)) 2 rfl ?_
  refine ev_cv [.int x] [] rfl rfl (by omega) rfl (Nat.le_of_ble_eq_true rfl) (Nat.le_of_ble_eq_true rfl) (Or.inr (Or.inr rfl)) (ev_d_totalOn) ?_
  refine ev_b (pc' := 9) (ls' := [some (.ref 13), some (.int x), some (.int l), some (.long (sp_d_totalOn x I L)), none, none, none, none, none, none]) (st' := [.int l, .int x, .ref 13]) (h' := (n, sl, wKK kk, I, L, wQQ q)) 4 rfl ?_
  refine ev_cv [.int x, .int l] [] rfl rfl (by omega) rfl (Nat.le_of_ble_eq_true rfl) (Nat.le_of_ble_eq_true rfl) (Or.inr (Or.inr rfl)) (ev_d_momentOn) ?_
  refine ev_b (pc' := 20) (ls' := [some (.ref 13), some (.int x), some (.int l), some (.long (sp_d_totalOn x I L)), none, some (.long (sp_d_momentOn x l I L)), none, some (.long 0), none, some (.int 0)]) (st' := []) (h' := (n, sl, wKK kk, I, L, wQQ q)) 5 rfl ?_
  exact loop 16 0 (rfl)
