/-! PARTS WITH ARRAYS -/
theorem am_ixr {x : Int32} {n : Nat} (h0 : ¬ x < 0) (h1 : ¬ nI n ≤ x) (hn : n < 2 ^ 31) : ¬ (x < 0 ∨ n ≤ x.toNatClampNeg) := by
  obtain ⟨j, hj, rfl⟩ := nI_of h0
  rintro (h | h)
  · exact h0 h
  · rw [nI_clamp hj] at h
    exact h1 (nI_le h hj)
theorem sp_isDay_in {x : Int32} (h : ¬ sp_isDay x = 0) : ¬ (x < 0 ∨ 400 ≤ x.toNatClampNeg) := by
  unfold sp_isDay at h
  by_cases h0 : x < 0
  · rw [if_pos h0] at h; exact absurd rfl h
  · rw [if_neg h0] at h
    by_cases h1 : (400 : Int32) ≤ x
    · rw [if_pos h1] at h; exact absurd rfl h
    · exact am_ixr h0 h1 (by omega)
theorem sp_isDay_out {x : Int32} (h : sp_isDay x = 0) : x < 0 ∨ (400 : Int32) ≤ x := by
  unfold sp_isDay at h
  by_cases h0 : x < 0
  · exact Or.inl h0
  · rw [if_neg h0] at h
    by_cases h1 : (400 : Int32) ≤ x
    · exact Or.inr h1
    · rw [if_neg h1] at h; exact absurd h (by decide)
theorem sp_isColumn_in {x : Int32} (h : ¬ sp_isColumn x = 0) : ¬ (x < 0 ∨ 16 ≤ x.toNatClampNeg) := by
  unfold sp_isColumn at h
  by_cases h0 : x < 0
  · rw [if_pos h0] at h; exact absurd rfl h
  · rw [if_neg h0] at h
    by_cases h1 : (16 : Int32) ≤ x
    · rw [if_pos h1] at h; exact absurd rfl h
    · exact am_ixr h0 h1 (by omega)
theorem sp_isColumn_out {x : Int32} (h : sp_isColumn x = 0) : x < 0 ∨ (16 : Int32) ≤ x := by
  unfold sp_isColumn at h
  by_cases h0 : x < 0
  · exact Or.inl h0
  · rw [if_neg h0] at h
    by_cases h1 : (16 : Int32) ≤ x
    · exact Or.inr h1
    · rw [if_neg h1] at h; exact absurd h (by decide)
theorem sp_isRing_in {x : Int32} (h : ¬ sp_isRing x = 0) : ¬ (x < 0 ∨ 8 ≤ x.toNatClampNeg) := by
  unfold sp_isRing at h
  by_cases h0 : x < 0
  · rw [if_pos h0] at h; exact absurd rfl h
  · rw [if_neg h0] at h
    by_cases h1 : (8 : Int32) ≤ x
    · rw [if_pos h1] at h; exact absurd rfl h
    · exact am_ixr h0 h1 (by omega)
theorem sp_isRing_out {x : Int32} (h : sp_isRing x = 0) : x < 0 ∨ (8 : Int32) ≤ x := by
  unfold sp_isRing at h
  by_cases h0 : x < 0
  · exact Or.inl h0
  · rw [if_neg h0] at h
    by_cases h1 : (8 : Int32) ≤ x
    · exact Or.inr h1
    · rw [if_neg h1] at h; exact absurd h (by decide)
theorem sp_isGauge_in {x : Int32} (h : ¬ sp_isGauge x = 0) : ¬ (x < 0 ∨ 4 ≤ x.toNatClampNeg) := by
  unfold sp_isGauge at h
  by_cases h0 : x < 0
  · rw [if_pos h0] at h; exact absurd rfl h
  · rw [if_neg h0] at h
    by_cases h1 : (4 : Int32) ≤ x
    · rw [if_pos h1] at h; exact absurd rfl h
    · exact am_ixr h0 h1 (by omega)
theorem sp_isGauge_out {x : Int32} (h : sp_isGauge x = 0) : x < 0 ∨ (4 : Int32) ≤ x := by
  unfold sp_isGauge at h
  by_cases h0 : x < 0
  · exact Or.inl h0
  · rw [if_neg h0] at h
    by_cases h1 : (4 : Int32) ≤ x
    · exact Or.inr h1
    · rw [if_neg h1] at h; exact absurd h (by decide)
def sp_floorDivL (a : Int64) (b : Int64) : Int64 := (if 0 ≤ (lg_cmp (a ^^^ b) 0) then a / b else (if (lg_cmp ((a / b) * b) a) = 0 then a / b else (a / b) - 1))
theorem ev_floorDivL {d : Nat} {h : am_H} {a : Int64} {b : Int64} (hb : ¬ b = 0) : am_Ev (d) 246 0 (am_ent 6 [.long a, .long b]) [] h (some (.long (sp_floorDivL a b)), h) := by
  show am_Ev _ _ 0 [some (.long a), none, some (.long b), none, none, none] _ _ (some (.long (if 0 ≤ (lg_cmp (a ^^^ b) 0) then a / b else (if (lg_cmp ((a / b) * b) a) = 0 then a / b else (a / b) - 1))), h)
  refine ev_b (pc' := 2) (ls' := [some (.long a), none, some (.long b), none, none, none]) (st' := [.long b, .long a]) (h' := h) 2 rfl ?_
  refine ev_ldiv rfl (hb) ?_
  refine ev_b (pc' := (if 0 ≤ (lg_cmp (a ^^^ b) 0) then 27 else 13)) (ls' := [some (.long a), none, some (.long b), none, some (.long (a / b)), none]) (st' := []) (h' := h) 7 rfl ?_
  refine ev_ifJs (fun c10 => ?_) (fun c10 => ?_)
  · refine ev_b (pc' := 29) (ls' := [some (.long a), none, some (.long b), none, some (.long (a / b)), none]) (st' := [.long (a / b)]) (h' := h) 1 rfl ?_
    exact ev_rl rfl rfl rfl
  · refine ev_b (pc' := (if (lg_cmp ((a / b) * b) a) = 0 then 27 else 22)) (ls' := [some (.long a), none, some (.long b), none, some (.long (a / b)), none]) (st' := []) (h' := h) 6 rfl ?_
    refine ev_ifJs (fun c19 => ?_) (fun c19 => ?_)
    · refine ev_b (pc' := 29) (ls' := [some (.long a), none, some (.long b), none, some (.long (a / b)), none]) (st' := [.long (a / b)]) (h' := h) 1 rfl ?_
      exact ev_rl rfl rfl rfl
    · refine ev_b (pc' := 26) (ls' := [some (.long a), none, some (.long b), none, some (.long (a / b)), none]) (st' := [.long ((a / b) - 1)]) (h' := h) 3 rfl ?_
      exact ev_rl rfl rfl rfl
def sp_m_over (a : Int64) (b : Int64) : Int64 := (if (lg_cmp b 0) = 0 then 0 else (if (lg_cmp (a - a / b * b) 0) = 0 then a / b else (if 0 ≤ (lg_cmp a 0) then (if 0 ≤ (lg_cmp b 0) then a / b else (a / b) - 1) else (if 0 ≤ (lg_cmp b 0) then (a / b) - 1 else a / b))))
theorem ev_m_over {d : Nat} {h : am_H} {a : Int64} {b : Int64} : am_Ev (d) 200 0 (am_ent 6 [.long a, .long b]) [] h (some (.long (sp_m_over a b)), h) := by
  show am_Ev _ _ 0 [some (.long a), none, some (.long b), none, none, none] _ _ (some (.long (if (lg_cmp b 0) = 0 then 0 else (if (lg_cmp (a - a / b * b) 0) = 0 then a / b else (if 0 ≤ (lg_cmp a 0) then (if 0 ≤ (lg_cmp b 0) then a / b else (a / b) - 1) else (if 0 ≤ (lg_cmp b 0) then (a / b) - 1 else a / b))))), h)
  refine ev_b (pc' := (if (lg_cmp b 0) = 0 then 6 else 8)) (ls' := [some (.long a), none, some (.long b), none, none, none]) (st' := []) (h' := h) 4 rfl ?_
  refine ev_ifJs (fun c3 => ?_) (fun c3 => ?_)
  · refine ev_b (pc' := 7) (ls' := [some (.long a), none, some (.long b), none, none, none]) (st' := [.long 0]) (h' := h) 1 rfl ?_
    exact ev_rl rfl rfl rfl
  · refine ev_b (pc' := 10) (ls' := [some (.long a), none, some (.long b), none, none, none]) (st' := [.long b, .long a]) (h' := h) 2 rfl ?_
    refine ev_ldiv rfl (fun q => c3 ((lg_cmp_eq _ _).mpr q)) ?_
    refine ev_b (pc' := 15) (ls' := [some (.long a), none, some (.long b), none, some (.long (a / b)), none]) (st' := [.long b, .long a]) (h' := h) 3 rfl ?_
    refine ev_lrem rfl (fun q => c3 ((lg_cmp_eq _ _).mpr q)) ?_
    refine ev_b (pc' := (if (lg_cmp (a - a / b * b) 0) = 0 then 53 else 21)) (ls' := [some (.long a), none, some (.long b), none, some (.long (a / b)), none]) (st' := []) (h' := h) 3 rfl ?_
    refine ev_ifJs (fun c18 => ?_) (fun c18 => ?_)
    · refine ev_b (pc' := 55) (ls' := [some (.long a), none, some (.long b), none, some (.long (a / b)), none]) (st' := [.long (a / b)]) (h' := h) 1 rfl ?_
      exact ev_rl rfl rfl rfl
    · refine ev_b (pc' := (if 0 ≤ (lg_cmp a 0) then 31 else 27)) (ls' := [some (.long a), none, some (.long b), none, some (.long (a / b)), none]) (st' := []) (h' := h) 4 rfl ?_
      refine ev_ifJs (fun c24 => ?_) (fun c24 => ?_)
      · refine ev_b (pc' := (if 0 ≤ (lg_cmp b 0) then 42 else 38)) (ls' := [some (.long a), none, some (.long b), none, some (.long (a / b)), none]) (st' := [.int 0]) (h' := h) 5 rfl ?_
        refine ev_ifJs (fun c35 => ?_) (fun c35 => ?_)
        · refine ev_b (pc' := 55) (ls' := [some (.long a), none, some (.long b), none, some (.long (a / b)), none]) (st' := [.long (a / b)]) (h' := h) 3 rfl ?_
          exact ev_rl rfl rfl rfl
        · refine ev_b (pc' := 55) (ls' := [some (.long a), none, some (.long b), none, some (.long (a / b)), none]) (st' := [.long ((a / b) - 1)]) (h' := h) 7 rfl ?_
          exact ev_rl rfl rfl rfl
      · refine ev_b (pc' := (if 0 ≤ (lg_cmp b 0) then 42 else 38)) (ls' := [some (.long a), none, some (.long b), none, some (.long (a / b)), none]) (st' := [.int 1]) (h' := h) 6 rfl ?_
        refine ev_ifJs (fun c35 => ?_) (fun c35 => ?_)
        · refine ev_b (pc' := 55) (ls' := [some (.long a), none, some (.long b), none, some (.long (a / b)), none]) (st' := [.long ((a / b) - 1)]) (h' := h) 6 rfl ?_
          exact ev_rl rfl rfl rfl
        · refine ev_b (pc' := 55) (ls' := [some (.long a), none, some (.long b), none, some (.long (a / b)), none]) (st' := [.long (a / b)]) (h' := h) 4 rfl ?_
          exact ev_rl rfl rfl rfl
def sp_wet_on (x : Int32) (I : Nat → Nat → Int32) (L : Nat → Nat → Int64) : Int32 := (if (sp_isDay x) = 0 then 0 else I 2 x.toNatClampNeg)
theorem ev_wet_on {d : Nat} {n sl : Nat} {k : Nat → Nat × Nat} {I : Nat → Nat → Int32} {L : Nat → Nat → Int64} {q : Nat → Nat → Option Nat} {x : Int32} : am_Ev (d + 1) 107 0 (am_ent 2 [.ref 1, .int x]) [] (n, sl, wKK k, I, L, wQQ q) (some (.int (sp_wet_on x I L)), (n, sl, wKK k, I, L, wQQ q)) := by
  show am_Ev _ _ 0 [some (.ref 1), some (.int x)] _ _ (some (.int (if (sp_isDay x) = 0 then 0 else I 2 x.toNatClampNeg)), (n, sl, wKK k, I, L, wQQ q))
  refine ev_b (pc' := 1) (ls' := [some (.ref 1), some (.int x)]) (st' := [.int x]) (h' := (n, sl, wKK k, I, L, wQQ q)) 1 rfl ?_
  refine ev_cs [.int x] [] rfl rfl (by omega) rfl (Nat.le_of_ble_eq_true rfl) (Nat.le_of_ble_eq_true rfl) (ev_isDay) ?_
  refine ev_b (pc' := (if (sp_isDay x) = 0 then 16 else 7)) (ls' := [some (.ref 1), some (.int x)]) (st' := []) (h' := (n, sl, wKK k, I, L, wQQ q)) 1 rfl ?_
  refine ev_ifIs (fun c4 => ?_) (fun c4 => ?_)
  · refine ev_b (pc' := 17) (ls' := [some (.ref 1), some (.int x)]) (st' := [.int 0]) (h' := (n, sl, wKK k, I, L, wQQ q)) 1 rfl ?_
    exact ev_ri rfl rfl rfl
  · refine ev_b (pc' := 12) (ls' := [some (.ref 1), some (.int x)]) (st' := [.int x, .ref 2]) (h' := (n, sl, wKK k, I, L, wQQ q)) 3 rfl ?_
    refine ev_ial rfl (rfl) (sp_isDay_in (by assumption)) ?_
    refine ev_b (pc' := 17) (ls' := [some (.ref 1), some (.int x)]) (st' := [.int (I 2 x.toNatClampNeg)]) (h' := (n, sl, wKK k, I, L, wQQ q)) 1 rfl ?_
    exact ev_ri rfl rfl rfl
def sp_warm_on (x : Int32) (I : Nat → Nat → Int32) (L : Nat → Nat → Int64) : Int32 := (if (sp_isDay x) = 0 then 0 else I 5 x.toNatClampNeg)
theorem ev_warm_on {d : Nat} {n sl : Nat} {k : Nat → Nat × Nat} {I : Nat → Nat → Int32} {L : Nat → Nat → Int64} {q : Nat → Nat → Option Nat} {x : Int32} : am_Ev (d + 1) 107 0 (am_ent 2 [.ref 4, .int x]) [] (n, sl, wKK k, I, L, wQQ q) (some (.int (sp_warm_on x I L)), (n, sl, wKK k, I, L, wQQ q)) := by
  show am_Ev _ _ 0 [some (.ref 4), some (.int x)] _ _ (some (.int (if (sp_isDay x) = 0 then 0 else I 5 x.toNatClampNeg)), (n, sl, wKK k, I, L, wQQ q))
  refine ev_b (pc' := 1) (ls' := [some (.ref 4), some (.int x)]) (st' := [.int x]) (h' := (n, sl, wKK k, I, L, wQQ q)) 1 rfl ?_
  refine ev_cs [.int x] [] rfl rfl (by omega) rfl (Nat.le_of_ble_eq_true rfl) (Nat.le_of_ble_eq_true rfl) (ev_isDay) ?_
  refine ev_b (pc' := (if (sp_isDay x) = 0 then 16 else 7)) (ls' := [some (.ref 4), some (.int x)]) (st' := []) (h' := (n, sl, wKK k, I, L, wQQ q)) 1 rfl ?_
  refine ev_ifIs (fun c4 => ?_) (fun c4 => ?_)
  · refine ev_b (pc' := 17) (ls' := [some (.ref 4), some (.int x)]) (st' := [.int 0]) (h' := (n, sl, wKK k, I, L, wQQ q)) 1 rfl ?_
    exact ev_ri rfl rfl rfl
  · refine ev_b (pc' := 12) (ls' := [some (.ref 4), some (.int x)]) (st' := [.int x, .ref 5]) (h' := (n, sl, wKK k, I, L, wQQ q)) 3 rfl ?_
    refine ev_ial rfl (rfl) (sp_isDay_in (by assumption)) ?_
    refine ev_b (pc' := 17) (ls' := [some (.ref 4), some (.int x)]) (st' := [.int (I 5 x.toNatClampNeg)]) (h' := (n, sl, wKK k, I, L, wQQ q)) 1 rfl ?_
    exact ev_ri rfl rfl rfl
def sI_st_lay (r : Int32) (t : Int32) (g : Int32) (c : Int32) (I : Nat → Nat → Int32) (L : Nat → Nat → Int64) : Nat → Nat → Int32 := (if (sp_isRing r) = 0 then I else (va_up (va_up (va_up I 8 (upd (I 8) r.toNatClampNeg t)) 9 (upd ((va_up I 8 (upd (I 8) r.toNatClampNeg t)) 9) r.toNatClampNeg g)) 10 (upd ((va_up (va_up I 8 (upd (I 8) r.toNatClampNeg t)) 9 (upd ((va_up I 8 (upd (I 8) r.toNatClampNeg t)) 9) r.toNatClampNeg g)) 10) r.toNatClampNeg c)))
def sL_st_lay (r : Int32) (t : Int32) (g : Int32) (c : Int32) (I : Nat → Nat → Int32) (L : Nat → Nat → Int64) : Nat → Nat → Int64 := (if (sp_isRing r) = 0 then L else L)
theorem ev_st_lay {d : Nat} {n sl : Nat} {k : Nat → Nat × Nat} {I : Nat → Nat → Int32} {L : Nat → Nat → Int64} {q : Nat → Nat → Option Nat} {r : Int32} {t : Int32} {g : Int32} {c : Int32} : am_Ev (d + 1) 99 0 (am_ent 5 [.ref 7, .int r, .int t, .int g, .int c]) [] (n, sl, wKK k, I, L, wQQ q) (none, (n, sl, wKK k, sI_st_lay r t g c I L, sL_st_lay r t g c I L, wQQ q)) := by
  show am_Ev _ _ 0 [some (.ref 7), some (.int r), some (.int t), some (.int g), some (.int c)] _ _ (none, (n, sl, wKK k, (if (sp_isRing r) = 0 then I else (va_up (va_up (va_up I 8 (upd (I 8) r.toNatClampNeg t)) 9 (upd ((va_up I 8 (upd (I 8) r.toNatClampNeg t)) 9) r.toNatClampNeg g)) 10 (upd ((va_up (va_up I 8 (upd (I 8) r.toNatClampNeg t)) 9 (upd ((va_up I 8 (upd (I 8) r.toNatClampNeg t)) 9) r.toNatClampNeg g)) 10) r.toNatClampNeg c))), (if (sp_isRing r) = 0 then L else L), wQQ q))
  refine ev_b (pc' := 1) (ls' := [some (.ref 7), some (.int r), some (.int t), some (.int g), some (.int c)]) (st' := [.int r]) (h' := (n, sl, wKK k, I, L, wQQ q)) 1 rfl ?_
  refine ev_cs [.int r] [] rfl rfl (by omega) rfl (Nat.le_of_ble_eq_true rfl) (Nat.le_of_ble_eq_true rfl) (ev_isRing) ?_
  refine ev_b (pc' := (if (sp_isRing r) = 0 then 29 else 7)) (ls' := [some (.ref 7), some (.int r), some (.int t), some (.int g), some (.int c)]) (st' := []) (h' := (n, sl, wKK k, I, L, wQQ q)) 1 rfl ?_
  refine ev_ifVw (fun c4 => ?_) (fun c4 => ?_)
  · exact ev_rv rfl rfl
  · refine ev_b (pc' := 13) (ls' := [some (.ref 7), some (.int r), some (.int t), some (.int g), some (.int c)]) (st' := [.int t, .int r, .ref 8]) (h' := (n, sl, wKK k, I, L, wQQ q)) 4 rfl ?_
    refine ev_ias rfl (rfl) (sp_isRing_in (by assumption)) ?_
    refine ev_b (pc' := 20) (ls' := [some (.ref 7), some (.int r), some (.int t), some (.int g), some (.int c)]) (st' := [.int g, .int r, .ref 9]) (h' := (n, sl, wKK k, va_up I 8 (upd (I 8) r.toNatClampNeg t), L, wQQ q)) 4 rfl ?_
    refine ev_ias rfl (rfl) (sp_isRing_in (by assumption)) ?_
    refine ev_b (pc' := 28) (ls' := [some (.ref 7), some (.int r), some (.int t), some (.int g), some (.int c)]) (st' := [.int c, .int r, .ref 10]) (h' := (n, sl, wKK k, va_up (va_up I 8 (upd (I 8) r.toNatClampNeg t)) 9 (upd ((va_up I 8 (upd (I 8) r.toNatClampNeg t)) 9) r.toNatClampNeg g), L, wQQ q)) 4 rfl ?_
    refine ev_ias rfl (rfl) (sp_isRing_in (by assumption)) ?_
    exact ev_rv rfl rfl
theorem sLe_st_lay (r : Int32) (t : Int32) (g : Int32) (c : Int32) (I : Nat → Nat → Int32) (L : Nat → Nat → Int64) : sL_st_lay r t g c I L = L := by
  unfold sL_st_lay
  try (repeat' split) <;> rfl
def sI_st_hew (r : Int32) (w : Int32) (e : Int32) (I : Nat → Nat → Int32) (L : Nat → Nat → Int64) : Nat → Nat → Int32 := (if (sp_isRing r) = 0 then I else (va_up (va_up I 11 (upd (I 11) r.toNatClampNeg w)) 12 (upd ((va_up I 11 (upd (I 11) r.toNatClampNeg w)) 12) r.toNatClampNeg e)))
def sL_st_hew (r : Int32) (w : Int32) (e : Int32) (I : Nat → Nat → Int32) (L : Nat → Nat → Int64) : Nat → Nat → Int64 := (if (sp_isRing r) = 0 then L else L)
theorem ev_st_hew {d : Nat} {n sl : Nat} {k : Nat → Nat × Nat} {I : Nat → Nat → Int32} {L : Nat → Nat → Int64} {q : Nat → Nat → Option Nat} {r : Int32} {w : Int32} {e : Int32} : am_Ev (d + 1) 100 0 (am_ent 4 [.ref 7, .int r, .int w, .int e]) [] (n, sl, wKK k, I, L, wQQ q) (none, (n, sl, wKK k, sI_st_hew r w e I L, sL_st_hew r w e I L, wQQ q)) := by
  show am_Ev _ _ 0 [some (.ref 7), some (.int r), some (.int w), some (.int e)] _ _ (none, (n, sl, wKK k, (if (sp_isRing r) = 0 then I else (va_up (va_up I 11 (upd (I 11) r.toNatClampNeg w)) 12 (upd ((va_up I 11 (upd (I 11) r.toNatClampNeg w)) 12) r.toNatClampNeg e))), (if (sp_isRing r) = 0 then L else L), wQQ q))
  refine ev_b (pc' := 1) (ls' := [some (.ref 7), some (.int r), some (.int w), some (.int e)]) (st' := [.int r]) (h' := (n, sl, wKK k, I, L, wQQ q)) 1 rfl ?_
  refine ev_cs [.int r] [] rfl rfl (by omega) rfl (Nat.le_of_ble_eq_true rfl) (Nat.le_of_ble_eq_true rfl) (ev_isRing) ?_
  refine ev_b (pc' := (if (sp_isRing r) = 0 then 21 else 7)) (ls' := [some (.ref 7), some (.int r), some (.int w), some (.int e)]) (st' := []) (h' := (n, sl, wKK k, I, L, wQQ q)) 1 rfl ?_
  refine ev_ifVw (fun c4 => ?_) (fun c4 => ?_)
  · exact ev_rv rfl rfl
  · refine ev_b (pc' := 13) (ls' := [some (.ref 7), some (.int r), some (.int w), some (.int e)]) (st' := [.int w, .int r, .ref 11]) (h' := (n, sl, wKK k, I, L, wQQ q)) 4 rfl ?_
    refine ev_ias rfl (rfl) (sp_isRing_in (by assumption)) ?_
    refine ev_b (pc' := 20) (ls' := [some (.ref 7), some (.int r), some (.int w), some (.int e)]) (st' := [.int e, .int r, .ref 12]) (h' := (n, sl, wKK k, va_up I 11 (upd (I 11) r.toNatClampNeg w), L, wQQ q)) 4 rfl ?_
    refine ev_ias rfl (rfl) (sp_isRing_in (by assumption)) ?_
    exact ev_rv rfl rfl
theorem sLe_st_hew (r : Int32) (w : Int32) (e : Int32) (I : Nat → Nat → Int32) (L : Nat → Nat → Int64) : sL_st_hew r w e I L = L := by
  unfold sL_st_hew
  try (repeat' split) <;> rfl
def sp_st_overhang (r : Int32) (l : Int64) (I : Nat → Nat → Int32) (L : Nat → Nat → Int64) : Int64 := (if (sp_isRing r) = 0 then 0 else ((I 10 r.toNatClampNeg).toInt64) + (sp_floorDivL (((I 9 r.toNatClampNeg).toInt64) * l) 1000000))
theorem ev_st_overhang {d : Nat} {n sl : Nat} {k : Nat → Nat × Nat} {I : Nat → Nat → Int32} {L : Nat → Nat → Int64} {q : Nat → Nat → Option Nat} {r : Int32} {l : Int64} : am_Ev (d + 1) 104 0 (am_ent 4 [.ref 7, .int r, .long l]) [] (n, sl, wKK k, I, L, wQQ q) (some (.long (sp_st_overhang r l I L)), (n, sl, wKK k, I, L, wQQ q)) := by
  show am_Ev _ _ 0 [some (.ref 7), some (.int r), some (.long l), none] _ _ (some (.long (if (sp_isRing r) = 0 then 0 else ((I 10 r.toNatClampNeg).toInt64) + (sp_floorDivL (((I 9 r.toNatClampNeg).toInt64) * l) 1000000))), (n, sl, wKK k, I, L, wQQ q))
  refine ev_b (pc' := 1) (ls' := [some (.ref 7), some (.int r), some (.long l), none]) (st' := [.int r]) (h' := (n, sl, wKK k, I, L, wQQ q)) 1 rfl ?_
  refine ev_cs [.int r] [] rfl rfl (by omega) rfl (Nat.le_of_ble_eq_true rfl) (Nat.le_of_ble_eq_true rfl) (ev_isRing) ?_
  refine ev_b (pc' := (if (sp_isRing r) = 0 then 33 else 7)) (ls' := [some (.ref 7), some (.int r), some (.long l), none]) (st' := []) (h' := (n, sl, wKK k, I, L, wQQ q)) 1 rfl ?_
  refine ev_ifJs (fun c4 => ?_) (fun c4 => ?_)
  · refine ev_b (pc' := 34) (ls' := [some (.ref 7), some (.int r), some (.long l), none]) (st' := [.long 0]) (h' := (n, sl, wKK k, I, L, wQQ q)) 1 rfl ?_
    exact ev_rl rfl rfl rfl
  · refine ev_b (pc' := 12) (ls' := [some (.ref 7), some (.int r), some (.long l), none]) (st' := [.int r, .ref 10]) (h' := (n, sl, wKK k, I, L, wQQ q)) 3 rfl ?_
    refine ev_ial rfl (rfl) (sp_isRing_in (by assumption)) ?_
    refine ev_b (pc' := 19) (ls' := [some (.ref 7), some (.int r), some (.long l), none]) (st' := [.int r, .ref 9, .long ((I 10 r.toNatClampNeg).toInt64)]) (h' := (n, sl, wKK k, I, L, wQQ q)) 4 rfl ?_
    refine ev_ial rfl (rfl) (sp_isRing_in (by assumption)) ?_
    refine ev_b (pc' := 26) (ls' := [some (.ref 7), some (.int r), some (.long l), none]) (st' := [.long 1000000, .long (((I 9 r.toNatClampNeg).toInt64) * l), .long ((I 10 r.toNatClampNeg).toInt64)]) (h' := (n, sl, wKK k, I, L, wQQ q)) 4 rfl ?_
    refine ev_cs [.long (((I 9 r.toNatClampNeg).toInt64) * l), .long 1000000] [.long ((I 10 r.toNatClampNeg).toInt64)] rfl rfl (by omega) rfl (Nat.le_of_ble_eq_true rfl) (Nat.le_of_ble_eq_true rfl) (ev_floorDivL (by decide)) ?_
    refine ev_b (pc' := 34) (ls' := [some (.ref 7), some (.int r), some (.long l), none]) (st' := [.long (((I 10 r.toNatClampNeg).toInt64) + (sp_floorDivL (((I 9 r.toNatClampNeg).toInt64) * l) 1000000))]) (h' := (n, sl, wKK k, I, L, wQQ q)) 2 rfl ?_
    exact ev_rl rfl rfl rfl
def sI_g_set (g : Int32) (s : Int32) (r : Int32) (e : Int32) (I : Nat → Nat → Int32) (L : Nat → Nat → Int64) : Nat → Nat → Int32 := (if (sp_isGauge g) = 0 then I else (va_up (va_up (va_up I 65 (upd (I 65) g.toNatClampNeg s)) 66 (upd ((va_up I 65 (upd (I 65) g.toNatClampNeg s)) 66) g.toNatClampNeg r)) 67 (upd ((va_up (va_up I 65 (upd (I 65) g.toNatClampNeg s)) 66 (upd ((va_up I 65 (upd (I 65) g.toNatClampNeg s)) 66) g.toNatClampNeg r)) 67) g.toNatClampNeg e)))
def sL_g_set (g : Int32) (s : Int32) (r : Int32) (e : Int32) (I : Nat → Nat → Int32) (L : Nat → Nat → Int64) : Nat → Nat → Int64 := (if (sp_isGauge g) = 0 then L else L)
theorem ev_g_set {d : Nat} {n sl : Nat} {k : Nat → Nat × Nat} {I : Nat → Nat → Int32} {L : Nat → Nat → Int64} {q : Nat → Nat → Option Nat} {g : Int32} {s : Int32} {r : Int32} {e : Int32} : am_Ev (d + 1) 41 0 (am_ent 5 [.ref 64, .int g, .int s, .int r, .int e]) [] (n, sl, wKK k, I, L, wQQ q) (none, (n, sl, wKK k, sI_g_set g s r e I L, sL_g_set g s r e I L, wQQ q)) := by
  show am_Ev _ _ 0 [some (.ref 64), some (.int g), some (.int s), some (.int r), some (.int e)] _ _ (none, (n, sl, wKK k, (if (sp_isGauge g) = 0 then I else (va_up (va_up (va_up I 65 (upd (I 65) g.toNatClampNeg s)) 66 (upd ((va_up I 65 (upd (I 65) g.toNatClampNeg s)) 66) g.toNatClampNeg r)) 67 (upd ((va_up (va_up I 65 (upd (I 65) g.toNatClampNeg s)) 66 (upd ((va_up I 65 (upd (I 65) g.toNatClampNeg s)) 66) g.toNatClampNeg r)) 67) g.toNatClampNeg e))), (if (sp_isGauge g) = 0 then L else L), wQQ q))
  refine ev_b (pc' := 1) (ls' := [some (.ref 64), some (.int g), some (.int s), some (.int r), some (.int e)]) (st' := [.int g]) (h' := (n, sl, wKK k, I, L, wQQ q)) 1 rfl ?_
  refine ev_cs [.int g] [] rfl rfl (by omega) rfl (Nat.le_of_ble_eq_true rfl) (Nat.le_of_ble_eq_true rfl) (ev_isGauge) ?_
  refine ev_b (pc' := (if (sp_isGauge g) = 0 then 29 else 7)) (ls' := [some (.ref 64), some (.int g), some (.int s), some (.int r), some (.int e)]) (st' := []) (h' := (n, sl, wKK k, I, L, wQQ q)) 1 rfl ?_
  refine ev_ifVw (fun c4 => ?_) (fun c4 => ?_)
  · exact ev_rv rfl rfl
  · refine ev_b (pc' := 13) (ls' := [some (.ref 64), some (.int g), some (.int s), some (.int r), some (.int e)]) (st' := [.int s, .int g, .ref 65]) (h' := (n, sl, wKK k, I, L, wQQ q)) 4 rfl ?_
    refine ev_ias rfl (rfl) (sp_isGauge_in (by assumption)) ?_
    refine ev_b (pc' := 20) (ls' := [some (.ref 64), some (.int g), some (.int s), some (.int r), some (.int e)]) (st' := [.int r, .int g, .ref 66]) (h' := (n, sl, wKK k, va_up I 65 (upd (I 65) g.toNatClampNeg s), L, wQQ q)) 4 rfl ?_
    refine ev_ias rfl (rfl) (sp_isGauge_in (by assumption)) ?_
    refine ev_b (pc' := 28) (ls' := [some (.ref 64), some (.int g), some (.int s), some (.int r), some (.int e)]) (st' := [.int e, .int g, .ref 67]) (h' := (n, sl, wKK k, va_up (va_up I 65 (upd (I 65) g.toNatClampNeg s)) 66 (upd ((va_up I 65 (upd (I 65) g.toNatClampNeg s)) 66) g.toNatClampNeg r), L, wQQ q)) 4 rfl ?_
    refine ev_ias rfl (rfl) (sp_isGauge_in (by assumption)) ?_
    exact ev_rv rfl rfl
theorem sLe_g_set (g : Int32) (s : Int32) (r : Int32) (e : Int32) (I : Nat → Nat → Int32) (L : Nat → Nat → Int64) : sL_g_set g s r e I L = L := by
  unfold sL_g_set
  try (repeat' split) <;> rfl
def sp_leanOf (s : Int64) : Int32 := (sp_maxL (-1000000000) (sp_minL 1000000000 (sp_floorDivL (1000 * s) 1360))).toInt32
theorem ev_leanOf {d : Nat} {h : am_H} {s : Int64} : am_Ev (d + 1) 153 0 (am_ent 2 [.long s]) [] h (some (.int (sp_leanOf s)), h) := by
  show am_Ev _ _ 0 [some (.long s), none] _ _ (some (.int ((sp_maxL (-1000000000) (sp_minL 1000000000 (sp_floorDivL (1000 * s) 1360))).toInt32)), h)
  refine ev_b (pc' := 14) (ls' := [some (.long s), none]) (st' := [.long 1360, .long (1000 * s), .long 1000000000, .long (-1000000000)]) (h' := h) 6 rfl ?_
  refine ev_cs [.long (1000 * s), .long 1360] [.long 1000000000, .long (-1000000000)] rfl rfl (by omega) rfl (Nat.le_of_ble_eq_true rfl) (Nat.le_of_ble_eq_true rfl) (ev_floorDivL (by decide)) ?_
  refine ev_cs [.long 1000000000, .long (sp_floorDivL (1000 * s) 1360)] [.long (-1000000000)] rfl rfl (by omega) rfl (Nat.le_of_ble_eq_true rfl) (Nat.le_of_ble_eq_true rfl) (ev_minL) ?_
  refine ev_cs [.long (-1000000000), .long (sp_minL 1000000000 (sp_floorDivL (1000 * s) 1360))] [] rfl rfl (by omega) rfl (Nat.le_of_ble_eq_true rfl) (Nat.le_of_ble_eq_true rfl) (ev_maxL) ?_
  refine ev_b (pc' := 24) (ls' := [some (.long s), none]) (st' := [.int ((sp_maxL (-1000000000) (sp_minL 1000000000 (sp_floorDivL (1000 * s) 1360))).toInt32)]) (h' := h) 1 rfl ?_
  exact ev_ri rfl rfl rfl
def sI_d_stiffen (c : Int32) (e : Int32) (I : Nat → Nat → Int32) (L : Nat → Nat → Int64) : Nat → Nat → Int32 := (if (sp_isColumn c) = 0 then I else (sI_d_spoil 0 (va_up I 14 (upd (I 14) c.toNatClampNeg e)) L))
def sL_d_stiffen (c : Int32) (e : Int32) (I : Nat → Nat → Int32) (L : Nat → Nat → Int64) : Nat → Nat → Int64 := (if (sp_isColumn c) = 0 then L else (sL_d_spoil 0 (va_up I 14 (upd (I 14) c.toNatClampNeg e)) L))
theorem ev_d_stiffen {d : Nat} {n sl : Nat} {k : Nat → Nat × Nat} {I : Nat → Nat → Int32} {L : Nat → Nat → Int64} {q : Nat → Nat → Option Nat} {c : Int32} {e : Int32} : am_Ev (d + 2) 24 0 (am_ent 3 [.ref 13, .int c, .int e]) [] (n, sl, wKK k, I, L, wQQ q) (none, (n, sl, wKK k, sI_d_stiffen c e I L, sL_d_stiffen c e I L, wQQ q)) := by
  show am_Ev _ _ 0 [some (.ref 13), some (.int c), some (.int e)] _ _ (none, (n, sl, wKK k, (if (sp_isColumn c) = 0 then I else (sI_d_spoil 0 (va_up I 14 (upd (I 14) c.toNatClampNeg e)) L)), (if (sp_isColumn c) = 0 then L else (sL_d_spoil 0 (va_up I 14 (upd (I 14) c.toNatClampNeg e)) L)), wQQ q))
  refine ev_b (pc' := 1) (ls' := [some (.ref 13), some (.int c), some (.int e)]) (st' := [.int c]) (h' := (n, sl, wKK k, I, L, wQQ q)) 1 rfl ?_
  refine ev_cs [.int c] [] rfl rfl (by omega) rfl (Nat.le_of_ble_eq_true rfl) (Nat.le_of_ble_eq_true rfl) (ev_isColumn) ?_
  refine ev_b (pc' := (if (sp_isColumn c) = 0 then 19 else 7)) (ls' := [some (.ref 13), some (.int c), some (.int e)]) (st' := []) (h' := (n, sl, wKK k, I, L, wQQ q)) 1 rfl ?_
  refine ev_ifVw (fun c4 => ?_) (fun c4 => ?_)
  · exact ev_rv rfl rfl
  · refine ev_b (pc' := 13) (ls' := [some (.ref 13), some (.int c), some (.int e)]) (st' := [.int e, .int c, .ref 14]) (h' := (n, sl, wKK k, I, L, wQQ q)) 4 rfl ?_
    refine ev_ias rfl (rfl) (sp_isColumn_in (by assumption)) ?_
    refine ev_b (pc' := 16) (ls' := [some (.ref 13), some (.int c), some (.int e)]) (st' := [.int 0, .ref 13]) (h' := (n, sl, wKK k, va_up I 14 (upd (I 14) c.toNatClampNeg e), L, wQQ q)) 2 rfl ?_
    refine ev_cv [.int 0] [] rfl rfl (by omega) rfl (Nat.le_of_ble_eq_true rfl) (Nat.le_of_ble_eq_true rfl) (Or.inr (Or.inr rfl)) (ev_d_spoil) ?_
    exact ev_rv rfl rfl
def sp_d_leadOn (x : Int32) (I : Nat → Nat → Int32) (L : Nat → Nat → Int64) : Int32 := (if (sp_isDay x) = 0 then 0 else I 15 x.toNatClampNeg)
theorem ev_d_leadOn {d : Nat} {n sl : Nat} {k : Nat → Nat × Nat} {I : Nat → Nat → Int32} {L : Nat → Nat → Int64} {q : Nat → Nat → Option Nat} {x : Int32} : am_Ev (d + 1) 31 0 (am_ent 2 [.ref 13, .int x]) [] (n, sl, wKK k, I, L, wQQ q) (some (.int (sp_d_leadOn x I L)), (n, sl, wKK k, I, L, wQQ q)) := by
  show am_Ev _ _ 0 [some (.ref 13), some (.int x)] _ _ (some (.int (if (sp_isDay x) = 0 then 0 else I 15 x.toNatClampNeg)), (n, sl, wKK k, I, L, wQQ q))
  refine ev_b (pc' := 1) (ls' := [some (.ref 13), some (.int x)]) (st' := [.int x]) (h' := (n, sl, wKK k, I, L, wQQ q)) 1 rfl ?_
  refine ev_cs [.int x] [] rfl rfl (by omega) rfl (Nat.le_of_ble_eq_true rfl) (Nat.le_of_ble_eq_true rfl) (ev_isDay) ?_
  refine ev_b (pc' := (if (sp_isDay x) = 0 then 16 else 7)) (ls' := [some (.ref 13), some (.int x)]) (st' := []) (h' := (n, sl, wKK k, I, L, wQQ q)) 1 rfl ?_
  refine ev_ifIs (fun c4 => ?_) (fun c4 => ?_)
  · refine ev_b (pc' := 17) (ls' := [some (.ref 13), some (.int x)]) (st' := [.int 0]) (h' := (n, sl, wKK k, I, L, wQQ q)) 1 rfl ?_
    exact ev_ri rfl rfl rfl
  · refine ev_b (pc' := 12) (ls' := [some (.ref 13), some (.int x)]) (st' := [.int x, .ref 15]) (h' := (n, sl, wKK k, I, L, wQQ q)) 3 rfl ?_
    refine ev_ial rfl (rfl) (sp_isDay_in (by assumption)) ?_
    refine ev_b (pc' := 17) (ls' := [some (.ref 13), some (.int x)]) (st' := [.int (I 15 x.toNatClampNeg)]) (h' := (n, sl, wKK k, I, L, wQQ q)) 1 rfl ?_
    exact ev_ri rfl rfl rfl
theorem sp_isWithin_400 {x : Int32} (h : ¬ sp_isWithin x.toInt64 0 400 = 0) : ¬ (x < 0 ∨ 401 ≤ x.toNatClampNeg) := by
  have h0 : ¬ lg_cmp x.toInt64 0 < 0 := fun q => h (by unfold sp_isWithin; rw [if_pos q])
  have h1 : ¬ 0 < lg_cmp x.toInt64 400 := fun q => h (by unfold sp_isWithin; rw [if_neg h0, if_pos q])
  rw [lg_cmp_lt] at h0
  rw [lg_cmp_gt] at h1
  have e : ∀ y : Int32, y.toInt64.toInt = y.toInt := fun y => Int32.toInt_toInt64 y
  rw [Int64.lt_iff_toInt_lt, e] at h0 h1
  refine am_ixr (fun q => h0 ?_) (fun q => h1 ?_) (by omega)
  · exact Int32.lt_iff_toInt_lt.mp q
  · have q2 := Int32.le_iff_toInt_le.mp q
    rw [nI_toInt (by omega)] at q2
    show (400 : Int) < x.toInt
    omega
def sp_d_leanAt (x : Int32) (I : Nat → Nat → Int32) (L : Nat → Nat → Int64) : Int32 := (if (sp_isWithin x.toInt64 0 400) = 0 then 0 else I 52 x.toNatClampNeg)
theorem ev_d_leanAt {d : Nat} {n sl : Nat} {k : Nat → Nat × Nat} {I : Nat → Nat → Int32} {L : Nat → Nat → Int64} {q : Nat → Nat → Option Nat} {x : Int32} : am_Ev (d + 1) 28 0 (am_ent 2 [.ref 13, .int x]) [] (n, sl, wKK k, I, L, wQQ q) (some (.int (sp_d_leanAt x I L)), (n, sl, wKK k, I, L, wQQ q)) := by
  show am_Ev _ _ 0 [some (.ref 13), some (.int x)] _ _ (some (.int (if (sp_isWithin x.toInt64 0 400) = 0 then 0 else I 52 x.toNatClampNeg)), (n, sl, wKK k, I, L, wQQ q))
  refine ev_b (pc' := 6) (ls' := [some (.ref 13), some (.int x)]) (st' := [.long 400, .long 0, .long x.toInt64]) (h' := (n, sl, wKK k, I, L, wQQ q)) 4 rfl ?_
  refine ev_cs [.long x.toInt64, .long 0, .long 400] [] rfl rfl (by omega) rfl (Nat.le_of_ble_eq_true rfl) (Nat.le_of_ble_eq_true rfl) (ev_isWithin) ?_
  refine ev_b (pc' := (if (sp_isWithin x.toInt64 0 400) = 0 then 21 else 12)) (ls' := [some (.ref 13), some (.int x)]) (st' := []) (h' := (n, sl, wKK k, I, L, wQQ q)) 1 rfl ?_
  refine ev_ifIs (fun c9 => ?_) (fun c9 => ?_)
  · refine ev_b (pc' := 22) (ls' := [some (.ref 13), some (.int x)]) (st' := [.int 0]) (h' := (n, sl, wKK k, I, L, wQQ q)) 1 rfl ?_
    exact ev_ri rfl rfl rfl
  · refine ev_b (pc' := 17) (ls' := [some (.ref 13), some (.int x)]) (st' := [.int x, .ref 52]) (h' := (n, sl, wKK k, I, L, wQQ q)) 3 rfl ?_
    refine ev_ial rfl (rfl) (sp_isWithin_400 (by assumption)) ?_
    refine ev_b (pc' := 22) (ls' := [some (.ref 13), some (.int x)]) (st' := [.int (I 52 x.toNatClampNeg)]) (h' := (n, sl, wKK k, I, L, wQQ q)) 1 rfl ?_
    exact ev_ri rfl rfl rfl
def sp_d_worstAt (x : Int32) (I : Nat → Nat → Int32) (L : Nat → Nat → Int64) : Int32 := (if (sp_isWithin x.toInt64 0 400) = 0 then 0 else I 53 x.toNatClampNeg)
theorem ev_d_worstAt {d : Nat} {n sl : Nat} {k : Nat → Nat × Nat} {I : Nat → Nat → Int32} {L : Nat → Nat → Int64} {q : Nat → Nat → Option Nat} {x : Int32} : am_Ev (d + 1) 29 0 (am_ent 2 [.ref 13, .int x]) [] (n, sl, wKK k, I, L, wQQ q) (some (.int (sp_d_worstAt x I L)), (n, sl, wKK k, I, L, wQQ q)) := by
  show am_Ev _ _ 0 [some (.ref 13), some (.int x)] _ _ (some (.int (if (sp_isWithin x.toInt64 0 400) = 0 then 0 else I 53 x.toNatClampNeg)), (n, sl, wKK k, I, L, wQQ q))
  refine ev_b (pc' := 6) (ls' := [some (.ref 13), some (.int x)]) (st' := [.long 400, .long 0, .long x.toInt64]) (h' := (n, sl, wKK k, I, L, wQQ q)) 4 rfl ?_
  refine ev_cs [.long x.toInt64, .long 0, .long 400] [] rfl rfl (by omega) rfl (Nat.le_of_ble_eq_true rfl) (Nat.le_of_ble_eq_true rfl) (ev_isWithin) ?_
  refine ev_b (pc' := (if (sp_isWithin x.toInt64 0 400) = 0 then 21 else 12)) (ls' := [some (.ref 13), some (.int x)]) (st' := []) (h' := (n, sl, wKK k, I, L, wQQ q)) 1 rfl ?_
  refine ev_ifIs (fun c9 => ?_) (fun c9 => ?_)
  · refine ev_b (pc' := 22) (ls' := [some (.ref 13), some (.int x)]) (st' := [.int 0]) (h' := (n, sl, wKK k, I, L, wQQ q)) 1 rfl ?_
    exact ev_ri rfl rfl rfl
  · refine ev_b (pc' := 17) (ls' := [some (.ref 13), some (.int x)]) (st' := [.int x, .ref 53]) (h' := (n, sl, wKK k, I, L, wQQ q)) 3 rfl ?_
    refine ev_ial rfl (rfl) (sp_isWithin_400 (by assumption)) ?_
    refine ev_b (pc' := 22) (ls' := [some (.ref 13), some (.int x)]) (st' := [.int (I 53 x.toNatClampNeg)]) (h' := (n, sl, wKK k, I, L, wQQ q)) 1 rfl ?_
    exact ev_ri rfl rfl rfl
def sp_d_drawnAt (x : Int32) (I : Nat → Nat → Int32) (L : Nat → Nat → Int64) : Int32 := (if (sp_isWithin x.toInt64 0 400) = 0 then 0 else I 54 x.toNatClampNeg)
theorem ev_d_drawnAt {d : Nat} {n sl : Nat} {k : Nat → Nat × Nat} {I : Nat → Nat → Int32} {L : Nat → Nat → Int64} {q : Nat → Nat → Option Nat} {x : Int32} : am_Ev (d + 1) 30 0 (am_ent 2 [.ref 13, .int x]) [] (n, sl, wKK k, I, L, wQQ q) (some (.int (sp_d_drawnAt x I L)), (n, sl, wKK k, I, L, wQQ q)) := by
  show am_Ev _ _ 0 [some (.ref 13), some (.int x)] _ _ (some (.int (if (sp_isWithin x.toInt64 0 400) = 0 then 0 else I 54 x.toNatClampNeg)), (n, sl, wKK k, I, L, wQQ q))
  refine ev_b (pc' := 6) (ls' := [some (.ref 13), some (.int x)]) (st' := [.long 400, .long 0, .long x.toInt64]) (h' := (n, sl, wKK k, I, L, wQQ q)) 4 rfl ?_
  refine ev_cs [.long x.toInt64, .long 0, .long 400] [] rfl rfl (by omega) rfl (Nat.le_of_ble_eq_true rfl) (Nat.le_of_ble_eq_true rfl) (ev_isWithin) ?_
  refine ev_b (pc' := (if (sp_isWithin x.toInt64 0 400) = 0 then 21 else 12)) (ls' := [some (.ref 13), some (.int x)]) (st' := []) (h' := (n, sl, wKK k, I, L, wQQ q)) 1 rfl ?_
  refine ev_ifIs (fun c9 => ?_) (fun c9 => ?_)
  · refine ev_b (pc' := 22) (ls' := [some (.ref 13), some (.int x)]) (st' := [.int 0]) (h' := (n, sl, wKK k, I, L, wQQ q)) 1 rfl ?_
    exact ev_ri rfl rfl rfl
  · refine ev_b (pc' := 17) (ls' := [some (.ref 13), some (.int x)]) (st' := [.int x, .ref 54]) (h' := (n, sl, wKK k, I, L, wQQ q)) 3 rfl ?_
    refine ev_ial rfl (rfl) (sp_isWithin_400 (by assumption)) ?_
    refine ev_b (pc' := 22) (ls' := [some (.ref 13), some (.int x)]) (st' := [.int (I 54 x.toNatClampNeg)]) (h' := (n, sl, wKK k, I, L, wQQ q)) 1 rfl ?_
    exact ev_ri rfl rfl rfl
def sp_m_overhang (r : Int32) (l : Int64) (I : Nat → Nat → Int32) (L : Nat → Nat → Int64) : Int64 := ((I 97 r.toNatClampNeg).toInt64) + (sp_m_over (((I 96 r.toNatClampNeg).toInt64) * l) 1000000)
theorem ev_m_overhang {d : Nat} {n sl : Nat} {k : Nat → Nat × Nat} {I : Nat → Nat → Int32} {L : Nat → Nat → Int64} {q : Nat → Nat → Option Nat} {r : Int32} {l : Int64} (hr : ¬ (r < 0 ∨ 8 ≤ r.toNatClampNeg)) : am_Ev (d + 1) 202 0 (am_ent 4 [.ref 80, .int r, .long l]) [] (n, sl, wKK k, I, L, wQQ q) (some (.long (sp_m_overhang r l I L)), (n, sl, wKK k, I, L, wQQ q)) := by
  show am_Ev _ _ 0 [some (.ref 80), some (.int r), some (.long l), none] _ _ (some (.long (((I 97 r.toNatClampNeg).toInt64) + (sp_m_over (((I 96 r.toNatClampNeg).toInt64) * l) 1000000))), (n, sl, wKK k, I, L, wQQ q))
  refine ev_b (pc' := 5) (ls' := [some (.ref 80), some (.int r), some (.long l), none]) (st' := [.int r, .ref 97]) (h' := (n, sl, wKK k, I, L, wQQ q)) 3 rfl ?_
  refine ev_ial rfl (rfl) (hr) ?_
  refine ev_b (pc' := 12) (ls' := [some (.ref 80), some (.int r), some (.long l), none]) (st' := [.int r, .ref 96, .long ((I 97 r.toNatClampNeg).toInt64)]) (h' := (n, sl, wKK k, I, L, wQQ q)) 4 rfl ?_
  refine ev_ial rfl (rfl) (hr) ?_
  refine ev_b (pc' := 19) (ls' := [some (.ref 80), some (.int r), some (.long l), none]) (st' := [.long 1000000, .long (((I 96 r.toNatClampNeg).toInt64) * l), .long ((I 97 r.toNatClampNeg).toInt64)]) (h' := (n, sl, wKK k, I, L, wQQ q)) 4 rfl ?_
  refine ev_cs [.long (((I 96 r.toNatClampNeg).toInt64) * l), .long 1000000] [.long ((I 97 r.toNatClampNeg).toInt64)] rfl rfl (by omega) rfl (Nat.le_of_ble_eq_true rfl) (Nat.le_of_ble_eq_true rfl) (ev_m_over) ?_
  refine ev_b (pc' := 23) (ls' := [some (.ref 80), some (.int r), some (.long l), none]) (st' := [.long (((I 97 r.toNatClampNeg).toInt64) + (sp_m_over (((I 96 r.toNatClampNeg).toInt64) * l) 1000000))]) (h' := (n, sl, wKK k, I, L, wQQ q)) 1 rfl ?_
  exact ev_rl rfl rfl rfl
