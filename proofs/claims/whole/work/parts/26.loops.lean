/-! LOOPS AS TRANSFORMERS: the reference's sums and days -/
theorem nI_mul (a b : Nat) : nI a * nI b = nI (a * b) := by
  apply Int32.toBitVec_inj.mp
  show BitVec.ofNat 32 a * BitVec.ofNat 32 b = BitVec.ofNat 32 (a * b)
  rw [← BitVec.ofNat_mul]
theorem ev_top {d mi pc : Nat} {ls : am_L} {st : List Value} {h : am_H} {r : Option Value × am_H} {x y : Int32} (e : x = y) (k1 : am_Ev d mi pc ls (.int y :: st) h r) : am_Ev d mi pc ls (.int x :: st) h r := by
  rw [e]
  exact k1
def bd_m_leanOf (D : Nat) (u : Int64) (k : Nat) (I : Nat → Nat → Int32) (L : Nat → Nat → Int64) : Int64 := ((u + (((2 * ((nI k).toInt64)) - 15) * (L 113 ((16 * D) + k)))))
def it_m_leanOf (D : Nat) (u : Int64) (I : Nat → Nat → Int32) (L : Nat → Nat → Int64) : Nat → Int64
  | 0 => (u)
  | k + 1 => bd_m_leanOf D (it_m_leanOf D u I L k) k I L
theorem sg_m_leanOf {d n sl : Nat} {kk : Nat → Nat × Nat} {q : Nat → Nat → Option Nat} {r : Option Value × am_H} (D : Nat) (u : Int64) {k : Nat} (I : Nat → Nat → Int32) (L : Nat → Nat → Int64) (hD : D ≤ 400) (hk : k < 16) (h9 : am_Ev (d) 201 5 [some (.ref 80), some (.int (nI D)), some (.long (bd_m_leanOf D u k I L)), none, some (.int (nI (k + 1))), none] [] (n, sl, wKK kk, I, L, wQQ q) r) : am_Ev (d) 201 5 [some (.ref 80), some (.int (nI D)), some (.long u), none, some (.int (nI k)), none] [] (n, sl, wKK kk, I, L, wQQ q) r := by
  have h8 : am_Ev (d) 201 5 [some (.ref 80), some (.int (nI D)), some (.long (u + (((2 * ((nI k).toInt64)) - 15) * (L 113 ((16 * D) + k))))), none, some (.int (nI (k + 1))), none] [] (n, sl, wKK kk, I, L, wQQ q) r := h9
  refine ev_b (pc' := (if 16 ≤ (nI k) then 45 else 12)) (ls' := [some (.ref 80), some (.int (nI D)), some (.long u), none, some (.int (nI k)), none]) (st' := []) (h' := (n, sl, wKK kk, I, L, wQQ q)) 3 rfl ?_
  refine ev_f (nI_ge (a := k) (b := 16) (by omega) (by omega)) ?_
  refine ev_b (pc' := 31) (ls' := [some (.ref 80), some (.int (nI D)), some (.long u), none, some (.int (nI k)), none]) (st' := [.int (nI D), .int 16, .ref 113, .long ((2 * ((nI k).toInt64)) - 15), .long u]) (h' := (n, sl, wKK kk, I, L, wQQ q)) 11 rfl ?_
  refine ev_b (pc' := 32) (ls' := [some (.ref 80), some (.int (nI D)), some (.long u), none, some (.int (nI k)), none]) (st' := [.int (16 * (nI D)), .ref 113, .long ((2 * ((nI k).toInt64)) - 15), .long u]) (h' := (n, sl, wKK kk, I, L, wQQ q)) 1 rfl ?_
  refine ev_top (show 16 * (nI D) = nI (16 * D) from nI_mul 16 D) ?_
  refine ev_b (pc' := 34) (ls' := [some (.ref 80), some (.int (nI D)), some (.long u), none, some (.int (nI k)), none]) (st' := [.int (nI k), .int (nI (16 * D)), .ref 113, .long ((2 * ((nI k).toInt64)) - 15), .long u]) (h' := (n, sl, wKK kk, I, L, wQQ q)) 1 rfl ?_
  refine ev_b (pc' := 35) (ls' := [some (.ref 80), some (.int (nI D)), some (.long u), none, some (.int (nI k)), none]) (st' := [.int ((nI (16 * D)) + (nI k)), .ref 113, .long ((2 * ((nI k).toInt64)) - 15), .long u]) (h' := (n, sl, wKK kk, I, L, wQQ q)) 1 rfl ?_
  refine ev_top (show (nI (16 * D)) + (nI k) = nI ((16 * D) + k) from nI_add (16 * D) k) ?_
  refine ev_lalN (k := ((16 * D) + k)) rfl (rfl) (by omega) ?_
  refine ev_b (pc' := 39) (ls' := [some (.ref 80), some (.int (nI D)), some (.long (u + (((2 * ((nI k).toInt64)) - 15) * (L 113 ((16 * D) + k))))), none, some (.int (nI k)), none]) (st' := []) (h' := (n, sl, wKK kk, I, L, wQQ q)) 3 rfl ?_
  refine ev_iincN (k := k) (ls' := [some (.ref 80), some (.int (nI D)), some (.long (u + (((2 * ((nI k).toInt64)) - 15) * (L 113 ((16 * D) + k))))), none, some (.int (nI (k + 1))), none]) rfl rfl rfl ?_
  refine ev_b (pc' := 5) (ls' := [some (.ref 80), some (.int (nI D)), some (.long (u + (((2 * ((nI k).toInt64)) - 15) * (L 113 ((16 * D) + k))))), none, some (.int (nI (k + 1))), none]) (st' := []) (h' := (n, sl, wKK kk, I, L, wQQ q)) 1 rfl ?_
  exact h8
theorem lp_m_leanOf {d n sl : Nat} {kk : Nat → Nat × Nat} {q : Nat → Nat → Option Nat} {r : Option Value × am_H} (D : Nat) (u : Int64) (I : Nat → Nat → Int32) (L : Nat → Nat → Int64) (hD : D ≤ 400) (h9 : am_Ev (d) 201 45 [some (.ref 80), some (.int (nI D)), some (.long (it_m_leanOf D u I L 16)), none, some (.int (nI 16)), none] [] (n, sl, wKK kk, I, L, wQQ q) r) : am_Ev (d) 201 5 [some (.ref 80), some (.int (nI D)), some (.long u), none, some (.int 0), none] [] (n, sl, wKK kk, I, L, wQQ q) r := by
  have loop : ∀ zz k : Nat, k + zz = 16 → am_Ev (d) 201 5 [some (.ref 80), some (.int (nI D)), some (.long (it_m_leanOf D u I L k)), none, some (.int (nI k)), none] [] (n, sl, wKK kk, I, L, wQQ q) r := by
    intro zz
    induction zz with
    | zero =>
      intro k hk
      have hk9 : k = 16 := by omega
      rw [hk9]
      refine ev_b (pc' := (if 16 ≤ (nI 16) then 45 else 12)) (ls' := [some (.ref 80), some (.int (nI D)), some (.long (it_m_leanOf D u I L 16)), none, some (.int (nI 16)), none]) (st' := []) (h' := (n, sl, wKK kk, I, L, wQQ q)) 3 rfl ?_
      refine ev_t (by decide) ?_
      exact h9
    | succ zz ih =>
      intro k hk
      exact sg_m_leanOf D _ _ _ hD (by omega) (ih (k + 1) (by omega))
  exact loop 16 0 (by omega)
def sp_m_leanOf (D : Nat) (I : Nat → Nat → Int32) (L : Nat → Nat → Int64) : Int64 := (if (lg_cmp (sp_m_over (1000 * (it_m_leanOf D 0 I L 16)) 1360) 1000000000) ≤ 0 then (if 0 ≤ (lg_cmp (sp_m_over (1000 * (it_m_leanOf D 0 I L 16)) 1360) (-1000000000)) then sp_m_over (1000 * (it_m_leanOf D 0 I L 16)) 1360 else (-1000000000)) else 1000000000)
theorem ev_m_leanOf {d : Nat} {n sl : Nat} {k : Nat → Nat × Nat} {I : Nat → Nat → Int32} {L : Nat → Nat → Int64} {q : Nat → Nat → Option Nat} {D : Nat} (hD : D ≤ 400) : am_Ev (d + 1) 201 0 (am_ent 6 [.ref 80, .int (nI D)]) [] (n, sl, wKK k, I, L, wQQ q) (some (.long (sp_m_leanOf D I L)), (n, sl, wKK k, I, L, wQQ q)) := by
  show am_Ev _ _ 0 [some (.ref 80), some (.int (nI D)), none, none, none, none] _ _ (some (.long (if (lg_cmp (sp_m_over (1000 * (it_m_leanOf D 0 I L 16)) 1360) 1000000000) ≤ 0 then (if 0 ≤ (lg_cmp (sp_m_over (1000 * (it_m_leanOf D 0 I L 16)) 1360) (-1000000000)) then sp_m_over (1000 * (it_m_leanOf D 0 I L 16)) 1360 else (-1000000000)) else 1000000000)), (n, sl, wKK k, I, L, wQQ q))
  refine ev_b (pc' := 5) (ls' := [some (.ref 80), some (.int (nI D)), some (.long 0), none, some (.int 0), none]) (st' := []) (h' := (n, sl, wKK k, I, L, wQQ q)) 4 rfl ?_
  refine lp_m_leanOf D 0 I L hD (?_)
  refine ev_b (pc' := 53) (ls' := [some (.ref 80), some (.int (nI D)), some (.long (it_m_leanOf D 0 I L 16)), none, some (.int (nI 16)), none]) (st' := [.long 1360, .long (1000 * (it_m_leanOf D 0 I L 16))]) (h' := (n, sl, wKK k, I, L, wQQ q)) 4 rfl ?_
  refine ev_cs [.long (1000 * (it_m_leanOf D 0 I L 16)), .long 1360] [] rfl rfl (by omega) rfl (Nat.le_of_ble_eq_true rfl) (Nat.le_of_ble_eq_true rfl) (ev_m_over) ?_
  refine ev_b (pc' := (if (lg_cmp (sp_m_over (1000 * (it_m_leanOf D 0 I L 16)) 1360) 1000000000) ≤ 0 then 73 else 67)) (ls' := [some (.ref 80), some (.int (nI D)), some (.long (it_m_leanOf D 0 I L 16)), none, some (.long (sp_m_over (1000 * (it_m_leanOf D 0 I L 16)) 1360)), none]) (st' := []) (h' := (n, sl, wKK k, I, L, wQQ q)) 5 rfl ?_
  refine ev_ifJs (fun c64 => ?_) (fun c64 => ?_)
  · refine ev_b (pc' := (if 0 ≤ (lg_cmp (sp_m_over (1000 * (it_m_leanOf D 0 I L 16)) 1360) (-1000000000)) then 88 else 82)) (ls' := [some (.ref 80), some (.int (nI D)), some (.long (it_m_leanOf D 0 I L 16)), none, some (.long (sp_m_over (1000 * (it_m_leanOf D 0 I L 16)) 1360)), none]) (st' := []) (h' := (n, sl, wKK k, I, L, wQQ q)) 4 rfl ?_
    refine ev_ifJs (fun c79 => ?_) (fun c79 => ?_)
    · refine ev_b (pc' := 90) (ls' := [some (.ref 80), some (.int (nI D)), some (.long (it_m_leanOf D 0 I L 16)), none, some (.long (sp_m_over (1000 * (it_m_leanOf D 0 I L 16)) 1360)), none]) (st' := [.long (sp_m_over (1000 * (it_m_leanOf D 0 I L 16)) 1360)]) (h' := (n, sl, wKK k, I, L, wQQ q)) 1 rfl ?_
      exact ev_rl rfl rfl rfl
    · refine ev_b (pc' := 90) (ls' := [some (.ref 80), some (.int (nI D)), some (.long (it_m_leanOf D 0 I L 16)), none, some (.long (sp_m_over (1000 * (it_m_leanOf D 0 I L 16)) 1360)), none]) (st' := [.long (-1000000000)]) (h' := (n, sl, wKK k, I, L, wQQ q)) 2 rfl ?_
      exact ev_rl rfl rfl rfl
  · refine ev_b (pc' := 90) (ls' := [some (.ref 80), some (.int (nI D)), some (.long (it_m_leanOf D 0 I L 16)), none, some (.long (sp_m_over (1000 * (it_m_leanOf D 0 I L 16)) 1360)), none]) (st' := [.long 1000000000]) (h' := (n, sl, wKK k, I, L, wQQ q)) 2 rfl ?_
    exact ev_rl rfl rfl rfl
def bd_m_weighs (D : Nat) (l : Int64) (k : Nat) (I : Nat → Nat → Int32) (L : Nat → Nat → Int64) : (Nat → Nat → Int64) := ((va_up (va_up L 80 (vp_updL (L 80) 57 ((L 80 57) + ((I 95 k).toInt64)))) 80 (vp_updL ((va_up L 80 (vp_updL (L 80) 57 ((L 80 57) + ((I 95 k).toInt64)))) 80) 58 ((L 80 58) + (((I 95 k).toInt64) * (sp_m_overhang (nI k) l I (va_up L 80 (vp_updL (L 80) 57 ((L 80 57) + ((I 95 k).toInt64))))))))))
def it_m_weighs (D : Nat) (l : Int64) (I : Nat → Nat → Int32) (L : Nat → Nat → Int64) : Nat → (Nat → Nat → Int64)
  | 0 => (L)
  | k + 1 => bd_m_weighs D l k I (it_m_weighs D l I L k)
theorem sg_m_weighs {d n sl : Nat} {kk : Nat → Nat × Nat} {q : Nat → Nat → Option Nat} {r : Option Value × am_H} (D : Nat) (l : Int64) {k : Nat} (I : Nat → Nat → Int32) (L : Nat → Nat → Int64)  (hk : k < 8) (h9 : am_Ev (d + 2) 204 23 [some (.ref 80), some (.int (nI D)), some (.long l), none, some (.int (nI (k + 1)))] [] (n, sl, wKK kk, I, (bd_m_weighs D l k I L), wQQ q) r) : am_Ev (d + 2) 204 23 [some (.ref 80), some (.int (nI D)), some (.long l), none, some (.int (nI k))] [] (n, sl, wKK kk, I, L, wQQ q) r := by
  have h8 : am_Ev (d + 2) 204 23 [some (.ref 80), some (.int (nI D)), some (.long l), none, some (.int (nI (k + 1)))] [] (n, sl, wKK kk, I, (va_up (va_up L 80 (vp_updL (L 80) 57 ((L 80 57) + ((I 95 k).toInt64)))) 80 (vp_updL ((va_up L 80 (vp_updL (L 80) 57 ((L 80 57) + ((I 95 k).toInt64)))) 80) 58 ((L 80 58) + (((I 95 k).toInt64) * (sp_m_overhang (nI k) l I (va_up L 80 (vp_updL (L 80) 57 ((L 80 57) + ((I 95 k).toInt64))))))))), wQQ q) r := h9
  refine ev_b (pc' := (if 8 ≤ (nI k) then 78 else 30)) (ls' := [some (.ref 80), some (.int (nI D)), some (.long l), none, some (.int (nI k))]) (st' := []) (h' := (n, sl, wKK kk, I, L, wQQ q)) 3 rfl ?_
  refine ev_f (nI_ge (a := k) (b := 8) (by omega) (by omega)) ?_
  refine ev_b (pc' := 41) (ls' := [some (.ref 80), some (.int (nI D)), some (.long l), none, some (.int (nI k))]) (st' := [.int (nI k), .ref 95, .long (L 80 57), .ref 80]) (h' := (n, sl, wKK kk, I, L, wQQ q)) 6 rfl ?_
  refine ev_ialN (k := k) rfl (rfl) (by omega) ?_
  refine ev_b (pc' := 58) (ls' := [some (.ref 80), some (.int (nI D)), some (.long l), none, some (.int (nI k))]) (st' := [.int (nI k), .ref 95, .long (L 80 58), .ref 80]) (h' := (n, sl, wKK kk, I, va_up L 80 (vp_updL (L 80) 57 ((L 80 57) + ((I 95 k).toInt64))), wQQ q)) 9 rfl ?_
  refine ev_ialN (k := k) rfl (rfl) (by omega) ?_
  refine ev_b (pc' := 64) (ls' := [some (.ref 80), some (.int (nI D)), some (.long l), none, some (.int (nI k))]) (st' := [.long l, .int (nI k), .ref 80, .long ((I 95 k).toInt64), .long (L 80 58), .ref 80]) (h' := (n, sl, wKK kk, I, va_up L 80 (vp_updL (L 80) 57 ((L 80 57) + ((I 95 k).toInt64))), wQQ q)) 4 rfl ?_
  refine ev_cv [.int (nI k), .long l] [.long ((I 95 k).toInt64), .long (L 80 58), .ref 80] rfl rfl (by omega) rfl (Nat.le_of_ble_eq_true rfl) (Nat.le_of_ble_eq_true rfl) (Or.inr (Or.inr rfl)) (ev_m_overhang (ev_ix hk (by omega))) ?_
  refine ev_b (pc' := 72) (ls' := [some (.ref 80), some (.int (nI D)), some (.long l), none, some (.int (nI k))]) (st' := []) (h' := (n, sl, wKK kk, I, va_up (va_up L 80 (vp_updL (L 80) 57 ((L 80 57) + ((I 95 k).toInt64)))) 80 (vp_updL ((va_up L 80 (vp_updL (L 80) 57 ((L 80 57) + ((I 95 k).toInt64)))) 80) 58 ((L 80 58) + (((I 95 k).toInt64) * (sp_m_overhang (nI k) l I (va_up L 80 (vp_updL (L 80) 57 ((L 80 57) + ((I 95 k).toInt64)))))))), wQQ q)) 3 rfl ?_
  refine ev_iincN (k := k) (ls' := [some (.ref 80), some (.int (nI D)), some (.long l), none, some (.int (nI (k + 1)))]) rfl rfl rfl ?_
  refine ev_b (pc' := 23) (ls' := [some (.ref 80), some (.int (nI D)), some (.long l), none, some (.int (nI (k + 1)))]) (st' := []) (h' := (n, sl, wKK kk, I, va_up (va_up L 80 (vp_updL (L 80) 57 ((L 80 57) + ((I 95 k).toInt64)))) 80 (vp_updL ((va_up L 80 (vp_updL (L 80) 57 ((L 80 57) + ((I 95 k).toInt64)))) 80) 58 ((L 80 58) + (((I 95 k).toInt64) * (sp_m_overhang (nI k) l I (va_up L 80 (vp_updL (L 80) 57 ((L 80 57) + ((I 95 k).toInt64)))))))), wQQ q)) 1 rfl ?_
  exact h8
theorem lp_m_weighs {d n sl : Nat} {kk : Nat → Nat × Nat} {q : Nat → Nat → Option Nat} {r : Option Value × am_H} (D : Nat) (l : Int64) (I : Nat → Nat → Int32) (L : Nat → Nat → Int64)  (h9 : am_Ev (d + 2) 204 78 [some (.ref 80), some (.int (nI D)), some (.long l), none, some (.int (nI 8))] [] (n, sl, wKK kk, I, (it_m_weighs D l I L 8), wQQ q) r) : am_Ev (d + 2) 204 23 [some (.ref 80), some (.int (nI D)), some (.long l), none, some (.int 0)] [] (n, sl, wKK kk, I, L, wQQ q) r := by
  have loop : ∀ zz k : Nat, k + zz = 8 → am_Ev (d + 2) 204 23 [some (.ref 80), some (.int (nI D)), some (.long l), none, some (.int (nI k))] [] (n, sl, wKK kk, I, (it_m_weighs D l I L k), wQQ q) r := by
    intro zz
    induction zz with
    | zero =>
      intro k hk
      have hk9 : k = 8 := by omega
      rw [hk9]
      refine ev_b (pc' := (if 8 ≤ (nI 8) then 78 else 30)) (ls' := [some (.ref 80), some (.int (nI D)), some (.long l), none, some (.int (nI 8))]) (st' := []) (h' := (n, sl, wKK kk, I, (it_m_weighs D l I L 8), wQQ q)) 3 rfl ?_
      refine ev_t (by decide) ?_
      exact h9
    | succ zz ih =>
      intro k hk
      exact sg_m_weighs D l _ _  (by omega) (ih (k + 1) (by omega))
  exact loop 8 0 (by omega)
def sI_m_weighs (D : Nat) (l : Int64) (I : Nat → Nat → Int32) (L : Nat → Nat → Int64) : Nat → Nat → Int32 := I
def sL_m_weighs (D : Nat) (l : Int64) (I : Nat → Nat → Int32) (L : Nat → Nat → Int64) : Nat → Nat → Int64 := (it_m_weighs D l I (va_up (va_up L 80 (vp_updL (L 80) 57 (L 115 D))) 80 (vp_updL ((va_up L 80 (vp_updL (L 80) 57 (L 115 D))) 80) 58 (L 116 D))) 8)
theorem ev_m_weighs {d : Nat} {n sl : Nat} {k : Nat → Nat × Nat} {I : Nat → Nat → Int32} {L : Nat → Nat → Int64} {q : Nat → Nat → Option Nat} {D : Nat} {l : Int64} (hD : D < 400) : am_Ev (d + 2) 204 0 (am_ent 5 [.ref 80, .int (nI D), .long l]) [] (n, sl, wKK k, I, L, wQQ q) (none, (n, sl, wKK k, sI_m_weighs D l I L, sL_m_weighs D l I L, wQQ q)) := by
  show am_Ev _ _ 0 [some (.ref 80), some (.int (nI D)), some (.long l), none, none] _ _ (none, (n, sl, wKK k, I, (it_m_weighs D l I (va_up (va_up L 80 (vp_updL (L 80) 57 (L 115 D))) 80 (vp_updL ((va_up L 80 (vp_updL (L 80) 57 (L 115 D))) 80) 58 (L 116 D))) 8), wQQ q))
  refine ev_b (pc' := 6) (ls' := [some (.ref 80), some (.int (nI D)), some (.long l), none, none]) (st' := [.int (nI D), .ref 115, .ref 80]) (h' := (n, sl, wKK k, I, L, wQQ q)) 4 rfl ?_
  refine ev_lalN (k := D) rfl (rfl) (by omega) ?_
  refine ev_b (pc' := 16) (ls' := [some (.ref 80), some (.int (nI D)), some (.long l), none, none]) (st' := [.int (nI D), .ref 116, .ref 80]) (h' := (n, sl, wKK k, I, va_up L 80 (vp_updL (L 80) 57 (L 115 D)), wQQ q)) 5 rfl ?_
  refine ev_lalN (k := D) rfl (rfl) (by omega) ?_
  refine ev_b (pc' := 23) (ls' := [some (.ref 80), some (.int (nI D)), some (.long l), none, some (.int 0)]) (st' := []) (h' := (n, sl, wKK k, I, va_up (va_up L 80 (vp_updL (L 80) 57 (L 115 D))) 80 (vp_updL ((va_up L 80 (vp_updL (L 80) 57 (L 115 D))) 80) 58 (L 116 D)), wQQ q)) 3 rfl ?_
  refine lp_m_weighs D l I (va_up (va_up L 80 (vp_updL (L 80) 57 (L 115 D))) 80 (vp_updL ((va_up L 80 (vp_updL (L 80) 57 (L 115 D))) 80) 58 (L 116 D)))  (?_)
  exact ev_rv rfl rfl
theorem sIe_m_weighs (D : Nat) (l : Int64) (I : Nat → Nat → Int32) (L : Nat → Nat → Int64) : sI_m_weighs D l I L = I := by
  unfold sI_m_weighs
  try (repeat' split) <;> rfl
theorem nI_sub {a b : Nat} (h : b ≤ a) : nI a - nI b = nI (a - b) := by
  have e : nI a = nI (a - b) + nI b := by rw [nI_add, Nat.sub_add_cancel h]
  rw [e]
  simp
section EVM
variable {d mi pc k : Nat} {ls ls' : am_L} {st : List Value} {h : am_H} {r : Option Value × am_H} {v : Value}
theorem ev_iincE {j : Nat} {c : Int} {x y : Int32} (hP : am_P mi pc = some (.iinc j c, 3, [], v)) (hg : am_lget ls j = some (.int x)) (e : x + Int32.ofInt c = y) (hl : (if j < ls.length then some (am_lset1 ls j (.int y)) else none) = some ls') (kk : am_Ev d mi (pc + 3) ls' st h r) : am_Ev d mi pc ls st h r := by
  refine ev_1 hP rfl ?_ kk
  show (match am_lget ls j with
    | some (.int x) => if j < ls.length then some (pc + 3, am_lset1 ls j (.int (x + Int32.ofInt c)), st, h) else none
    | _ => none) = _
  rw [hg]
  show (if j < ls.length then some (pc + 3, am_lset1 ls j (.int (x + Int32.ofInt c)), st, h) else none) = _
  rw [e]
  by_cases q : j < ls.length
  · rw [if_pos q] at hl ⊢
    rw [Option.some.inj hl]
  · rw [if_neg q] at hl
    cases hl
theorem ev_iincM {j : Nat} (hP : am_P mi pc = some (.iinc j (-1), 3, [], v)) (hg : am_lget ls j = some (.int (nI (k + 1)))) (hl : (if j < ls.length then some (am_lset1 ls j (.int (nI k))) else none) = some ls') (kk : am_Ev d mi (pc + 3) ls' st h r) : am_Ev d mi pc ls st h r := by
  refine ev_iincE hP hg ?_ hl kk
  have e : nI (k + 1) = nI k + nI 1 := (nI_add k 1).symm
  rw [e]
  have e2 : Int32.ofInt (-1) = - nI 1 := by decide
  rw [e2, Int32.add_assoc, show nI 1 + -nI 1 = (0 : Int32) from by decide, Int32.add_zero]
end EVM
theorem va_rd {F : Nat → Nat → Int32} {a k : Nat} {v : Int32} : va_up F a (upd (F a) k v) a k = v := by
  simp [va_up, upd]
def wf (b : Int32) (f g : Nat → Int32) : Nat → Int32
  | 0 => if f 0 = 0 then b else g 0
  | m + 1 => if f (m + 1) = 0 then wf b f g m else g (m + 1)
theorem nI_0le {a : Nat} (h : a < 2 ^ 31) : (0 : Int32) ≤ nI a := (nI_leI (a := 0) (by omega) h).mpr (Nat.zero_le a)
theorem ev_m_waterOn {d n sl : Nat} {kk : Nat → Nat × Nat} {I : Nat → Nat → Int32} {L : Nat → Nat → Int64} {q : Nat → Nat → Option Nat} {D : Nat} (hD : D < 400) : am_Ev d 189 0 (am_ent 3 [.ref 80, .int (nI D)]) [] (n, sl, wKK kk, I, L, wQQ q) (some (.int (wf 50 (I 101) (I 100) D)), (n, sl, wKK kk, I, L, wQQ q)) := by
  have loop : ∀ m : Nat, m < 400 → am_Ev d 189 2 [some (.ref 80), some (.int (nI D)), some (.int (nI m))] [] (n, sl, wKK kk, I, L, wQQ q) (some (.int (wf 50 (I 101) (I 100) m)), (n, sl, wKK kk, I, L, wQQ q)) := by
    intro m
    induction m with
    | zero =>
      intro hm
      refine ev_b (pc' := (if (nI 0) < 0 then 21 else 6)) (ls' := [some (.ref 80), some (.int (nI D)), some (.int (nI 0))]) (st' := []) (h' := (n, sl, wKK kk, I, L, wQQ q)) 2 rfl ?_
      refine ev_f (Int32.not_lt.mpr (nI_0le (by omega))) ?_
      refine ev_b (pc' := 11) (ls' := [some (.ref 80), some (.int (nI D)), some (.int (nI 0))]) (st' := [.int (nI 0), .ref 101]) (h' := (n, sl, wKK kk, I, L, wQQ q)) 3 rfl ?_
      refine ev_balN (k := 0) rfl (rfl) (⟨Or.inr rfl, by omega, by omega⟩) ?_
      refine ev_b (pc' := (if (I 101 0) = 0 then 15 else 21)) (ls' := [some (.ref 80), some (.int (nI D)), some (.int (nI 0))]) (st' := []) (h' := (n, sl, wKK kk, I, L, wQQ q)) 1 rfl ?_
      refine ev_if (fun c12 => ?_) (fun c12 => ?_)
      · refine ev_b (pc' := 2) (ls' := [some (.ref 80), some (.int (nI D)), some (.int ((nI 0) + Int32.ofInt (-1)))]) (st' := []) (h' := (n, sl, wKK kk, I, L, wQQ q)) 2 rfl ?_
        refine ev_b (pc' := (if ((nI 0) + Int32.ofInt (-1)) < 0 then 21 else 6)) (ls' := [some (.ref 80), some (.int (nI D)), some (.int ((nI 0) + Int32.ofInt (-1)))]) (st' := []) (h' := (n, sl, wKK kk, I, L, wQQ q)) 2 rfl ?_
        refine ev_t (by decide) ?_
        refine ev_b (pc' := (if 0 ≤ ((nI 0) + Int32.ofInt (-1)) then 30 else 25)) (ls' := [some (.ref 80), some (.int (nI D)), some (.int ((nI 0) + Int32.ofInt (-1)))]) (st' := []) (h' := (n, sl, wKK kk, I, L, wQQ q)) 2 rfl ?_
        refine ev_f (by decide) ?_
        refine ev_b (pc' := 36) (ls' := [some (.ref 80), some (.int (nI D)), some (.int ((nI 0) + Int32.ofInt (-1)))]) (st' := [.int 50]) (h' := (n, sl, wKK kk, I, L, wQQ q)) 2 rfl ?_
        exact ev_ri rfl (if_pos c12).symm rfl
      · refine ev_b (pc' := (if 0 ≤ (nI 0) then 30 else 25)) (ls' := [some (.ref 80), some (.int (nI D)), some (.int (nI 0))]) (st' := []) (h' := (n, sl, wKK kk, I, L, wQQ q)) 2 rfl ?_
        refine ev_t (nI_0le (by omega)) ?_
        refine ev_b (pc' := 35) (ls' := [some (.ref 80), some (.int (nI D)), some (.int (nI 0))]) (st' := [.int (nI 0), .ref 100]) (h' := (n, sl, wKK kk, I, L, wQQ q)) 3 rfl ?_
        refine ev_ialN (k := 0) rfl (rfl) (⟨by omega, by omega⟩) ?_
        exact ev_ri rfl (if_neg c12).symm rfl
    | succ m ih =>
      intro hm
      refine ev_b (pc' := (if (nI (m + 1)) < 0 then 21 else 6)) (ls' := [some (.ref 80), some (.int (nI D)), some (.int (nI (m + 1)))]) (st' := []) (h' := (n, sl, wKK kk, I, L, wQQ q)) 2 rfl ?_
      refine ev_f (Int32.not_lt.mpr (nI_0le (by omega))) ?_
      refine ev_b (pc' := 11) (ls' := [some (.ref 80), some (.int (nI D)), some (.int (nI (m + 1)))]) (st' := [.int (nI (m + 1)), .ref 101]) (h' := (n, sl, wKK kk, I, L, wQQ q)) 3 rfl ?_
      refine ev_balN (k := (m + 1)) rfl (rfl) (⟨Or.inr rfl, by omega, by omega⟩) ?_
      refine ev_b (pc' := (if (I 101 (m + 1)) = 0 then 15 else 21)) (ls' := [some (.ref 80), some (.int (nI D)), some (.int (nI (m + 1)))]) (st' := []) (h' := (n, sl, wKK kk, I, L, wQQ q)) 1 rfl ?_
      refine ev_if (fun c12 => ?_) (fun c12 => ?_)
      · refine ev_iincM (k := m) (ls' := [some (.ref 80), some (.int (nI D)), some (.int (nI m))]) rfl rfl rfl ?_
        refine ev_b (pc' := 2) (ls' := [some (.ref 80), some (.int (nI D)), some (.int (nI m))]) (st' := []) (h' := (n, sl, wKK kk, I, L, wQQ q)) 1 rfl ?_
        have e9 : wf 50 (I 101) (I 100) (m + 1) = wf 50 (I 101) (I 100) m := if_pos c12
        rw [e9]
        exact ih (by omega)
      · refine ev_b (pc' := (if 0 ≤ (nI (m + 1)) then 30 else 25)) (ls' := [some (.ref 80), some (.int (nI D)), some (.int (nI (m + 1)))]) (st' := []) (h' := (n, sl, wKK kk, I, L, wQQ q)) 2 rfl ?_
        refine ev_t (nI_0le (by omega)) ?_
        refine ev_b (pc' := 35) (ls' := [some (.ref 80), some (.int (nI D)), some (.int (nI (m + 1)))]) (st' := [.int (nI (m + 1)), .ref 100]) (h' := (n, sl, wKK kk, I, L, wQQ q)) 3 rfl ?_
        refine ev_ialN (k := (m + 1)) rfl (rfl) (⟨by omega, by omega⟩) ?_
        exact ev_ri rfl (if_neg c12).symm rfl
  exact ev_b 2 rfl (loop D hD)
theorem ev_m_warmthOn {d n sl : Nat} {kk : Nat → Nat × Nat} {I : Nat → Nat → Int32} {L : Nat → Nat → Int64} {q : Nat → Nat → Option Nat} {D : Nat} (hD : D < 400) : am_Ev d 190 0 (am_ent 3 [.ref 80, .int (nI D)]) [] (n, sl, wKK kk, I, L, wQQ q) (some (.int (wf 0 (I 103) (I 102) D)), (n, sl, wKK kk, I, L, wQQ q)) := by
  have loop : ∀ m : Nat, m < 400 → am_Ev d 190 2 [some (.ref 80), some (.int (nI D)), some (.int (nI m))] [] (n, sl, wKK kk, I, L, wQQ q) (some (.int (wf 0 (I 103) (I 102) m)), (n, sl, wKK kk, I, L, wQQ q)) := by
    intro m
    induction m with
    | zero =>
      intro hm
      refine ev_b (pc' := (if (nI 0) < 0 then 21 else 6)) (ls' := [some (.ref 80), some (.int (nI D)), some (.int (nI 0))]) (st' := []) (h' := (n, sl, wKK kk, I, L, wQQ q)) 2 rfl ?_
      refine ev_f (Int32.not_lt.mpr (nI_0le (by omega))) ?_
      refine ev_b (pc' := 11) (ls' := [some (.ref 80), some (.int (nI D)), some (.int (nI 0))]) (st' := [.int (nI 0), .ref 103]) (h' := (n, sl, wKK kk, I, L, wQQ q)) 3 rfl ?_
      refine ev_balN (k := 0) rfl (rfl) (⟨Or.inr rfl, by omega, by omega⟩) ?_
      refine ev_b (pc' := (if (I 103 0) = 0 then 15 else 21)) (ls' := [some (.ref 80), some (.int (nI D)), some (.int (nI 0))]) (st' := []) (h' := (n, sl, wKK kk, I, L, wQQ q)) 1 rfl ?_
      refine ev_if (fun c12 => ?_) (fun c12 => ?_)
      · refine ev_b (pc' := 2) (ls' := [some (.ref 80), some (.int (nI D)), some (.int ((nI 0) + Int32.ofInt (-1)))]) (st' := []) (h' := (n, sl, wKK kk, I, L, wQQ q)) 2 rfl ?_
        refine ev_b (pc' := (if ((nI 0) + Int32.ofInt (-1)) < 0 then 21 else 6)) (ls' := [some (.ref 80), some (.int (nI D)), some (.int ((nI 0) + Int32.ofInt (-1)))]) (st' := []) (h' := (n, sl, wKK kk, I, L, wQQ q)) 2 rfl ?_
        refine ev_t (by decide) ?_
        refine ev_b (pc' := (if 0 ≤ ((nI 0) + Int32.ofInt (-1)) then 29 else 25)) (ls' := [some (.ref 80), some (.int (nI D)), some (.int ((nI 0) + Int32.ofInt (-1)))]) (st' := []) (h' := (n, sl, wKK kk, I, L, wQQ q)) 2 rfl ?_
        refine ev_f (by decide) ?_
        refine ev_b (pc' := 35) (ls' := [some (.ref 80), some (.int (nI D)), some (.int ((nI 0) + Int32.ofInt (-1)))]) (st' := [.int 0]) (h' := (n, sl, wKK kk, I, L, wQQ q)) 2 rfl ?_
        exact ev_ri rfl (if_pos c12).symm rfl
      · refine ev_b (pc' := (if 0 ≤ (nI 0) then 29 else 25)) (ls' := [some (.ref 80), some (.int (nI D)), some (.int (nI 0))]) (st' := []) (h' := (n, sl, wKK kk, I, L, wQQ q)) 2 rfl ?_
        refine ev_t (nI_0le (by omega)) ?_
        refine ev_b (pc' := 34) (ls' := [some (.ref 80), some (.int (nI D)), some (.int (nI 0))]) (st' := [.int (nI 0), .ref 102]) (h' := (n, sl, wKK kk, I, L, wQQ q)) 3 rfl ?_
        refine ev_ialN (k := 0) rfl (rfl) (⟨by omega, by omega⟩) ?_
        exact ev_ri rfl (if_neg c12).symm rfl
    | succ m ih =>
      intro hm
      refine ev_b (pc' := (if (nI (m + 1)) < 0 then 21 else 6)) (ls' := [some (.ref 80), some (.int (nI D)), some (.int (nI (m + 1)))]) (st' := []) (h' := (n, sl, wKK kk, I, L, wQQ q)) 2 rfl ?_
      refine ev_f (Int32.not_lt.mpr (nI_0le (by omega))) ?_
      refine ev_b (pc' := 11) (ls' := [some (.ref 80), some (.int (nI D)), some (.int (nI (m + 1)))]) (st' := [.int (nI (m + 1)), .ref 103]) (h' := (n, sl, wKK kk, I, L, wQQ q)) 3 rfl ?_
      refine ev_balN (k := (m + 1)) rfl (rfl) (⟨Or.inr rfl, by omega, by omega⟩) ?_
      refine ev_b (pc' := (if (I 103 (m + 1)) = 0 then 15 else 21)) (ls' := [some (.ref 80), some (.int (nI D)), some (.int (nI (m + 1)))]) (st' := []) (h' := (n, sl, wKK kk, I, L, wQQ q)) 1 rfl ?_
      refine ev_if (fun c12 => ?_) (fun c12 => ?_)
      · refine ev_iincM (k := m) (ls' := [some (.ref 80), some (.int (nI D)), some (.int (nI m))]) rfl rfl rfl ?_
        refine ev_b (pc' := 2) (ls' := [some (.ref 80), some (.int (nI D)), some (.int (nI m))]) (st' := []) (h' := (n, sl, wKK kk, I, L, wQQ q)) 1 rfl ?_
        have e9 : wf 0 (I 103) (I 102) (m + 1) = wf 0 (I 103) (I 102) m := if_pos c12
        rw [e9]
        exact ih (by omega)
      · refine ev_b (pc' := (if 0 ≤ (nI (m + 1)) then 29 else 25)) (ls' := [some (.ref 80), some (.int (nI D)), some (.int (nI (m + 1)))]) (st' := []) (h' := (n, sl, wKK kk, I, L, wQQ q)) 2 rfl ?_
        refine ev_t (nI_0le (by omega)) ?_
        refine ev_b (pc' := 34) (ls' := [some (.ref 80), some (.int (nI D)), some (.int (nI (m + 1)))]) (st' := [.int (nI (m + 1)), .ref 102]) (h' := (n, sl, wKK kk, I, L, wQQ q)) 3 rfl ?_
        refine ev_ialN (k := (m + 1)) rfl (rfl) (⟨by omega, by omega⟩) ?_
        exact ev_ri rfl (if_neg c12).symm rfl
  exact ev_b 2 rfl (loop D hD)
