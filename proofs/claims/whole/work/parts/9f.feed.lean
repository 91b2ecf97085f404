/-! FEED -/
theorem by_t : ∀ t, t < 256 → vp_nar .byte ((nI t).toInt8.toInt32) = pa_by t := by decide +kernel
theorem by_v (z : Int32) : (z &&& 255) = nI (z &&& 255).toNatClampNeg ∧ (z &&& 255).toNatClampNeg < 256 ∧ vp_nar .byte (z.toInt8.toInt32) = pa_by (z &&& 255).toNatClampNeg := by
  have h8 : (z &&& 255).toInt8 = z.toInt8 := by
    rw [Int32.toInt8_and]
    exact Int8.and_neg_one
  have hn : (z &&& 255).toBitVec.toNat < 256 := by
    have : (z &&& 255).toBitVec.toNat = z.toBitVec.toNat &&& 255 := by
      rw [Int32.toBitVec_and, BitVec.toNat_and]
      rfl
    rw [this]
    exact Nat.lt_succ_of_le Nat.and_le_right
  have hi : (z &&& 255).toInt = (z &&& 255).toBitVec.toNat := BitVec.toInt_eq_toNat_of_lt (by omega)
  have hx : z &&& 255 = nI (z &&& 255).toNatClampNeg := x_nI (x := z &&& 255) (by omega)
  have hc : (z &&& 255).toNatClampNeg < 256 := by show (z &&& 255).toInt.toNat < 256; omega
  refine ⟨hx, hc, ?_⟩
  rw [← h8]
  have e := by_t _ hc
  rw [← hx] at e
  exact e
def fxI (I : Nat → Nat → Int32) (ln : Int32) (r58 : Nat → Int32) (j i : Nat) : Int32 := cond (Nat.beq j 57) (cond (Nat.beq i 1) ln (I 57 i)) (cond (Nat.beq j 58) (r58 i) (I j i))
theorem fxI_nb : ∀ {i k : Nat}, ¬ i = k → Nat.beq i k = false := fun h => Bool.eq_false_iff.mpr (fun q => h (Nat.eq_of_beq_eq_true q))
theorem fxI_w_ln {I : Nat → Nat → Int32} {ln : Int32} {r58 : Nat → Int32} {y : Int32} : va_up (fxI I ln r58) 57 (upd ((fxI I ln r58) 57) 1 y) = fxI I y r58 := by
  funext j i
  unfold va_up upd
  by_cases hj : j = 57
  · subst hj
    by_cases hi : i = 1
    · subst hi; rfl
    · rw [if_pos rfl, if_neg hi]; unfold fxI; simp only [fxI_nb hi, cond_false]
  · rw [if_neg hj]; unfold fxI; simp only [fxI_nb hj, cond_false]
theorem fxI_w_r58 {I : Nat → Nat → Int32} {ln : Int32} {r58 : Nat → Int32} {y : Int32} {k : Nat} : va_up (fxI I ln r58) 58 (upd ((fxI I ln r58) 58) k y) = fxI I ln (upd r58 k y) := by
  funext j i
  unfold va_up
  by_cases hj : j = 58
  · subst hj; rfl
  · rw [if_neg hj]; unfold fxI; simp only [fxI_nb hj, cond_false]
def fmI (I : Nat → Nat → Int32) (ln : Int32) (r81 : Nat → Int32) (j i : Nat) : Int32 := cond (Nat.beq j 80) (cond (Nat.beq i 1) ln (I 80 i)) (cond (Nat.beq j 81) (r81 i) (I j i))
theorem fmI_nb : ∀ {i k : Nat}, ¬ i = k → Nat.beq i k = false := fun h => Bool.eq_false_iff.mpr (fun q => h (Nat.eq_of_beq_eq_true q))
theorem fmI_w_ln {I : Nat → Nat → Int32} {ln : Int32} {r81 : Nat → Int32} {y : Int32} : va_up (fmI I ln r81) 80 (upd ((fmI I ln r81) 80) 1 y) = fmI I y r81 := by
  funext j i
  unfold va_up upd
  by_cases hj : j = 80
  · subst hj
    by_cases hi : i = 1
    · subst hi; rfl
    · rw [if_pos rfl, if_neg hi]; unfold fmI; simp only [fmI_nb hi, cond_false]
  · rw [if_neg hj]; unfold fmI; simp only [fmI_nb hj, cond_false]
theorem fmI_w_r81 {I : Nat → Nat → Int32} {ln : Int32} {r81 : Nat → Int32} {y : Int32} {k : Nat} : va_up (fmI I ln r81) 81 (upd ((fmI I ln r81) 81) k y) = fmI I ln (upd r81 k y) := by
  funext j i
  unfold va_up
  by_cases hj : j = 81
  · subst hj; rfl
  · rw [if_neg hj]; unfold fmI; simp only [fmI_nb hj, cond_false]
theorem fx_self {J : Nat → Nat → Int32} : J = fxI J (J 57 1) (J 58) := by
  funext j i
  unfold fxI
  by_cases hj : j = 57
  · subst hj
    by_cases h1 : i = 1
    · subst h1; rfl
    simp only [rdI_nb h1, cond_false]
    try rfl
  · by_cases h8 : j = 58
    · subst h8; rfl
    simp only [rdI_nb hj, rdI_nb h8, cond_false]
theorem fm_self {J : Nat → Nat → Int32} : J = fmI J (J 80 1) (J 81) := by
  funext j i
  unfold fmI
  by_cases hj : j = 80
  · subst hj
    by_cases h1 : i = 1
    · subst h1; rfl
    simp only [rdI_nb h1, cond_false]
    try rfl
  · by_cases h8 : j = 81
    · subst h8; rfl
    simp only [rdI_nb hj, rdI_nb h8, cond_false]
def xb (x s : Int32) : Int32 := vp_nar .byte ((x >>> (s &&& 31)).toInt8.toInt32)
def mb (x s : Int32) : Int32 := (x >>> (s &&& 31)) &&& 255
def xw4 (r : Nat → Int32) (T : Nat) (x : Int32) : Nat → Int32 := upd (upd (upd (upd r T (xb x 24)) (T + 1) (xb x 16)) (T + 2) (xb x 8)) (T + 3) (xb x 0)
def mw4 (r : Nat → Int32) (T : Nat) (x : Int32) : Nat → Int32 := upd (upd (upd (upd r T (mb x 24)) (T + 1) (mb x 16)) (T + 2) (mb x 8)) (T + 3) (mb x 0)
def tp (tx : Nat → Nat) (r58 r81 : Nat → Int32) (T : Nat) : Prop := ∀ i, i < T → tx i < 256 ∧ r58 i = pa_by (tx i) ∧ r81 i = nI (tx i)
theorem tp_1 {tx : Nat → Nat} {r58 r81 : Nat → Int32} {T : Nat} (h : tp tx r58 r81 T) (x s : Int32) : ∃ tx', tp tx' (upd r58 T (xb x s)) (upd r81 T (mb x s)) (T + 1) := by
  obtain ⟨e1, e2, e3⟩ := by_v (x >>> (s &&& 31))
  refine ⟨fun i => if i = T then (mb x s).toNatClampNeg else tx i, fun i hi => ?_⟩
  by_cases z : i = T
  · subst z
    show (if i = i then _ else _) < 256 ∧ _ = pa_by (if i = i then _ else _) ∧ _ = nI (if i = i then _ else _)
    rw [if_pos rfl, upd_e, upd_e]
    exact ⟨e2, e3, e1⟩
  · show (if i = T then _ else _) < 256 ∧ _ = pa_by (if i = T then _ else _) ∧ _ = nI (if i = T then _ else _)
    rw [if_neg z, upd_n z, upd_n z]
    exact h i (by omega)
theorem tp_4 {tx : Nat → Nat} {r58 r81 : Nat → Int32} {T : Nat} (h : tp tx r58 r81 T) (x : Int32) : ∃ tx', tp tx' (xw4 r58 T x) (mw4 r81 T x) (T + 4) := by
  obtain ⟨t1, h1⟩ := tp_1 h x 24
  obtain ⟨t2, h2⟩ := tp_1 h1 x 16
  obtain ⟨t3, h3⟩ := tp_1 h2 x 8
  exact tp_1 h3 x 0
theorem ev_r_write4 {d n sl : Nat} {kk : Nat → Nat × Nat} {I : Nat → Nat → Int32} {L : Nat → Nat → Int64} {q : Nat → Nat → Option Nat} {x : Int32} {T : Nat} {r58 : Nat → Int32} (hT : T + 4 ≤ 800) : am_Ev d 64 0 (am_ent 3 [.ref 57, .int x]) [] (n, sl, wKK kk, (fxI I (nI T) r58), L, wQQ q) (none, (n, sl, wKK kk, (fxI I (nI (T + 4)) (xw4 r58 T x)), L, wQQ q)) := by
  refine tv_ev ?_
  show am_T _ _ 0 [some (.ref 57), some (.int x), none] _ _ _
  refine tv_b (pc' := (if 800 ≤ (nI T) then 46 else 17)) (ls' := [some (.ref 57), some (.int x), some (.int 24)]) (st' := []) (h' := (n, sl, wKK kk, (fxI I (nI T) r58), L, wQQ q)) 8 rfl ?_
  refine tv_f (fun hq => absurd ((nI_leI (a := 800) (b := T) (by omega) (by omega)).mp hq) (by omega)) ?_
  refine tv_b (pc' := 29) (ls' := [some (.ref 57), some (.int x), some (.int 24)]) (st' := [.int ((x >>> (24 &&& 31)).toInt8.toInt32), .int (nI T), .ref 58]) (h' := (n, sl, wKK kk, (fxI I (nI T) r58), L, wQQ q)) 8 rfl ?_
  refine tv_basBN (k := T) rfl (rfl) (⟨by omega, by omega⟩) ?_
  refine tv_hI fxI_w_r58 ?_
  refine tv_b (pc' := 36) (ls' := [some (.ref 57), some (.int x), some (.int 24)]) (st' := [.int 1, .int (nI T), .ref 57]) (h' := (n, sl, wKK kk, (fxI I (nI T) (upd r58 T (vp_nar .byte ((x >>> (24 &&& 31)).toInt8.toInt32)))), L, wQQ q)) 4 rfl ?_
  refine tv_b (pc' := 37) (ls' := [some (.ref 57), some (.int x), some (.int 24)]) (st' := [.int ((nI T) + 1), .ref 57]) (h' := (n, sl, wKK kk, (fxI I (nI T) (upd r58 T (vp_nar .byte ((x >>> (24 &&& 31)).toInt8.toInt32)))), L, wQQ q)) 1 rfl ?_
  refine tv_top (show (nI T) + 1 = nI (T + 1) from nI_add T 1) ?_
  refine tv_b (pc' := 40) (ls' := [some (.ref 57), some (.int x), some (.int 24)]) (st' := []) (h' := (n, sl, wKK kk, va_up (fxI I (nI T) (upd r58 T (vp_nar .byte ((x >>> (24 &&& 31)).toInt8.toInt32)))) 57 (upd ((fxI I (nI T) (upd r58 T (vp_nar .byte ((x >>> (24 &&& 31)).toInt8.toInt32)))) 57) 1 (nI (T + 1))), L, wQQ q)) 1 rfl ?_
  refine tv_hI fxI_w_ln ?_
  refine tv_b (pc' := (if 800 ≤ (nI (T + 1)) then 46 else 17)) (ls' := [some (.ref 57), some (.int x), some (.int 16)]) (st' := []) (h' := (n, sl, wKK kk, (fxI I (nI (T + 1)) (upd r58 T (vp_nar .byte ((x >>> (24 &&& 31)).toInt8.toInt32)))), L, wQQ q)) 8 rfl ?_
  refine tv_f (fun hq => absurd ((nI_leI (a := 800) (b := T + 1) (by omega) (by omega)).mp hq) (by omega)) ?_
  refine tv_b (pc' := 29) (ls' := [some (.ref 57), some (.int x), some (.int 16)]) (st' := [.int ((x >>> (16 &&& 31)).toInt8.toInt32), .int (nI (T + 1)), .ref 58]) (h' := (n, sl, wKK kk, (fxI I (nI (T + 1)) (upd r58 T (vp_nar .byte ((x >>> (24 &&& 31)).toInt8.toInt32)))), L, wQQ q)) 8 rfl ?_
  refine tv_basBN (k := (T + 1)) rfl (rfl) (⟨by omega, by omega⟩) ?_
  refine tv_hI fxI_w_r58 ?_
  refine tv_b (pc' := 36) (ls' := [some (.ref 57), some (.int x), some (.int 16)]) (st' := [.int 1, .int (nI (T + 1)), .ref 57]) (h' := (n, sl, wKK kk, (fxI I (nI (T + 1)) (upd (upd r58 T (vp_nar .byte ((x >>> (24 &&& 31)).toInt8.toInt32))) (T + 1) (vp_nar .byte ((x >>> (16 &&& 31)).toInt8.toInt32)))), L, wQQ q)) 4 rfl ?_
  refine tv_b (pc' := 37) (ls' := [some (.ref 57), some (.int x), some (.int 16)]) (st' := [.int ((nI (T + 1)) + 1), .ref 57]) (h' := (n, sl, wKK kk, (fxI I (nI (T + 1)) (upd (upd r58 T (vp_nar .byte ((x >>> (24 &&& 31)).toInt8.toInt32))) (T + 1) (vp_nar .byte ((x >>> (16 &&& 31)).toInt8.toInt32)))), L, wQQ q)) 1 rfl ?_
  refine tv_top (show (nI (T + 1)) + 1 = nI (T + 2) from nI_add (T + 1) 1) ?_
  refine tv_b (pc' := 40) (ls' := [some (.ref 57), some (.int x), some (.int 16)]) (st' := []) (h' := (n, sl, wKK kk, va_up (fxI I (nI (T + 1)) (upd (upd r58 T (vp_nar .byte ((x >>> (24 &&& 31)).toInt8.toInt32))) (T + 1) (vp_nar .byte ((x >>> (16 &&& 31)).toInt8.toInt32)))) 57 (upd ((fxI I (nI (T + 1)) (upd (upd r58 T (vp_nar .byte ((x >>> (24 &&& 31)).toInt8.toInt32))) (T + 1) (vp_nar .byte ((x >>> (16 &&& 31)).toInt8.toInt32)))) 57) 1 (nI (T + 2))), L, wQQ q)) 1 rfl ?_
  refine tv_hI fxI_w_ln ?_
  refine tv_b (pc' := (if 800 ≤ (nI (T + 2)) then 46 else 17)) (ls' := [some (.ref 57), some (.int x), some (.int 8)]) (st' := []) (h' := (n, sl, wKK kk, (fxI I (nI (T + 2)) (upd (upd r58 T (vp_nar .byte ((x >>> (24 &&& 31)).toInt8.toInt32))) (T + 1) (vp_nar .byte ((x >>> (16 &&& 31)).toInt8.toInt32)))), L, wQQ q)) 8 rfl ?_
  refine tv_f (fun hq => absurd ((nI_leI (a := 800) (b := T + 2) (by omega) (by omega)).mp hq) (by omega)) ?_
  refine tv_b (pc' := 29) (ls' := [some (.ref 57), some (.int x), some (.int 8)]) (st' := [.int ((x >>> (8 &&& 31)).toInt8.toInt32), .int (nI (T + 2)), .ref 58]) (h' := (n, sl, wKK kk, (fxI I (nI (T + 2)) (upd (upd r58 T (vp_nar .byte ((x >>> (24 &&& 31)).toInt8.toInt32))) (T + 1) (vp_nar .byte ((x >>> (16 &&& 31)).toInt8.toInt32)))), L, wQQ q)) 8 rfl ?_
  refine tv_basBN (k := (T + 2)) rfl (rfl) (⟨by omega, by omega⟩) ?_
  refine tv_hI fxI_w_r58 ?_
  refine tv_b (pc' := 36) (ls' := [some (.ref 57), some (.int x), some (.int 8)]) (st' := [.int 1, .int (nI (T + 2)), .ref 57]) (h' := (n, sl, wKK kk, (fxI I (nI (T + 2)) (upd (upd (upd r58 T (vp_nar .byte ((x >>> (24 &&& 31)).toInt8.toInt32))) (T + 1) (vp_nar .byte ((x >>> (16 &&& 31)).toInt8.toInt32))) (T + 2) (vp_nar .byte ((x >>> (8 &&& 31)).toInt8.toInt32)))), L, wQQ q)) 4 rfl ?_
  refine tv_b (pc' := 37) (ls' := [some (.ref 57), some (.int x), some (.int 8)]) (st' := [.int ((nI (T + 2)) + 1), .ref 57]) (h' := (n, sl, wKK kk, (fxI I (nI (T + 2)) (upd (upd (upd r58 T (vp_nar .byte ((x >>> (24 &&& 31)).toInt8.toInt32))) (T + 1) (vp_nar .byte ((x >>> (16 &&& 31)).toInt8.toInt32))) (T + 2) (vp_nar .byte ((x >>> (8 &&& 31)).toInt8.toInt32)))), L, wQQ q)) 1 rfl ?_
  refine tv_top (show (nI (T + 2)) + 1 = nI (T + 3) from nI_add (T + 2) 1) ?_
  refine tv_b (pc' := 40) (ls' := [some (.ref 57), some (.int x), some (.int 8)]) (st' := []) (h' := (n, sl, wKK kk, va_up (fxI I (nI (T + 2)) (upd (upd (upd r58 T (vp_nar .byte ((x >>> (24 &&& 31)).toInt8.toInt32))) (T + 1) (vp_nar .byte ((x >>> (16 &&& 31)).toInt8.toInt32))) (T + 2) (vp_nar .byte ((x >>> (8 &&& 31)).toInt8.toInt32)))) 57 (upd ((fxI I (nI (T + 2)) (upd (upd (upd r58 T (vp_nar .byte ((x >>> (24 &&& 31)).toInt8.toInt32))) (T + 1) (vp_nar .byte ((x >>> (16 &&& 31)).toInt8.toInt32))) (T + 2) (vp_nar .byte ((x >>> (8 &&& 31)).toInt8.toInt32)))) 57) 1 (nI (T + 3))), L, wQQ q)) 1 rfl ?_
  refine tv_hI fxI_w_ln ?_
  refine tv_b (pc' := (if 800 ≤ (nI (T + 3)) then 46 else 17)) (ls' := [some (.ref 57), some (.int x), some (.int 0)]) (st' := []) (h' := (n, sl, wKK kk, (fxI I (nI (T + 3)) (upd (upd (upd r58 T (vp_nar .byte ((x >>> (24 &&& 31)).toInt8.toInt32))) (T + 1) (vp_nar .byte ((x >>> (16 &&& 31)).toInt8.toInt32))) (T + 2) (vp_nar .byte ((x >>> (8 &&& 31)).toInt8.toInt32)))), L, wQQ q)) 8 rfl ?_
  refine tv_f (fun hq => absurd ((nI_leI (a := 800) (b := T + 3) (by omega) (by omega)).mp hq) (by omega)) ?_
  refine tv_b (pc' := 29) (ls' := [some (.ref 57), some (.int x), some (.int 0)]) (st' := [.int ((x >>> (0 &&& 31)).toInt8.toInt32), .int (nI (T + 3)), .ref 58]) (h' := (n, sl, wKK kk, (fxI I (nI (T + 3)) (upd (upd (upd r58 T (vp_nar .byte ((x >>> (24 &&& 31)).toInt8.toInt32))) (T + 1) (vp_nar .byte ((x >>> (16 &&& 31)).toInt8.toInt32))) (T + 2) (vp_nar .byte ((x >>> (8 &&& 31)).toInt8.toInt32)))), L, wQQ q)) 8 rfl ?_
  refine tv_basBN (k := (T + 3)) rfl (rfl) (⟨by omega, by omega⟩) ?_
  refine tv_hI fxI_w_r58 ?_
  refine tv_b (pc' := 36) (ls' := [some (.ref 57), some (.int x), some (.int 0)]) (st' := [.int 1, .int (nI (T + 3)), .ref 57]) (h' := (n, sl, wKK kk, (fxI I (nI (T + 3)) (upd (upd (upd (upd r58 T (vp_nar .byte ((x >>> (24 &&& 31)).toInt8.toInt32))) (T + 1) (vp_nar .byte ((x >>> (16 &&& 31)).toInt8.toInt32))) (T + 2) (vp_nar .byte ((x >>> (8 &&& 31)).toInt8.toInt32))) (T + 3) (vp_nar .byte ((x >>> (0 &&& 31)).toInt8.toInt32)))), L, wQQ q)) 4 rfl ?_
  refine tv_b (pc' := 37) (ls' := [some (.ref 57), some (.int x), some (.int 0)]) (st' := [.int ((nI (T + 3)) + 1), .ref 57]) (h' := (n, sl, wKK kk, (fxI I (nI (T + 3)) (upd (upd (upd (upd r58 T (vp_nar .byte ((x >>> (24 &&& 31)).toInt8.toInt32))) (T + 1) (vp_nar .byte ((x >>> (16 &&& 31)).toInt8.toInt32))) (T + 2) (vp_nar .byte ((x >>> (8 &&& 31)).toInt8.toInt32))) (T + 3) (vp_nar .byte ((x >>> (0 &&& 31)).toInt8.toInt32)))), L, wQQ q)) 1 rfl ?_
  refine tv_top (show (nI (T + 3)) + 1 = nI (T + 4) from nI_add (T + 3) 1) ?_
  refine tv_b (pc' := 40) (ls' := [some (.ref 57), some (.int x), some (.int 0)]) (st' := []) (h' := (n, sl, wKK kk, va_up (fxI I (nI (T + 3)) (upd (upd (upd (upd r58 T (vp_nar .byte ((x >>> (24 &&& 31)).toInt8.toInt32))) (T + 1) (vp_nar .byte ((x >>> (16 &&& 31)).toInt8.toInt32))) (T + 2) (vp_nar .byte ((x >>> (8 &&& 31)).toInt8.toInt32))) (T + 3) (vp_nar .byte ((x >>> (0 &&& 31)).toInt8.toInt32)))) 57 (upd ((fxI I (nI (T + 3)) (upd (upd (upd (upd r58 T (vp_nar .byte ((x >>> (24 &&& 31)).toInt8.toInt32))) (T + 1) (vp_nar .byte ((x >>> (16 &&& 31)).toInt8.toInt32))) (T + 2) (vp_nar .byte ((x >>> (8 &&& 31)).toInt8.toInt32))) (T + 3) (vp_nar .byte ((x >>> (0 &&& 31)).toInt8.toInt32)))) 57) 1 (nI (T + 4))), L, wQQ q)) 1 rfl ?_
  refine tv_hI fxI_w_ln ?_
  refine tv_b (pc' := 46) (ls' := [some (.ref 57), some (.int x), some (.int (-8))]) (st' := []) (h' := (n, sl, wKK kk, (fxI I (nI (T + 4)) (upd (upd (upd (upd r58 T (vp_nar .byte ((x >>> (24 &&& 31)).toInt8.toInt32))) (T + 1) (vp_nar .byte ((x >>> (16 &&& 31)).toInt8.toInt32))) (T + 2) (vp_nar .byte ((x >>> (8 &&& 31)).toInt8.toInt32))) (T + 3) (vp_nar .byte ((x >>> (0 &&& 31)).toInt8.toInt32)))), L, wQQ q)) 4 rfl ?_
  exact tv_rv rfl ⟨rfl, rfl⟩
theorem ev_m_put4 {d n sl : Nat} {kk : Nat → Nat × Nat} {I : Nat → Nat → Int32} {L : Nat → Nat → Int64} {q : Nat → Nat → Option Nat} {x : Int32} {T : Nat} {r81 : Nat → Int32} (hT : T + 4 ≤ 800) : am_Ev d 156 0 (am_ent 3 [.ref 80, .int x]) [] (n, sl, wKK kk, (fmI I (nI T) r81), L, wQQ q) (none, (n, sl, wKK kk, (fmI I (nI (T + 4)) (mw4 r81 T x)), L, wQQ q)) := by
  refine tv_ev ?_
  show am_T _ _ 0 [some (.ref 80), some (.int x), none] _ _ _
  refine tv_b (pc' := 22) (ls' := [some (.ref 80), some (.int x), some (.int 24)]) (st' := [.int ((x >>> (24 &&& 31)) &&& 255), .int (nI T), .ref 81]) (h' := (n, sl, wKK kk, (fmI I (nI T) r81), L, wQQ q)) 13 rfl ?_
  refine tv_iasN (k := T) rfl (rfl) (⟨by omega, by omega⟩) ?_
  refine tv_hI fmI_w_r81 ?_
  refine tv_b (pc' := 29) (ls' := [some (.ref 80), some (.int x), some (.int 24)]) (st' := [.int 1, .int (nI T), .ref 80]) (h' := (n, sl, wKK kk, (fmI I (nI T) (upd r81 T ((x >>> (24 &&& 31)) &&& 255))), L, wQQ q)) 4 rfl ?_
  refine tv_b (pc' := 30) (ls' := [some (.ref 80), some (.int x), some (.int 24)]) (st' := [.int ((nI T) + 1), .ref 80]) (h' := (n, sl, wKK kk, (fmI I (nI T) (upd r81 T ((x >>> (24 &&& 31)) &&& 255))), L, wQQ q)) 1 rfl ?_
  refine tv_top (show (nI T) + 1 = nI (T + 1) from nI_add T 1) ?_
  refine tv_b (pc' := 33) (ls' := [some (.ref 80), some (.int x), some (.int 24)]) (st' := []) (h' := (n, sl, wKK kk, va_up (fmI I (nI T) (upd r81 T ((x >>> (24 &&& 31)) &&& 255))) 80 (upd ((fmI I (nI T) (upd r81 T ((x >>> (24 &&& 31)) &&& 255))) 80) 1 (nI (T + 1))), L, wQQ q)) 1 rfl ?_
  refine tv_hI fmI_w_ln ?_
  refine tv_b (pc' := 22) (ls' := [some (.ref 80), some (.int x), some (.int 16)]) (st' := [.int ((x >>> (16 &&& 31)) &&& 255), .int (nI (T + 1)), .ref 81]) (h' := (n, sl, wKK kk, (fmI I (nI (T + 1)) (upd r81 T ((x >>> (24 &&& 31)) &&& 255))), L, wQQ q)) 13 rfl ?_
  refine tv_iasN (k := (T + 1)) rfl (rfl) (⟨by omega, by omega⟩) ?_
  refine tv_hI fmI_w_r81 ?_
  refine tv_b (pc' := 29) (ls' := [some (.ref 80), some (.int x), some (.int 16)]) (st' := [.int 1, .int (nI (T + 1)), .ref 80]) (h' := (n, sl, wKK kk, (fmI I (nI (T + 1)) (upd (upd r81 T ((x >>> (24 &&& 31)) &&& 255)) (T + 1) ((x >>> (16 &&& 31)) &&& 255))), L, wQQ q)) 4 rfl ?_
  refine tv_b (pc' := 30) (ls' := [some (.ref 80), some (.int x), some (.int 16)]) (st' := [.int ((nI (T + 1)) + 1), .ref 80]) (h' := (n, sl, wKK kk, (fmI I (nI (T + 1)) (upd (upd r81 T ((x >>> (24 &&& 31)) &&& 255)) (T + 1) ((x >>> (16 &&& 31)) &&& 255))), L, wQQ q)) 1 rfl ?_
  refine tv_top (show (nI (T + 1)) + 1 = nI (T + 2) from nI_add (T + 1) 1) ?_
  refine tv_b (pc' := 33) (ls' := [some (.ref 80), some (.int x), some (.int 16)]) (st' := []) (h' := (n, sl, wKK kk, va_up (fmI I (nI (T + 1)) (upd (upd r81 T ((x >>> (24 &&& 31)) &&& 255)) (T + 1) ((x >>> (16 &&& 31)) &&& 255))) 80 (upd ((fmI I (nI (T + 1)) (upd (upd r81 T ((x >>> (24 &&& 31)) &&& 255)) (T + 1) ((x >>> (16 &&& 31)) &&& 255))) 80) 1 (nI (T + 2))), L, wQQ q)) 1 rfl ?_
  refine tv_hI fmI_w_ln ?_
  refine tv_b (pc' := 22) (ls' := [some (.ref 80), some (.int x), some (.int 8)]) (st' := [.int ((x >>> (8 &&& 31)) &&& 255), .int (nI (T + 2)), .ref 81]) (h' := (n, sl, wKK kk, (fmI I (nI (T + 2)) (upd (upd r81 T ((x >>> (24 &&& 31)) &&& 255)) (T + 1) ((x >>> (16 &&& 31)) &&& 255))), L, wQQ q)) 13 rfl ?_
  refine tv_iasN (k := (T + 2)) rfl (rfl) (⟨by omega, by omega⟩) ?_
  refine tv_hI fmI_w_r81 ?_
  refine tv_b (pc' := 29) (ls' := [some (.ref 80), some (.int x), some (.int 8)]) (st' := [.int 1, .int (nI (T + 2)), .ref 80]) (h' := (n, sl, wKK kk, (fmI I (nI (T + 2)) (upd (upd (upd r81 T ((x >>> (24 &&& 31)) &&& 255)) (T + 1) ((x >>> (16 &&& 31)) &&& 255)) (T + 2) ((x >>> (8 &&& 31)) &&& 255))), L, wQQ q)) 4 rfl ?_
  refine tv_b (pc' := 30) (ls' := [some (.ref 80), some (.int x), some (.int 8)]) (st' := [.int ((nI (T + 2)) + 1), .ref 80]) (h' := (n, sl, wKK kk, (fmI I (nI (T + 2)) (upd (upd (upd r81 T ((x >>> (24 &&& 31)) &&& 255)) (T + 1) ((x >>> (16 &&& 31)) &&& 255)) (T + 2) ((x >>> (8 &&& 31)) &&& 255))), L, wQQ q)) 1 rfl ?_
  refine tv_top (show (nI (T + 2)) + 1 = nI (T + 3) from nI_add (T + 2) 1) ?_
  refine tv_b (pc' := 33) (ls' := [some (.ref 80), some (.int x), some (.int 8)]) (st' := []) (h' := (n, sl, wKK kk, va_up (fmI I (nI (T + 2)) (upd (upd (upd r81 T ((x >>> (24 &&& 31)) &&& 255)) (T + 1) ((x >>> (16 &&& 31)) &&& 255)) (T + 2) ((x >>> (8 &&& 31)) &&& 255))) 80 (upd ((fmI I (nI (T + 2)) (upd (upd (upd r81 T ((x >>> (24 &&& 31)) &&& 255)) (T + 1) ((x >>> (16 &&& 31)) &&& 255)) (T + 2) ((x >>> (8 &&& 31)) &&& 255))) 80) 1 (nI (T + 3))), L, wQQ q)) 1 rfl ?_
  refine tv_hI fmI_w_ln ?_
  refine tv_b (pc' := 22) (ls' := [some (.ref 80), some (.int x), some (.int 0)]) (st' := [.int ((x >>> (0 &&& 31)) &&& 255), .int (nI (T + 3)), .ref 81]) (h' := (n, sl, wKK kk, (fmI I (nI (T + 3)) (upd (upd (upd r81 T ((x >>> (24 &&& 31)) &&& 255)) (T + 1) ((x >>> (16 &&& 31)) &&& 255)) (T + 2) ((x >>> (8 &&& 31)) &&& 255))), L, wQQ q)) 13 rfl ?_
  refine tv_iasN (k := (T + 3)) rfl (rfl) (⟨by omega, by omega⟩) ?_
  refine tv_hI fmI_w_r81 ?_
  refine tv_b (pc' := 29) (ls' := [some (.ref 80), some (.int x), some (.int 0)]) (st' := [.int 1, .int (nI (T + 3)), .ref 80]) (h' := (n, sl, wKK kk, (fmI I (nI (T + 3)) (upd (upd (upd (upd r81 T ((x >>> (24 &&& 31)) &&& 255)) (T + 1) ((x >>> (16 &&& 31)) &&& 255)) (T + 2) ((x >>> (8 &&& 31)) &&& 255)) (T + 3) ((x >>> (0 &&& 31)) &&& 255))), L, wQQ q)) 4 rfl ?_
  refine tv_b (pc' := 30) (ls' := [some (.ref 80), some (.int x), some (.int 0)]) (st' := [.int ((nI (T + 3)) + 1), .ref 80]) (h' := (n, sl, wKK kk, (fmI I (nI (T + 3)) (upd (upd (upd (upd r81 T ((x >>> (24 &&& 31)) &&& 255)) (T + 1) ((x >>> (16 &&& 31)) &&& 255)) (T + 2) ((x >>> (8 &&& 31)) &&& 255)) (T + 3) ((x >>> (0 &&& 31)) &&& 255))), L, wQQ q)) 1 rfl ?_
  refine tv_top (show (nI (T + 3)) + 1 = nI (T + 4) from nI_add (T + 3) 1) ?_
  refine tv_b (pc' := 33) (ls' := [some (.ref 80), some (.int x), some (.int 0)]) (st' := []) (h' := (n, sl, wKK kk, va_up (fmI I (nI (T + 3)) (upd (upd (upd (upd r81 T ((x >>> (24 &&& 31)) &&& 255)) (T + 1) ((x >>> (16 &&& 31)) &&& 255)) (T + 2) ((x >>> (8 &&& 31)) &&& 255)) (T + 3) ((x >>> (0 &&& 31)) &&& 255))) 80 (upd ((fmI I (nI (T + 3)) (upd (upd (upd (upd r81 T ((x >>> (24 &&& 31)) &&& 255)) (T + 1) ((x >>> (16 &&& 31)) &&& 255)) (T + 2) ((x >>> (8 &&& 31)) &&& 255)) (T + 3) ((x >>> (0 &&& 31)) &&& 255))) 80) 1 (nI (T + 4))), L, wQQ q)) 1 rfl ?_
  refine tv_hI fmI_w_ln ?_
  refine tv_b (pc' := 39) (ls' := [some (.ref 80), some (.int x), some (.int (-8))]) (st' := []) (h' := (n, sl, wKK kk, (fmI I (nI (T + 4)) (upd (upd (upd (upd r81 T ((x >>> (24 &&& 31)) &&& 255)) (T + 1) ((x >>> (16 &&& 31)) &&& 255)) (T + 2) ((x >>> (8 &&& 31)) &&& 255)) (T + 3) ((x >>> (0 &&& 31)) &&& 255))), L, wQQ q)) 4 rfl ?_
  exact tv_rv rfl ⟨rfl, rfl⟩
theorem ev_x_feed20 {d n sl : Nat} {kk : Nat → Nat × Nat} {I : Nat → Nat → Int32} {L : Nat → Nat → Int64} {q : Nat → Nat → Option Nat} {a b c e f : Int32} {T : Nat} {r58 : Nat → Int32} (hT : T + 20 ≤ 800) : am_Ev (d + 1) 109 0 (am_ent 6 [.ref 0, .int a, .int b, .int c, .int e, .int f]) [] (n, sl, wKK kk, (fxI I (nI T) r58), L, wQQ q) (some (.int (nI (T + 20))), (n, sl, wKK kk, (fxI I (nI (T + 20)) (xw4 (xw4 (xw4 (xw4 (xw4 r58 T a) (T + 4) b) (T + 8) c) (T + 12) e) (T + 16) f)), L, wQQ q)) := by
  refine tv_ev ?_
  have hroom : ¬ sp_r_hasRoom (fxI I (nI T) r58) L = 0 := by
    show ¬ (if (800 : Int32) < nI T + 20 then (0 : Int32) else 1) = 0
    rw [show nI T + 20 = nI (T + 20) from nI_add T 20, if_neg (show ¬ (800 : Int32) < nI (T + 20) from nI_notlt (a := 800) (by omega) (by omega))]
    decide
  show am_T _ _ 0 [some (.ref 0), some (.int a), some (.int b), some (.int c), some (.int e), some (.int f)] _ _ _
  refine tv_b (pc' := 4) (ls' := [some (.ref 0), some (.int a), some (.int b), some (.int c), some (.int e), some (.int f)]) (st' := [.ref 57]) (h' := (n, sl, wKK kk, (fxI I (nI T) r58), L, wQQ q)) 2 rfl ?_
  refine tv_cvE [] [] rfl rfl (by omega) rfl (Nat.le_of_ble_eq_true rfl) (Nat.le_of_ble_eq_true rfl) (Or.inr (Or.inr rfl)) (ev_r_hasRoom) ?_
  refine tv_b (pc' := (if (sp_r_hasRoom (fxI I (nI T) r58) L) = 0 then 10 else 12)) (ls' := [some (.ref 0), some (.int a), some (.int b), some (.int c), some (.int e), some (.int f)]) (st' := []) (h' := (n, sl, wKK kk, (fxI I (nI T) r58), L, wQQ q)) 1 rfl ?_
  refine tv_f (hroom) ?_
  refine tv_b (pc' := 17) (ls' := [some (.ref 0), some (.int a), some (.int b), some (.int c), some (.int e), some (.int f)]) (st' := [.int a, .ref 57]) (h' := (n, sl, wKK kk, (fxI I (nI T) r58), L, wQQ q)) 3 rfl ?_
  refine tv_cvE [.int a] [] rfl rfl (by omega) rfl (Nat.le_of_ble_eq_true rfl) (Nat.le_of_ble_eq_true rfl) (Or.inr (Or.inr rfl)) (ev_r_write4 (T := T) (by omega)) ?_
  refine tv_b (pc' := 25) (ls' := [some (.ref 0), some (.int a), some (.int b), some (.int c), some (.int e), some (.int f)]) (st' := [.int b, .ref 57]) (h' := (n, sl, wKK kk, (fxI I (nI (T + 4)) (xw4 r58 T a)), L, wQQ q)) 3 rfl ?_
  refine tv_cvE [.int b] [] rfl rfl (by omega) rfl (Nat.le_of_ble_eq_true rfl) (Nat.le_of_ble_eq_true rfl) (Or.inr (Or.inr rfl)) (ev_r_write4 (T := T + 4) (by omega)) ?_
  refine tv_b (pc' := 33) (ls' := [some (.ref 0), some (.int a), some (.int b), some (.int c), some (.int e), some (.int f)]) (st' := [.int c, .ref 57]) (h' := (n, sl, wKK kk, (fxI I (nI (T + 8)) (xw4 (xw4 r58 T a) (T + 4) b)), L, wQQ q)) 3 rfl ?_
  refine tv_cvE [.int c] [] rfl rfl (by omega) rfl (Nat.le_of_ble_eq_true rfl) (Nat.le_of_ble_eq_true rfl) (Or.inr (Or.inr rfl)) (ev_r_write4 (T := T + 8) (by omega)) ?_
  refine tv_b (pc' := 42) (ls' := [some (.ref 0), some (.int a), some (.int b), some (.int c), some (.int e), some (.int f)]) (st' := [.int e, .ref 57]) (h' := (n, sl, wKK kk, (fxI I (nI (T + 12)) (xw4 (xw4 (xw4 r58 T a) (T + 4) b) (T + 8) c)), L, wQQ q)) 3 rfl ?_
  refine tv_cvE [.int e] [] rfl rfl (by omega) rfl (Nat.le_of_ble_eq_true rfl) (Nat.le_of_ble_eq_true rfl) (Or.inr (Or.inr rfl)) (ev_r_write4 (T := T + 12) (by omega)) ?_
  refine tv_b (pc' := 51) (ls' := [some (.ref 0), some (.int a), some (.int b), some (.int c), some (.int e), some (.int f)]) (st' := [.int f, .ref 57]) (h' := (n, sl, wKK kk, (fxI I (nI (T + 16)) (xw4 (xw4 (xw4 (xw4 r58 T a) (T + 4) b) (T + 8) c) (T + 12) e)), L, wQQ q)) 3 rfl ?_
  refine tv_cvE [.int f] [] rfl rfl (by omega) rfl (Nat.le_of_ble_eq_true rfl) (Nat.le_of_ble_eq_true rfl) (Or.inr (Or.inr rfl)) (ev_r_write4 (T := T + 16) (by omega)) ?_
  refine tv_b (pc' := 58) (ls' := [some (.ref 0), some (.int a), some (.int b), some (.int c), some (.int e), some (.int f)]) (st' := [.ref 57]) (h' := (n, sl, wKK kk, (fxI I (nI (T + 20)) (xw4 (xw4 (xw4 (xw4 (xw4 r58 T a) (T + 4) b) (T + 8) c) (T + 12) e) (T + 16) f)), L, wQQ q)) 2 rfl ?_
  refine tv_cvE [] [] rfl rfl (by omega) rfl (Nat.le_of_ble_eq_true rfl) (Nat.le_of_ble_eq_true rfl) (Or.inr (Or.inr rfl)) (ev_r_size) ?_
  exact tv_ri rfl ⟨rfl, rfl⟩
theorem ev_m_feed20 {d n sl : Nat} {kk : Nat → Nat × Nat} {I : Nat → Nat → Int32} {L : Nat → Nat → Int64} {q : Nat → Nat → Option Nat} {a b c e f : Int32} {T : Nat} {r81 : Nat → Int32} (hT : T + 20 ≤ 800) : am_Ev (d + 1) 157 0 (am_ent 6 [.ref 80, .int a, .int b, .int c, .int e, .int f]) [] (n, sl, wKK kk, (fmI I (nI T) r81), L, wQQ q) (some (.int (nI (T + 20))), (n, sl, wKK kk, (fmI I (nI (T + 20)) (mw4 (mw4 (mw4 (mw4 (mw4 r81 T a) (T + 4) b) (T + 8) c) (T + 12) e) (T + 16) f)), L, wQQ q)) := by
  refine tv_ev ?_
  show am_T _ _ 0 [some (.ref 80), some (.int a), some (.int b), some (.int c), some (.int e), some (.int f)] _ _ _
  refine tv_b (pc' := 6) (ls' := [some (.ref 80), some (.int a), some (.int b), some (.int c), some (.int e), some (.int f)]) (st' := [.int 20, .int (nI T)]) (h' := (n, sl, wKK kk, (fmI I (nI T) r81), L, wQQ q)) 3 rfl ?_
  refine tv_b (pc' := 7) (ls' := [some (.ref 80), some (.int a), some (.int b), some (.int c), some (.int e), some (.int f)]) (st' := [.int ((nI T) + 20)]) (h' := (n, sl, wKK kk, (fmI I (nI T) r81), L, wQQ q)) 1 rfl ?_
  refine tv_top (show (nI T) + 20 = nI (T + 20) from nI_add T 20) ?_
  refine tv_b (pc' := (if (nI (T + 20)) ≤ 800 then 15 else 13)) (ls' := [some (.ref 80), some (.int a), some (.int b), some (.int c), some (.int e), some (.int f)]) (st' := []) (h' := (n, sl, wKK kk, (fmI I (nI T) r81), L, wQQ q)) 2 rfl ?_
  refine tv_t ((nI_leI (a := T + 20) (b := 800) (by omega) (by omega)).mpr (by omega)) ?_
  refine tv_b (pc' := 17) (ls' := [some (.ref 80), some (.int a), some (.int b), some (.int c), some (.int e), some (.int f)]) (st' := [.int a, .ref 80]) (h' := (n, sl, wKK kk, (fmI I (nI T) r81), L, wQQ q)) 2 rfl ?_
  refine tv_cvE [.int a] [] rfl rfl (by omega) rfl (Nat.le_of_ble_eq_true rfl) (Nat.le_of_ble_eq_true rfl) (Or.inr (Or.inr rfl)) (ev_m_put4 (T := T) (by omega)) ?_
  refine tv_b (pc' := 22) (ls' := [some (.ref 80), some (.int a), some (.int b), some (.int c), some (.int e), some (.int f)]) (st' := [.int b, .ref 80]) (h' := (n, sl, wKK kk, (fmI I (nI (T + 4)) (mw4 r81 T a)), L, wQQ q)) 2 rfl ?_
  refine tv_cvE [.int b] [] rfl rfl (by omega) rfl (Nat.le_of_ble_eq_true rfl) (Nat.le_of_ble_eq_true rfl) (Or.inr (Or.inr rfl)) (ev_m_put4 (T := T + 4) (by omega)) ?_
  refine tv_b (pc' := 27) (ls' := [some (.ref 80), some (.int a), some (.int b), some (.int c), some (.int e), some (.int f)]) (st' := [.int c, .ref 80]) (h' := (n, sl, wKK kk, (fmI I (nI (T + 8)) (mw4 (mw4 r81 T a) (T + 4) b)), L, wQQ q)) 2 rfl ?_
  refine tv_cvE [.int c] [] rfl rfl (by omega) rfl (Nat.le_of_ble_eq_true rfl) (Nat.le_of_ble_eq_true rfl) (Or.inr (Or.inr rfl)) (ev_m_put4 (T := T + 8) (by omega)) ?_
  refine tv_b (pc' := 33) (ls' := [some (.ref 80), some (.int a), some (.int b), some (.int c), some (.int e), some (.int f)]) (st' := [.int e, .ref 80]) (h' := (n, sl, wKK kk, (fmI I (nI (T + 12)) (mw4 (mw4 (mw4 r81 T a) (T + 4) b) (T + 8) c)), L, wQQ q)) 2 rfl ?_
  refine tv_cvE [.int e] [] rfl rfl (by omega) rfl (Nat.le_of_ble_eq_true rfl) (Nat.le_of_ble_eq_true rfl) (Or.inr (Or.inr rfl)) (ev_m_put4 (T := T + 12) (by omega)) ?_
  refine tv_b (pc' := 39) (ls' := [some (.ref 80), some (.int a), some (.int b), some (.int c), some (.int e), some (.int f)]) (st' := [.int f, .ref 80]) (h' := (n, sl, wKK kk, (fmI I (nI (T + 16)) (mw4 (mw4 (mw4 (mw4 r81 T a) (T + 4) b) (T + 8) c) (T + 12) e)), L, wQQ q)) 2 rfl ?_
  refine tv_cvE [.int f] [] rfl rfl (by omega) rfl (Nat.le_of_ble_eq_true rfl) (Nat.le_of_ble_eq_true rfl) (Or.inr (Or.inr rfl)) (ev_m_put4 (T := T + 16) (by omega)) ?_
  refine tv_b (pc' := 46) (ls' := [some (.ref 80), some (.int a), some (.int b), some (.int c), some (.int e), some (.int f)]) (st' := [.int (nI (T + 20))]) (h' := (n, sl, wKK kk, (fmI I (nI (T + 20)) (mw4 (mw4 (mw4 (mw4 (mw4 r81 T a) (T + 4) b) (T + 8) c) (T + 12) e) (T + 16) f)), L, wQQ q)) 2 rfl ?_
  exact tv_ri rfl ⟨rfl, rfl⟩
theorem ev_x_feedO {d n sl : Nat} {kk : Nat → Nat × Nat} {I : Nat → Nat → Int32} {L : Nat → Nat → Int64} {q : Nat → Nat → Option Nat} {a b c e f : Int32} {T : Nat} (hT : I 57 1 = nI T) (hT2 : 800 < T + 20) (hT8 : T ≤ 800) : am_Ev (d + 1) 109 0 (am_ent 6 [.ref 0, .int a, .int b, .int c, .int e, .int f]) [] (n, sl, wKK kk, I, L, wQQ q) (some (.int (-1)), (n, sl, wKK kk, I, L, wQQ q)) := by
  refine tv_ev ?_
  have hroom : sp_r_hasRoom I L = 0 := by
    unfold sp_r_hasRoom
    rw [hT, show nI T + 20 = nI (T + 20) from nI_add T 20, if_pos (show (800 : Int32) < nI (T + 20) from nI_lt (a := 800) hT2 (by omega))]
  show am_T _ _ 0 [some (.ref 0), some (.int a), some (.int b), some (.int c), some (.int e), some (.int f)] _ _ _
  refine tv_b (pc' := 4) (ls' := [some (.ref 0), some (.int a), some (.int b), some (.int c), some (.int e), some (.int f)]) (st' := [.ref 57]) (h' := (n, sl, wKK kk, I, L, wQQ q)) 2 rfl ?_
  refine tv_cvE [] [] rfl rfl (by omega) rfl (Nat.le_of_ble_eq_true rfl) (Nat.le_of_ble_eq_true rfl) (Or.inr (Or.inr rfl)) (ev_r_hasRoom) ?_
  refine tv_b (pc' := (if (sp_r_hasRoom I L) = 0 then 10 else 12)) (ls' := [some (.ref 0), some (.int a), some (.int b), some (.int c), some (.int e), some (.int f)]) (st' := []) (h' := (n, sl, wKK kk, I, L, wQQ q)) 1 rfl ?_
  refine tv_t (hroom) ?_
  refine tv_b (pc' := 11) (ls' := [some (.ref 0), some (.int a), some (.int b), some (.int c), some (.int e), some (.int f)]) (st' := [.int (-1)]) (h' := (n, sl, wKK kk, I, L, wQQ q)) 1 rfl ?_
  exact tv_ri rfl ⟨rfl, rfl⟩
theorem ev_m_feedO {d n sl : Nat} {kk : Nat → Nat × Nat} {I : Nat → Nat → Int32} {L : Nat → Nat → Int64} {q : Nat → Nat → Option Nat} {a b c e f : Int32} {T : Nat} (hT : I 80 1 = nI T) (hT2 : 800 < T + 20) (hT8 : T ≤ 800) : am_Ev (d + 1) 157 0 (am_ent 6 [.ref 80, .int a, .int b, .int c, .int e, .int f]) [] (n, sl, wKK kk, I, L, wQQ q) (some (.int (-1)), (n, sl, wKK kk, I, L, wQQ q)) := by
  refine tv_ev ?_
  show am_T _ _ 0 [some (.ref 80), some (.int a), some (.int b), some (.int c), some (.int e), some (.int f)] _ _ _
  refine tv_b (pc' := 4) (ls' := [some (.ref 80), some (.int a), some (.int b), some (.int c), some (.int e), some (.int f)]) (st' := [.int (I 80 1)]) (h' := (n, sl, wKK kk, I, L, wQQ q)) 2 rfl ?_
  refine tv_top (hT) ?_
  refine tv_b (pc' := 6) (ls' := [some (.ref 80), some (.int a), some (.int b), some (.int c), some (.int e), some (.int f)]) (st' := [.int 20, .int (nI T)]) (h' := (n, sl, wKK kk, I, L, wQQ q)) 1 rfl ?_
  refine tv_b (pc' := 7) (ls' := [some (.ref 80), some (.int a), some (.int b), some (.int c), some (.int e), some (.int f)]) (st' := [.int ((nI T) + 20)]) (h' := (n, sl, wKK kk, I, L, wQQ q)) 1 rfl ?_
  refine tv_top (show (nI T) + 20 = nI (T + 20) from nI_add T 20) ?_
  refine tv_b (pc' := (if (nI (T + 20)) ≤ 800 then 15 else 13)) (ls' := [some (.ref 80), some (.int a), some (.int b), some (.int c), some (.int e), some (.int f)]) (st' := []) (h' := (n, sl, wKK kk, I, L, wQQ q)) 2 rfl ?_
  refine tv_f (fun hq => absurd ((nI_leI (a := T + 20) (b := 800) (by omega) (by omega)).mp hq) (by omega)) ?_
  refine tv_b (pc' := 14) (ls' := [some (.ref 80), some (.int a), some (.int b), some (.int c), some (.int e), some (.int f)]) (st' := [.int (-1)]) (h' := (n, sl, wKK kk, I, L, wQQ q)) 1 rfl ?_
  exact tv_ri rfl ⟨rfl, rfl⟩
theorem fxI_o {I : Nat → Nat → Int32} {a : Int32} {r : Nat → Int32} {j : Nat} (h1 : j ≠ 57) (h2 : j ≠ 58) : fxI I a r j = I j := by
  funext i
  unfold fxI
  rw [fxI_nb h1, fxI_nb h2]
  rfl
theorem fxI_5 {I : Nat → Nat → Int32} {a : Int32} {r : Nat → Int32} {k : Nat} (h1 : k ≠ 1) : fxI I a r 57 k = I 57 k := by
  show cond (Nat.beq k 1) a (I 57 k) = _
  rw [fxI_nb h1]
  rfl
theorem fmI_o {I : Nat → Nat → Int32} {a : Int32} {r : Nat → Int32} {j : Nat} (h1 : j ≠ 80) (h2 : j ≠ 81) : fmI I a r j = I j := by
  funext i
  unfold fmI
  rw [fmI_nb h1, fmI_nb h2]
  rfl
theorem fmI_8 {I : Nat → Nat → Int32} {a : Int32} {r : Nat → Int32} {k : Nat} (h1 : k ≠ 1) : fmI I a r 80 k = I 80 k := by
  show cond (Nat.beq k 1) a (I 80 k) = _
  rw [fmI_nb h1]
  rfl
theorem jx_feed {a b c e f : Int32} : jx 109 (am_ent 6 [.ref 0, .int a, .int b, .int c, .int e, .int f]) 157 (am_ent 6 [.ref 80, .int a, .int b, .int c, .int e, .int f]) := by
  rintro k h hk ⟨n, sl, kk, I, L, q, rfl, C, ah, M, tx, T, g, hr, ht, hu, hs, hc, hj, hn, hsl⟩
  have same := h_same (q := q) hk g hr ht hu hs hc hj hn hsl
  obtain ⟨⟨t1, t8, t3⟩, r2, r3, r4, r5, r6⟩ := hr
  by_cases hT : T + 20 ≤ 800
  · refine tv_hI fx_self ?_
    rw [t1]
    have e1 := ev_x_feed20 (d := 0) (n := n) (sl := sl) (kk := kk) (I := I) (L := L) (q := q) (a := a) (b := b) (c := c) (e := e) (f := f) (r58 := I 58) hT
    obtain ⟨tx', htp⟩ : ∃ tx', tp tx' (xw4 (xw4 (xw4 (xw4 (xw4 (I 58) T a) (T + 4) b) (T + 8) c) (T + 12) e) (T + 16) f) (mw4 (mw4 (mw4 (mw4 (mw4 (I 81) T a) (T + 4) b) (T + 8) c) (T + 12) e) (T + 16) f) (T + 20) := by
      have h0 : tp tx (I 58) (I 81) T := fun i hi => ⟨(t3 i hi).1, (t3 i hi).2, r4 i hi⟩
      obtain ⟨x1, h1⟩ := tp_4 h0 a
      obtain ⟨x2, h2⟩ := tp_4 h1 b
      obtain ⟨x3, h3⟩ := tp_4 h2 c
      obtain ⟨x4, h4⟩ := tp_4 h3 e
      exact tp_4 h4 f
    generalize (xw4 (xw4 (xw4 (xw4 (xw4 (I 58) T a) (T + 4) b) (T + 8) c) (T + 12) e) (T + 16) f) = R58 at e1 htp
    have j81 : fxI I (nI (T + 20)) R58 81 = I 81 := fxI_o (by decide) (by decide)
    have j80 : fxI I (nI (T + 20)) R58 80 1 = nI T := by rw [fxI_o (by decide) (by decide)]; exact r3
    have e2 := ev_m_feed20 (d := 0) (n := n) (sl := sl) (kk := kk) (I := fxI I (nI (T + 20)) R58) (L := L) (q := q) (a := a) (b := b) (c := c) (e := e) (f := f) (r81 := I 81) hT
    generalize (mw4 (mw4 (mw4 (mw4 (mw4 (I 81) T a) (T + 4) b) (T + 8) c) (T + 12) e) (T + 16) f) = R81 at e2 htp
    refine tv_e (ev_up (d := 1) (by decide) e1) ⟨_, Or.inl ⟨_, rfl⟩, rfl, ?_⟩
    refine tv_hI fm_self ?_
    rw [j80, j81]
    refine tv_e (ev_up (d := 1) (by decide) e2) ⟨rfl, ?_⟩
    have lo : ∀ j, (j ≠ 57 ∧ j ≠ 58 ∧ j ≠ 80 ∧ j ≠ 81) → fmI (fxI I (nI (T + 20)) R58) (nI (T + 20)) R81 j = I j := fun j hj => by rw [fmI_o hj.2.2.1 hj.2.2.2, fxI_o hj.1 hj.2.1]
    have l5 : ∀ i, i ≠ 1 → fmI (fxI I (nI (T + 20)) R58) (nI (T + 20)) R81 57 i = I 57 i := fun i hi => by rw [fmI_o (by decide) (by decide), fxI_5 hi]
    have l8 : ∀ i, i ≠ 1 → fmI (fxI I (nI (T + 20)) R58) (nI (T + 20)) R81 80 i = I 80 i := fun i hi => by rw [fmI_8 hi, fxI_o (by decide) (by decide)]
    have m1 : fmI (fxI I (nI (T + 20)) R58) (nI (T + 20)) R81 57 1 = nI (T + 20) := by rw [fmI_o (by decide) (by decide)]; rfl
    have m2 : fmI (fxI I (nI (T + 20)) R58) (nI (T + 20)) R81 80 1 = nI (T + 20) := rfl
    have m3 : fmI (fxI I (nI (T + 20)) R58) (nI (T + 20)) R81 58 = R58 := by rw [fmI_o (by decide) (by decide)]; rfl
    have m4 : fmI (fxI I (nI (T + 20)) R58) (nI (T + 20)) R81 81 = R81 := rfl
    generalize fmI (fxI I (nI (T + 20)) R58) (nI (T + 20)) R81 = J at lo l5 l8 m1 m2 m3 m4 ⊢
    have tf : tFr I J := ⟨fun j hj => lo j (by omega), l8 45 (by decide), l8 46 (by decide)⟩
    have h6 : rT6 I J := ⟨(lo 94 (by decide)).symm, (lo 95 (by decide)).symm, (lo 96 (by decide)).symm, (lo 97 (by decide)).symm⟩
    have hwz : ∀ d, watZ I d = watZ J d := fun d => by unfold watZ; rw [lo 100 (by decide), lo 101 (by decide)]
    have gg : gInv n kk q J L C ah M := gInv_t g tf (by
      unfold wfT
      rw [lo 94 (by decide), lo 95 (by decide), lo 96 (by decide), lo 97 (by decide), lo 98 (by decide), lo 99 (by decide), lo 100 (by decide)]
      exact g.1) (by
      unfold cTow
      rw [lo 8 (by decide), lo 9 (by decide), lo 10 (by decide), lo 11 (by decide), lo 12 (by decide), lo 14 (by decide), lo 94 (by decide), lo 95 (by decide), lo 96 (by decide), lo 97 (by decide), lo 98 (by decide), lo 99 (by decide)]
      exact g.2.2.1.1) (by
      unfold cWet
      rw [lo 2 (by decide), lo 100 (by decide), lo 101 (by decide)]
      exact g.2.2.1.2.1) (cDay_t tf g.2.2.1.2.2.2.2 (A := 400) (by decide) (fun R z1 z2 => by rw [lo 13 (by decide), Nat.min_eq_left z2]; exact z1) (fun _ => h6) (fun d z => hwz d))
    exact ⟨n, sl, kk, J, L, q, rfl, C, ah, M, tx', T + 20, gg, ⟨⟨m1, by omega, fun i hi => by rw [m3]; exact ⟨(htp i hi).1, (htp i hi).2.1⟩⟩, fun w hw => by rw [lo (am_B + 1 + w) (by unfold am_B; omega)]; exact r2 w hw, m2, fun i hi => by rw [m4]; exact (htp i hi).2.2, by rw [l5 12 (by decide), l8 10 (by decide)]; exact r5, by rw [l5 13 (by decide), l8 11 (by decide)]; exact r6⟩, (by unfold tInv; rw [lo 3 (by decide), lo 5 (by decide), lo 6 (by decide), lo 101 (by decide), lo 102 (by decide), lo 103 (by decide)]; exact ht), (by unfold uInv; rw [lo 65 (by decide), lo 66 (by decide), lo 67 (by decide), lo 104 (by decide), lo 105 (by decide), lo 106 (by decide)]; exact hu), (by unfold sInv; rw [l8 68 (by decide), lo 71 (by decide), lo 72 (by decide), lo 73 (by decide), lo 75 (by decide), lo 121 (by decide), lo 122 (by decide), lo 124 (by decide)]; exact hs), (by unfold cInv; rw [l8 71 (by decide), lo 77 (by decide), lo 78 (by decide), lo 79 (by decide), lo 125 (by decide), lo 126 (by decide)]; exact hc), (by rw [show 201 * (k + 1) = 201 * k + 201 by omega]; exact (jInv_t (by omega) hj g.2.1 g.2.2.1.2.2.1.2.1 tf h6 (fun d _ => hwz d) (by rw [lo 13 (by decide)]) (lo 60 (by decide)) (lo 63 (by decide)))), by omega, sl_up hsl (by omega)⟩
  · exact jx_e (d1 := 1) (d2 := 1) (by decide) (by decide) (ev_x_feedO (d := 0) t1 (by omega) t8) (ev_m_feedO (d := 0) r3 (by omega) t8) same
