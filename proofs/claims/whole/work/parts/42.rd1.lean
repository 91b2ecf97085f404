/-! THE CLASS'S READER: bytes and tokens -/
def pa_by (x : Nat) : Int32 := if x < 128 then nI x else nI x - 256
def rdH (tx : Nat → Nat) (T : Nat) (I : Nat → Nat → Int32) : Prop := I 57 1 = nI T ∧ T ≤ 800 ∧ ∀ i, i < T → tx i < 256 ∧ I 58 i = pa_by (tx i)
theorem pa_by_lt : ∀ x, x < 256 → ((¬ pa_by x < 97 ∧ ¬ 122 < pa_by x) ↔ pa_lt x = true) := by decide +kernel
theorem pa_by_dg : ∀ x, x < 256 → ((¬ pa_by x < 48 ∧ ¬ 57 < pa_by x) ↔ pa_dg x = true) := by decide +kernel
theorem pa_by_bl : ∀ x, x < 256 → ((pa_by x = 10 ∨ pa_by x = 32) ↔ pa_bl x = true) := by decide +kernel
theorem tv_ev {d mi pc : Nat} {ls : am_L} {st : List Value} {h h0 : am_H} {rv0 : Option Value} (k : am_T d mi pc ls st h (fun rv h' => rv = rv0 ∧ h' = h0)) : am_Ev d mi pc ls st h (rv0, h0) := by
  obtain ⟨rv, h', e, rfl, rfl⟩ := k
  exact e
theorem nI_eq0 {a b : Nat} (ha : a < 2 ^ 31) (hb : b < 2 ^ 31) : nI a = nI b ↔ a = b := by
  constructor
  · intro h
    have := congrArg Int32.toNatClampNeg h
    rwa [nI_clamp ha, nI_clamp hb] at this
  · intro h; rw [h]
theorem ev_r_isLetter {d n sl : Nat} {kk : Nat → Nat × Nat} {I : Nat → Nat → Int32} {L : Nat → Nat → Int64} {q : Nat → Nat → Option Nat} {tx : Nat → Nat} {T : Nat} {i : Nat} (hH : rdH tx T I) (hi : i < 1000000) : am_Ev d 87 0 (am_ent 2 [.ref 57, .int (nI i)]) [] (n, sl, wKK kk, I, L, wQQ q) (some (.int (if i < T ∧ pa_lt (tx i) = true then 1 else 0)), (n, sl, wKK kk, I, L, wQQ q)) := by
  have hT := hH.2.1
  refine tv_ev ?_
  show am_T _ _ 0 [some (.ref 57), some (.int (nI i))] _ _ _
  refine tv_b (pc' := (if (nI i) < 0 then 38 else 4)) (ls' := [some (.ref 57), some (.int (nI i))]) (st' := []) (h' := (n, sl, wKK kk, I, L, wQQ q)) 2 rfl ?_
  refine tv_f (fun hq => absurd ((nI_ltI (a := i) (b := 0) (by omega) (by omega)).mp hq) (by omega)) ?_
  refine tv_b (pc' := 9) (ls' := [some (.ref 57), some (.int (nI i))]) (st' := [.int (I 57 1), .int (nI i)]) (h' := (n, sl, wKK kk, I, L, wQQ q)) 3 rfl ?_
  refine tv_top (hH.1) ?_
  refine tv_b (pc' := (if (nI T) ≤ (nI i) then 38 else 12)) (ls' := [some (.ref 57), some (.int (nI i))]) (st' := []) (h' := (n, sl, wKK kk, I, L, wQQ q)) 1 rfl ?_
  refine tv_ifq (nI_leI (a := T) (b := i) (by omega) (by omega)) (fun c9 => ?_) (fun c9 => ?_)
  · refine tv_b (pc' := 39) (ls' := [some (.ref 57), some (.int (nI i))]) (st' := [.int 0]) (h' := (n, sl, wKK kk, I, L, wQQ q)) 1 rfl ?_
    exact tv_rz rfl (Or.inl rfl) ⟨by rw [if_neg (by rintro ⟨h, _⟩; omega)], rfl⟩
  · refine tv_b (pc' := 17) (ls' := [some (.ref 57), some (.int (nI i))]) (st' := [.int (nI i), .ref 58]) (h' := (n, sl, wKK kk, I, L, wQQ q)) 3 rfl ?_
    refine tv_balN (k := i) rfl (rfl) (⟨by first | exact Or.inl rfl | exact Or.inr rfl, by omega, by omega⟩) ?_
    refine tv_top ((hH.2.2 i (by omega)).2) ?_
    refine tv_b (pc' := (if (pa_by (tx i)) < 97 then 38 else 23)) (ls' := [some (.ref 57), some (.int (nI i))]) (st' := []) (h' := (n, sl, wKK kk, I, L, wQQ q)) 2 rfl ?_
    refine tv_if (fun c20 => ?_) (fun c20 => ?_)
    · refine tv_b (pc' := 39) (ls' := [some (.ref 57), some (.int (nI i))]) (st' := [.int 0]) (h' := (n, sl, wKK kk, I, L, wQQ q)) 1 rfl ?_
      exact tv_rz rfl (Or.inl rfl) ⟨by rw [if_neg (fun h => ((pa_by_lt _ (hH.2.2 i (by omega)).1).mpr h.2).1 c20)], rfl⟩
    · refine tv_b (pc' := 28) (ls' := [some (.ref 57), some (.int (nI i))]) (st' := [.int (nI i), .ref 58]) (h' := (n, sl, wKK kk, I, L, wQQ q)) 3 rfl ?_
      refine tv_balN (k := i) rfl (rfl) (⟨by first | exact Or.inl rfl | exact Or.inr rfl, by omega, by omega⟩) ?_
      refine tv_top ((hH.2.2 i (by omega)).2) ?_
      refine tv_b (pc' := (if 122 < (pa_by (tx i)) then 38 else 34)) (ls' := [some (.ref 57), some (.int (nI i))]) (st' := []) (h' := (n, sl, wKK kk, I, L, wQQ q)) 2 rfl ?_
      refine tv_if (fun c31 => ?_) (fun c31 => ?_)
      · refine tv_b (pc' := 39) (ls' := [some (.ref 57), some (.int (nI i))]) (st' := [.int 0]) (h' := (n, sl, wKK kk, I, L, wQQ q)) 1 rfl ?_
        exact tv_rz rfl (Or.inl rfl) ⟨by rw [if_neg (fun h => ((pa_by_lt _ (hH.2.2 i (by omega)).1).mpr h.2).2 c31)], rfl⟩
      · refine tv_b (pc' := 39) (ls' := [some (.ref 57), some (.int (nI i))]) (st' := [.int 1]) (h' := (n, sl, wKK kk, I, L, wQQ q)) 2 rfl ?_
        exact tv_rz rfl (Or.inr rfl) ⟨by rw [if_pos ⟨by omega, (pa_by_lt _ (hH.2.2 i (by omega)).1).mp ⟨c20, c31⟩⟩], rfl⟩
theorem ev_r_isLetterM {d n sl : Nat} {kk : Nat → Nat × Nat} {I : Nat → Nat → Int32} {L : Nat → Nat → Int64} {q : Nat → Nat → Option Nat} {tx : Nat → Nat} {T : Nat} : am_Ev d 87 0 (am_ent 2 [.ref 57, .int (-1)]) [] (n, sl, wKK kk, I, L, wQQ q) (some (.int 0), (n, sl, wKK kk, I, L, wQQ q)) := by
  refine tv_ev ?_
  show am_T _ _ 0 [some (.ref 57), some (.int (-1))] _ _ _
  refine tv_b (pc' := 39) (ls' := [some (.ref 57), some (.int (-1))]) (st' := [.int 0]) (h' := (n, sl, wKK kk, I, L, wQQ q)) 3 rfl ?_
  exact tv_rz rfl (Or.inl rfl) ⟨rfl, rfl⟩
theorem ev_r_isDigit {d n sl : Nat} {kk : Nat → Nat × Nat} {I : Nat → Nat → Int32} {L : Nat → Nat → Int64} {q : Nat → Nat → Option Nat} {tx : Nat → Nat} {T : Nat} {i : Nat} (hH : rdH tx T I) (hi : i < 1000000) : am_Ev d 88 0 (am_ent 2 [.ref 57, .int (nI i)]) [] (n, sl, wKK kk, I, L, wQQ q) (some (.int (if i < T ∧ pa_dg (tx i) = true then 1 else 0)), (n, sl, wKK kk, I, L, wQQ q)) := by
  have hT := hH.2.1
  refine tv_ev ?_
  show am_T _ _ 0 [some (.ref 57), some (.int (nI i))] _ _ _
  refine tv_b (pc' := (if (nI i) < 0 then 38 else 4)) (ls' := [some (.ref 57), some (.int (nI i))]) (st' := []) (h' := (n, sl, wKK kk, I, L, wQQ q)) 2 rfl ?_
  refine tv_f (fun hq => absurd ((nI_ltI (a := i) (b := 0) (by omega) (by omega)).mp hq) (by omega)) ?_
  refine tv_b (pc' := 9) (ls' := [some (.ref 57), some (.int (nI i))]) (st' := [.int (I 57 1), .int (nI i)]) (h' := (n, sl, wKK kk, I, L, wQQ q)) 3 rfl ?_
  refine tv_top (hH.1) ?_
  refine tv_b (pc' := (if (nI T) ≤ (nI i) then 38 else 12)) (ls' := [some (.ref 57), some (.int (nI i))]) (st' := []) (h' := (n, sl, wKK kk, I, L, wQQ q)) 1 rfl ?_
  refine tv_ifq (nI_leI (a := T) (b := i) (by omega) (by omega)) (fun c9 => ?_) (fun c9 => ?_)
  · refine tv_b (pc' := 39) (ls' := [some (.ref 57), some (.int (nI i))]) (st' := [.int 0]) (h' := (n, sl, wKK kk, I, L, wQQ q)) 1 rfl ?_
    exact tv_rz rfl (Or.inl rfl) ⟨by rw [if_neg (by rintro ⟨h, _⟩; omega)], rfl⟩
  · refine tv_b (pc' := 17) (ls' := [some (.ref 57), some (.int (nI i))]) (st' := [.int (nI i), .ref 58]) (h' := (n, sl, wKK kk, I, L, wQQ q)) 3 rfl ?_
    refine tv_balN (k := i) rfl (rfl) (⟨by first | exact Or.inl rfl | exact Or.inr rfl, by omega, by omega⟩) ?_
    refine tv_top ((hH.2.2 i (by omega)).2) ?_
    refine tv_b (pc' := (if (pa_by (tx i)) < 48 then 38 else 23)) (ls' := [some (.ref 57), some (.int (nI i))]) (st' := []) (h' := (n, sl, wKK kk, I, L, wQQ q)) 2 rfl ?_
    refine tv_if (fun c20 => ?_) (fun c20 => ?_)
    · refine tv_b (pc' := 39) (ls' := [some (.ref 57), some (.int (nI i))]) (st' := [.int 0]) (h' := (n, sl, wKK kk, I, L, wQQ q)) 1 rfl ?_
      exact tv_rz rfl (Or.inl rfl) ⟨by rw [if_neg (fun h => ((pa_by_dg _ (hH.2.2 i (by omega)).1).mpr h.2).1 c20)], rfl⟩
    · refine tv_b (pc' := 28) (ls' := [some (.ref 57), some (.int (nI i))]) (st' := [.int (nI i), .ref 58]) (h' := (n, sl, wKK kk, I, L, wQQ q)) 3 rfl ?_
      refine tv_balN (k := i) rfl (rfl) (⟨by first | exact Or.inl rfl | exact Or.inr rfl, by omega, by omega⟩) ?_
      refine tv_top ((hH.2.2 i (by omega)).2) ?_
      refine tv_b (pc' := (if 57 < (pa_by (tx i)) then 38 else 34)) (ls' := [some (.ref 57), some (.int (nI i))]) (st' := []) (h' := (n, sl, wKK kk, I, L, wQQ q)) 2 rfl ?_
      refine tv_if (fun c31 => ?_) (fun c31 => ?_)
      · refine tv_b (pc' := 39) (ls' := [some (.ref 57), some (.int (nI i))]) (st' := [.int 0]) (h' := (n, sl, wKK kk, I, L, wQQ q)) 1 rfl ?_
        exact tv_rz rfl (Or.inl rfl) ⟨by rw [if_neg (fun h => ((pa_by_dg _ (hH.2.2 i (by omega)).1).mpr h.2).2 c31)], rfl⟩
      · refine tv_b (pc' := 39) (ls' := [some (.ref 57), some (.int (nI i))]) (st' := [.int 1]) (h' := (n, sl, wKK kk, I, L, wQQ q)) 2 rfl ?_
        exact tv_rz rfl (Or.inr rfl) ⟨by rw [if_pos ⟨by omega, (pa_by_dg _ (hH.2.2 i (by omega)).1).mp ⟨c20, c31⟩⟩], rfl⟩
theorem ev_r_isDigitM {d n sl : Nat} {kk : Nat → Nat × Nat} {I : Nat → Nat → Int32} {L : Nat → Nat → Int64} {q : Nat → Nat → Option Nat} {tx : Nat → Nat} {T : Nat} : am_Ev d 88 0 (am_ent 2 [.ref 57, .int (-1)]) [] (n, sl, wKK kk, I, L, wQQ q) (some (.int 0), (n, sl, wKK kk, I, L, wQQ q)) := by
  refine tv_ev ?_
  show am_T _ _ 0 [some (.ref 57), some (.int (-1))] _ _ _
  refine tv_b (pc' := 39) (ls' := [some (.ref 57), some (.int (-1))]) (st' := [.int 0]) (h' := (n, sl, wKK kk, I, L, wQQ q)) 3 rfl ?_
  exact tv_rz rfl (Or.inl rfl) ⟨rfl, rfl⟩
def rdI (I : Nat → Nat → Int32) (xs xw xt xm xg xf xl xc : Int32) (cd : Nat → Int32) (j i : Nat) : Int32 := cond (Nat.beq j 57) (cond (Nat.beq i 8) xs (cond (Nat.beq i 9) xw (cond (Nat.beq i 7) xt (cond (Nat.beq i 10) xm (cond (Nat.beq i 11) xg (cond (Nat.beq i 12) xf (cond (Nat.beq i 13) xl (cond (Nat.beq i 15) xc (I 57 i))))))))) (cond (Nat.beq j 59) (cd i) (I j i))
theorem rdI_nb : ∀ {i k : Nat}, ¬ i = k → Nat.beq i k = false := fun h => Bool.eq_false_iff.mpr (fun q => h (Nat.eq_of_beq_eq_true q))
theorem rdI_w_xs {I : Nat → Nat → Int32} {xs xw xt xm xg xf xl xc : Int32} {cd : Nat → Int32} {y : Int32} : va_up (rdI I xs xw xt xm xg xf xl xc cd) 57 (upd ((rdI I xs xw xt xm xg xf xl xc cd) 57) 8 y) = rdI I y xw xt xm xg xf xl xc cd := by
  funext j i
  unfold va_up upd
  by_cases hj : j = 57
  · subst hj
    by_cases hi : i = 8
    · subst hi; rfl
    · rw [if_pos rfl, if_neg hi]; unfold rdI; simp only [rdI_nb hi, cond_false]
  · rw [if_neg hj]; unfold rdI; simp only [rdI_nb hj, cond_false]
theorem rdI_w_xw {I : Nat → Nat → Int32} {xs xw xt xm xg xf xl xc : Int32} {cd : Nat → Int32} {y : Int32} : va_up (rdI I xs xw xt xm xg xf xl xc cd) 57 (upd ((rdI I xs xw xt xm xg xf xl xc cd) 57) 9 y) = rdI I xs y xt xm xg xf xl xc cd := by
  funext j i
  unfold va_up upd
  by_cases hj : j = 57
  · subst hj
    by_cases hi : i = 9
    · subst hi; rfl
    · rw [if_pos rfl, if_neg hi]; unfold rdI; simp only [rdI_nb hi, cond_false]
  · rw [if_neg hj]; unfold rdI; simp only [rdI_nb hj, cond_false]
theorem rdI_w_xt {I : Nat → Nat → Int32} {xs xw xt xm xg xf xl xc : Int32} {cd : Nat → Int32} {y : Int32} : va_up (rdI I xs xw xt xm xg xf xl xc cd) 57 (upd ((rdI I xs xw xt xm xg xf xl xc cd) 57) 7 y) = rdI I xs xw y xm xg xf xl xc cd := by
  funext j i
  unfold va_up upd
  by_cases hj : j = 57
  · subst hj
    by_cases hi : i = 7
    · subst hi; rfl
    · rw [if_pos rfl, if_neg hi]; unfold rdI; simp only [rdI_nb hi, cond_false]
  · rw [if_neg hj]; unfold rdI; simp only [rdI_nb hj, cond_false]
theorem rdI_w_xm {I : Nat → Nat → Int32} {xs xw xt xm xg xf xl xc : Int32} {cd : Nat → Int32} {y : Int32} : va_up (rdI I xs xw xt xm xg xf xl xc cd) 57 (upd ((rdI I xs xw xt xm xg xf xl xc cd) 57) 10 y) = rdI I xs xw xt y xg xf xl xc cd := by
  funext j i
  unfold va_up upd
  by_cases hj : j = 57
  · subst hj
    by_cases hi : i = 10
    · subst hi; rfl
    · rw [if_pos rfl, if_neg hi]; unfold rdI; simp only [rdI_nb hi, cond_false]
  · rw [if_neg hj]; unfold rdI; simp only [rdI_nb hj, cond_false]
theorem rdI_w_xg {I : Nat → Nat → Int32} {xs xw xt xm xg xf xl xc : Int32} {cd : Nat → Int32} {y : Int32} : va_up (rdI I xs xw xt xm xg xf xl xc cd) 57 (upd ((rdI I xs xw xt xm xg xf xl xc cd) 57) 11 y) = rdI I xs xw xt xm y xf xl xc cd := by
  funext j i
  unfold va_up upd
  by_cases hj : j = 57
  · subst hj
    by_cases hi : i = 11
    · subst hi; rfl
    · rw [if_pos rfl, if_neg hi]; unfold rdI; simp only [rdI_nb hi, cond_false]
  · rw [if_neg hj]; unfold rdI; simp only [rdI_nb hj, cond_false]
theorem rdI_w_xf {I : Nat → Nat → Int32} {xs xw xt xm xg xf xl xc : Int32} {cd : Nat → Int32} {y : Int32} : va_up (rdI I xs xw xt xm xg xf xl xc cd) 57 (upd ((rdI I xs xw xt xm xg xf xl xc cd) 57) 12 y) = rdI I xs xw xt xm xg y xl xc cd := by
  funext j i
  unfold va_up upd
  by_cases hj : j = 57
  · subst hj
    by_cases hi : i = 12
    · subst hi; rfl
    · rw [if_pos rfl, if_neg hi]; unfold rdI; simp only [rdI_nb hi, cond_false]
  · rw [if_neg hj]; unfold rdI; simp only [rdI_nb hj, cond_false]
theorem rdI_w_xl {I : Nat → Nat → Int32} {xs xw xt xm xg xf xl xc : Int32} {cd : Nat → Int32} {y : Int32} : va_up (rdI I xs xw xt xm xg xf xl xc cd) 57 (upd ((rdI I xs xw xt xm xg xf xl xc cd) 57) 13 y) = rdI I xs xw xt xm xg xf y xc cd := by
  funext j i
  unfold va_up upd
  by_cases hj : j = 57
  · subst hj
    by_cases hi : i = 13
    · subst hi; rfl
    · rw [if_pos rfl, if_neg hi]; unfold rdI; simp only [rdI_nb hi, cond_false]
  · rw [if_neg hj]; unfold rdI; simp only [rdI_nb hj, cond_false]
theorem rdI_w_xc {I : Nat → Nat → Int32} {xs xw xt xm xg xf xl xc : Int32} {cd : Nat → Int32} {y : Int32} : va_up (rdI I xs xw xt xm xg xf xl xc cd) 57 (upd ((rdI I xs xw xt xm xg xf xl xc cd) 57) 15 y) = rdI I xs xw xt xm xg xf xl y cd := by
  funext j i
  unfold va_up upd
  by_cases hj : j = 57
  · subst hj
    by_cases hi : i = 15
    · subst hi; rfl
    · rw [if_pos rfl, if_neg hi]; unfold rdI; simp only [rdI_nb hi, cond_false]
  · rw [if_neg hj]; unfold rdI; simp only [rdI_nb hj, cond_false]
theorem rdI_w_cd {I : Nat → Nat → Int32} {xs xw xt xm xg xf xl xc : Int32} {cd : Nat → Int32} {y : Int32} {k : Nat} : va_up (rdI I xs xw xt xm xg xf xl xc cd) 59 (upd ((rdI I xs xw xt xm xg xf xl xc cd) 59) k y) = rdI I xs xw xt xm xg xf xl xc (upd cd k y) := by
  funext j i
  unfold va_up
  by_cases hj : j = 59
  · subst hj; rfl
  · rw [if_neg hj]; unfold rdI; simp only [rdI_nb hj, cond_false]
def spI (I : Nat → Nat → Int32) (xk : Int32) (r1 r2 r3 r4 : Nat → Int32) (j i : Nat) : Int32 := cond (Nat.beq j 57) (cond (Nat.beq i 6) xk (I 57 i)) (cond (Nat.beq j 127) (r1 i) (cond (Nat.beq j 128) (r2 i) (cond (Nat.beq j 129) (r3 i) (cond (Nat.beq j 130) (r4 i) (I j i)))))
theorem spI_nb : ∀ {i k : Nat}, ¬ i = k → Nat.beq i k = false := fun h => Bool.eq_false_iff.mpr (fun q => h (Nat.eq_of_beq_eq_true q))
theorem spI_w_xk {I : Nat → Nat → Int32} {xk : Int32} {r1 r2 r3 r4 : Nat → Int32} {y : Int32} : va_up (spI I xk r1 r2 r3 r4) 57 (upd ((spI I xk r1 r2 r3 r4) 57) 6 y) = spI I y r1 r2 r3 r4 := by
  funext j i
  unfold va_up upd
  by_cases hj : j = 57
  · subst hj
    by_cases hi : i = 6
    · subst hi; rfl
    · rw [if_pos rfl, if_neg hi]; unfold spI; simp only [spI_nb hi, cond_false]
  · rw [if_neg hj]; unfold spI; simp only [spI_nb hj, cond_false]
theorem spI_w_r1 {I : Nat → Nat → Int32} {xk : Int32} {r1 r2 r3 r4 : Nat → Int32} {y : Int32} {k : Nat} : va_up (spI I xk r1 r2 r3 r4) 127 (upd ((spI I xk r1 r2 r3 r4) 127) k y) = spI I xk (upd r1 k y) r2 r3 r4 := by
  funext j i
  unfold va_up
  by_cases hj : j = 127
  · subst hj; rfl
  · rw [if_neg hj]; unfold spI; simp only [spI_nb hj, cond_false]
theorem spI_w_r2 {I : Nat → Nat → Int32} {xk : Int32} {r1 r2 r3 r4 : Nat → Int32} {y : Int32} {k : Nat} : va_up (spI I xk r1 r2 r3 r4) 128 (upd ((spI I xk r1 r2 r3 r4) 128) k y) = spI I xk r1 (upd r2 k y) r3 r4 := by
  funext j i
  unfold va_up
  by_cases hj : j = 128
  · subst hj; rfl
  · rw [if_neg hj]; unfold spI; simp only [spI_nb hj, cond_false]
theorem spI_w_r3 {I : Nat → Nat → Int32} {xk : Int32} {r1 r2 r3 r4 : Nat → Int32} {y : Int32} {k : Nat} : va_up (spI I xk r1 r2 r3 r4) 129 (upd ((spI I xk r1 r2 r3 r4) 129) k y) = spI I xk r1 r2 (upd r3 k y) r4 := by
  funext j i
  unfold va_up
  by_cases hj : j = 129
  · subst hj; rfl
  · rw [if_neg hj]; unfold spI; simp only [spI_nb hj, cond_false]
theorem spI_w_r4 {I : Nat → Nat → Int32} {xk : Int32} {r1 r2 r3 r4 : Nat → Int32} {y : Int32} {k : Nat} : va_up (spI I xk r1 r2 r3 r4) 130 (upd ((spI I xk r1 r2 r3 r4) 130) k y) = spI I xk r1 r2 r3 (upd r4 k y) := by
  funext j i
  unfold va_up
  by_cases hj : j = 130
  · subst hj; rfl
  · rw [if_neg hj]; unfold spI; simp only [spI_nb hj, cond_false]
def rd_sg (x : Nat) : Nat := cond (pa_bl x) 40 (pa_sgn x)
def rd_tg (x : Nat) : Nat := am_lsf [(10, 130), (32, 130), (40, 133), (41, 136), (42, 157), (43, 151), (44, 145), (45, 154), (47, 160), (59, 148), (60, 163), (61, 169), (62, 166), (91, 139), (93, 142)] [152, 152, 155, 158, 179, 173, 167, 176, 182, 170, 185, 191, 188, 161, 164] 194 (pa_by x).toInt
theorem rd_tgs : ∀ x, x < 256 → (rd_tg x, rd_sg x) ∈ [(152, 40), (155, 32), (158, 33), (161, 34), (164, 35), (167, 36), (170, 37), (173, 22), (176, 23), (179, 24), (182, 25), (185, 26), (188, 27), (191, 28), (194, 39)] := by decide +kernel
theorem tv_tsw {d mi pc : Nat} {ls : am_L} {st : List Value} {h : am_H} {P : Option Value → am_H → Prop} {x : Int32} {df : Int} {lo hi : Int} {of : Array Int} {ln dt : Nat} {ts : List Nat} {v : Value} (hP : am_P mi pc = some (.tableswitch df lo hi of, ln, dt :: ts, v)) (k : am_T d mi (if x.toInt < lo ∨ hi < x.toInt then dt else ts.getD (x.toInt - lo).toNat dt) ls st h P) : am_T d mi pc ls (.int x :: st) h P := tv_l (fun _ => ev_1 hP rfl rfl) k
theorem tv_lsw {d mi pc : Nat} {ls : am_L} {st : List Value} {h : am_H} {P : Option Value → am_H → Prop} {x : Int32} {df : Int} {ps : Array (Int × Int)} {ln dt : Nat} {ts : List Nat} {v : Value} (hP : am_P mi pc = some (.lookupswitch df ps, ln, dt :: ts, v)) (k : am_T d mi (am_lsf ps.toList ts dt x.toInt) ls st h P) : am_T d mi pc ls (.int x :: st) h P := tv_l (fun _ => ev_1 hP rfl rfl) k
theorem ev_r_signAt {d n sl : Nat} {kk : Nat → Nat × Nat} {I : Nat → Nat → Int32} {L : Nat → Nat → Int64} {q : Nat → Nat → Option Nat} {tx : Nat → Nat} {T : Nat} {i : Nat} (hH : rdH tx T I) (hi : i < T) : am_Ev d 89 0 (am_ent 2 [.ref 57, .int (nI i)]) [] (n, sl, wKK kk, I, L, wQQ q) (some (.int (nI (rd_sg (tx i)))), (n, sl, wKK kk, I, L, wQQ q)) := by
  have hT := hH.2.1
  refine tv_ev ?_
  show am_T _ _ 0 [some (.ref 57), some (.int (nI i))] _ _ _
  refine tv_b (pc' := (if (nI i) < 0 then 21 else 4)) (ls' := [some (.ref 57), some (.int (nI i))]) (st' := []) (h' := (n, sl, wKK kk, I, L, wQQ q)) 2 rfl ?_
  refine tv_f (fun hq => absurd ((nI_ltI (a := i) (b := 0) (by omega) (by omega)).mp hq) (by omega)) ?_
  refine tv_b (pc' := 9) (ls' := [some (.ref 57), some (.int (nI i))]) (st' := [.int (I 57 1), .int (nI i)]) (h' := (n, sl, wKK kk, I, L, wQQ q)) 3 rfl ?_
  refine tv_top (hH.1) ?_
  refine tv_b (pc' := (if (nI T) ≤ (nI i) then 21 else 12)) (ls' := [some (.ref 57), some (.int (nI i))]) (st' := []) (h' := (n, sl, wKK kk, I, L, wQQ q)) 1 rfl ?_
  refine tv_f (fun hq => absurd ((nI_leI (a := T) (b := i) (by omega) (by omega)).mp hq) (by omega)) ?_
  refine tv_b (pc' := 17) (ls' := [some (.ref 57), some (.int (nI i))]) (st' := [.int (nI i), .ref 58]) (h' := (n, sl, wKK kk, I, L, wQQ q)) 3 rfl ?_
  refine tv_balN (k := i) rfl (rfl) (⟨by first | exact Or.inl rfl | exact Or.inr rfl, by omega, by omega⟩) ?_
  refine tv_top ((hH.2.2 i (by omega)).2) ?_
  refine tv_b (pc' := 22) (ls' := [some (.ref 57), some (.int (nI i))]) (st' := [.int (pa_by (tx i))]) (h' := (n, sl, wKK kk, I, L, wQQ q)) 1 rfl ?_
  refine tv_lsw rfl ?_
  show am_T _ _ (rd_tg (tx i)) _ _ _ _
  have hr := rd_tgs (tx i) (hH.2.2 i (by omega)).1
  simp only [List.mem_cons, List.not_mem_nil, or_false, Prod.mk.injEq] at hr
  rcases hr with ⟨h1, h2⟩ | ⟨h1, h2⟩ | ⟨h1, h2⟩ | ⟨h1, h2⟩ | ⟨h1, h2⟩ | ⟨h1, h2⟩ | ⟨h1, h2⟩ | ⟨h1, h2⟩ | ⟨h1, h2⟩ | ⟨h1, h2⟩ | ⟨h1, h2⟩ | ⟨h1, h2⟩ | ⟨h1, h2⟩ | ⟨h1, h2⟩ | ⟨h1, h2⟩ <;> rw [h1, h2]
  · exact tv_b (pc' := 154) (ls' := [some (.ref 57), some (.int (nI i))]) (st' := [.int 40]) (h' := (n, sl, wKK kk, I, L, wQQ q)) 1 rfl (tv_ri rfl ⟨rfl, rfl⟩)
  · exact tv_b (pc' := 157) (ls' := [some (.ref 57), some (.int (nI i))]) (st' := [.int 32]) (h' := (n, sl, wKK kk, I, L, wQQ q)) 1 rfl (tv_ri rfl ⟨rfl, rfl⟩)
  · exact tv_b (pc' := 160) (ls' := [some (.ref 57), some (.int (nI i))]) (st' := [.int 33]) (h' := (n, sl, wKK kk, I, L, wQQ q)) 1 rfl (tv_ri rfl ⟨rfl, rfl⟩)
  · exact tv_b (pc' := 163) (ls' := [some (.ref 57), some (.int (nI i))]) (st' := [.int 34]) (h' := (n, sl, wKK kk, I, L, wQQ q)) 1 rfl (tv_ri rfl ⟨rfl, rfl⟩)
  · exact tv_b (pc' := 166) (ls' := [some (.ref 57), some (.int (nI i))]) (st' := [.int 35]) (h' := (n, sl, wKK kk, I, L, wQQ q)) 1 rfl (tv_ri rfl ⟨rfl, rfl⟩)
  · exact tv_b (pc' := 169) (ls' := [some (.ref 57), some (.int (nI i))]) (st' := [.int 36]) (h' := (n, sl, wKK kk, I, L, wQQ q)) 1 rfl (tv_ri rfl ⟨rfl, rfl⟩)
  · exact tv_b (pc' := 172) (ls' := [some (.ref 57), some (.int (nI i))]) (st' := [.int 37]) (h' := (n, sl, wKK kk, I, L, wQQ q)) 1 rfl (tv_ri rfl ⟨rfl, rfl⟩)
  · exact tv_b (pc' := 175) (ls' := [some (.ref 57), some (.int (nI i))]) (st' := [.int 22]) (h' := (n, sl, wKK kk, I, L, wQQ q)) 1 rfl (tv_ri rfl ⟨rfl, rfl⟩)
  · exact tv_b (pc' := 178) (ls' := [some (.ref 57), some (.int (nI i))]) (st' := [.int 23]) (h' := (n, sl, wKK kk, I, L, wQQ q)) 1 rfl (tv_ri rfl ⟨rfl, rfl⟩)
  · exact tv_b (pc' := 181) (ls' := [some (.ref 57), some (.int (nI i))]) (st' := [.int 24]) (h' := (n, sl, wKK kk, I, L, wQQ q)) 1 rfl (tv_ri rfl ⟨rfl, rfl⟩)
  · exact tv_b (pc' := 184) (ls' := [some (.ref 57), some (.int (nI i))]) (st' := [.int 25]) (h' := (n, sl, wKK kk, I, L, wQQ q)) 1 rfl (tv_ri rfl ⟨rfl, rfl⟩)
  · exact tv_b (pc' := 187) (ls' := [some (.ref 57), some (.int (nI i))]) (st' := [.int 26]) (h' := (n, sl, wKK kk, I, L, wQQ q)) 1 rfl (tv_ri rfl ⟨rfl, rfl⟩)
  · exact tv_b (pc' := 190) (ls' := [some (.ref 57), some (.int (nI i))]) (st' := [.int 27]) (h' := (n, sl, wKK kk, I, L, wQQ q)) 1 rfl (tv_ri rfl ⟨rfl, rfl⟩)
  · exact tv_b (pc' := 193) (ls' := [some (.ref 57), some (.int (nI i))]) (st' := [.int 28]) (h' := (n, sl, wKK kk, I, L, wQQ q)) 1 rfl (tv_ri rfl ⟨rfl, rfl⟩)
  · exact tv_b (pc' := 196) (ls' := [some (.ref 57), some (.int (nI i))]) (st' := [.int 39]) (h' := (n, sl, wKK kk, I, L, wQQ q)) 1 rfl (tv_ri rfl ⟨rfl, rfl⟩)
theorem pa_rn_s {P : Nat → Bool} {A m : Nat} (h : P A = true) : pa_rn P A (m + 1) = pa_rn P (A + 1) m + 1 := by
  show cond (P A) (pa_rn P (A + 1) m + 1) 0 = _
  rw [h]
  rfl
theorem pa_rn_0 {P : Nat → Bool} {A m : Nat} (h : P A = false) : pa_rn P A m = 0 := by
  cases m with
  | zero => rfl
  | succ m =>
    show cond (P A) (pa_rn P (A + 1) m + 1) 0 = _
    rw [h]
    rfl
theorem pa_sk_s {b : Nat → Nat} {n p : Nat} (h : p < n) (hb : pa_bl (b p) = true) : pa_sk b n p = pa_sk b n (p + 1) := by
  unfold pa_sk
  rw [show n - p = (n - (p + 1)) + 1 by omega, pa_rn_s (P := fun i => pa_bl (b i)) hb]
  omega
theorem pa_sk_0 {b : Nat → Nat} {n p : Nat} (hb : pa_bl (b p) = false) : pa_sk b n p = p := by
  unfold pa_sk
  rw [pa_rn_0 (P := fun i => pa_bl (b i)) hb]
  rfl
theorem rdI_hi {I : Nat → Nat → Int32} {xs xw xt xm xg xf xl xc : Int32} {cd : Nat → Int32} {j : Nat} (h1 : j ≠ 57) (h2 : j ≠ 59) : rdI I xs xw xt xm xg xf xl xc cd j = I j := by
  funext i
  unfold rdI
  rw [show Nat.beq j 57 = false from rdI_nb h1, show Nat.beq j 59 = false from rdI_nb h2]
  rfl
theorem spI_hi {I : Nat → Nat → Int32} {xk : Int32} {r1 r2 r3 r4 : Nat → Int32} {j : Nat} (h1 : j ≠ 57) (h2 : j < 127 ∨ 131 ≤ j) : spI I xk r1 r2 r3 r4 j = I j := by
  funext i
  unfold spI
  rw [show Nat.beq j 57 = false from rdI_nb h1, show Nat.beq j 127 = false from rdI_nb (by omega), show Nat.beq j 128 = false from rdI_nb (by omega), show Nat.beq j 129 = false from rdI_nb (by omega), show Nat.beq j 130 = false from rdI_nb (by omega)]
  rfl
theorem rdH_s {tx : Nat → Nat} {T : Nat} {I : Nat → Nat → Int32} {xk : Int32} {r1 r2 r3 r4 : Nat → Int32} (h : rdH tx T I) : rdH tx T (spI I xk r1 r2 r3 r4) := h
