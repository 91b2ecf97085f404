/-! THE CLASS'S READER: bytes and tokens -/
def pa_by (x : Nat) : Int32 := if x < 128 then nI x else nI x - 256
def rdH (tx : Nat → Nat) (T : Nat) (I : Nat → Nat → Int32) : Prop := I 57 1 = nI T ∧ T ≤ 800 ∧ ∀ i, i < T → tx i < 256 ∧ I 58 i = pa_by (tx i)
theorem pa_by_lt : ∀ x, x < 256 → ((¬ pa_by x < 97 ∧ ¬ 122 < pa_by x) ↔ pa_lt x = true) := by decide +kernel
theorem pa_by_dg : ∀ x, x < 256 → ((¬ pa_by x < 48 ∧ ¬ 57 < pa_by x) ↔ pa_dg x = true) := by decide +kernel
theorem pa_by_bl : ∀ x, x < 256 → ((pa_by x = 10 ∨ pa_by x = 32) ↔ pa_bl x = true) := by decide +kernel
theorem tv_ev {d mi pc : Nat} {ls : am_L} {st : List Value} {h h0 : am_H} {rv0 : Option Value} (k : am_T d mi pc ls st h (fun rv h' => rv = rv0 ∧ h' = h0)) : am_Ev d mi pc ls st h (rv0, h0) := by
  obtain ⟨rv, h', e, rfl, rfl⟩ := k
  exact e
theorem nI_eq0 {a b : Nat} (ha : a < 2 ^ 31) (hb : b < 2 ^ 31) : nI a = nI b ↔ a = b := by
  constructor
  · intro h
    have := congrArg Int32.toNatClampNeg h
    rwa [nI_clamp ha, nI_clamp hb] at this
  · intro h; rw [h]
theorem ev_r_isLetter {d n sl : Nat} {kk : Nat → Nat × Nat} {I : Nat → Nat → Int32} {L : Nat → Nat → Int64} {q : Nat → Nat → Option Nat} {tx : Nat → Nat} {T : Nat} {i : Nat} (hH : rdH tx T I) (hi : i < 1000000) : am_Ev d 87 0 (am_ent 2 [.ref 57, .int (nI i)]) [] (n, sl, wKK kk, I, L, wQQ q) (some (.int (if i < T ∧ pa_lt (tx i) = true then 1 else 0)), (n, sl, wKK kk, I, L, wQQ q)) := by
  have hT := hH.2.1
  refine tv_ev ?_
  show am_T _ _ 0 [some (.ref 57), some (.int (nI i))] _ _ _
  refine tv_b (pc' := (if (nI i) < 0 then 38 else 4)) (ls' := [some (.ref 57), some (.int (nI i))]) (st' := []) (h' := (n, sl, wKK kk, I, L, wQQ q)) 2 rfl ?_
  refine tv_f (fun hq => absurd ((nI_ltI (a := i) (b := 0) (by omega) (by omega)).mp hq) (by omega)) ?_
  refine tv_b (pc' := 9) (ls' := [some (.ref 57), some (.int (nI i))]) (st' := [.int (I 57 1), .int (nI i)]) (h' := (n, sl, wKK kk, I, L, wQQ q)) 3 rfl ?_
  refine tv_top (hH.1) ?_
  refine tv_b (pc' := (if (nI T) ≤ (nI i) then 38 else 12)) (ls' := [some (.ref 57), some (.int (nI i))]) (st' := []) (h' := (n, sl, wKK kk, I, L, wQQ q)) 1 rfl ?_
  refine tv_ifq (nI_leI (a := T) (b := i) (by omega) (by omega)) (fun c9 => ?_) (fun c9 => ?_)
  · refine tv_b (pc' := 39) (ls' := [some (.ref 57), some (.int (nI i))]) (st' := [.int 0]) (h' := (n, sl, wKK kk, I, L, wQQ q)) 1 rfl ?_
    exact tv_rz rfl (Or.inl rfl) ⟨by rw [if_neg (by rintro ⟨h, _⟩; omega)], rfl⟩
  · refine tv_b (pc' := 17) (ls' := [some (.ref 57), some (.int (nI i))]) (st' := [.int (nI i), .ref 58]) (h' := (n, sl, wKK kk, I, L, wQQ q)) 3 rfl ?_
    refine tv_balN (k := i) rfl (rfl) (⟨by first | exact Or.inl rfl | exact Or.inr rfl, by omega, by omega⟩) ?_
    refine tv_top ((hH.2.2 i (by omega)).2) ?_
    refine tv_b (pc' := (if (pa_by (tx i)) < 97 then 38 else 23)) (ls' := [some (.ref 57), some (.int (nI i))]) (st' := []) (h' := (n, sl, wKK kk, I, L, wQQ q)) 2 rfl ?_
    refine tv_if (fun c20 => ?_) (fun c20 => ?_)
    · refine tv_b (pc' := 39) (ls' := [some (.ref 57), some (.int (nI i))]) (st' := [.int 0]) (h' := (n, sl, wKK kk, I, L, wQQ q)) 1 rfl ?_
      exact tv_rz rfl (Or.inl rfl) ⟨by rw [if_neg (fun h => ((pa_by_lt _ (hH.2.2 i (by omega)).1).mpr h.2).1 c20)], rfl⟩
    · refine tv_b (pc' := 28) (ls' := [some (.ref 57), some (.int (nI i))]) (st' := [.int (nI i), .ref 58]) (h' := (n, sl, wKK kk, I, L, wQQ q)) 3 rfl ?_
      refine tv_balN (k := i) rfl (rfl) (⟨by first | exact Or.inl rfl | exact Or.inr rfl, by omega, by omega⟩) ?_
      refine tv_top ((hH.2.2 i (by omega)).2) ?_
      refine tv_b (pc' := (if 122 < (pa_by (tx i)) then 38 else 34)) (ls' := [some (.ref 57), some (.int (nI i))]) (st' := []) (h' := (n, sl, wKK kk, I, L, wQQ q)) 2 rfl ?_
      refine tv_if (fun c31 => ?_) (fun c31 => ?_)
      · refine tv_b (pc' := 39) (ls' := [some (.ref 57), some (.int (nI i))]) (st' := [.int 0]) (h' := (n, sl, wKK kk, I, L, wQQ q)) 1 rfl ?_
        exact tv_rz rfl (Or.inl rfl) ⟨by rw [if_neg (fun h => ((pa_by_lt _ (hH.2.2 i (by omega)).1).mpr h.2).2 c31)], rfl⟩
      · refine tv_b (pc' := 39) (ls' := [some (.ref 57), some (.int (nI i))]) (st' := [.int 1]) (h' := (n, sl, wKK kk, I, L, wQQ q)) 2 rfl ?_
        exact tv_rz rfl (Or.inr rfl) ⟨by rw [if_pos ⟨by omega, (pa_by_lt _ (hH.2.2 i (by omega)).1).mp ⟨c20, c31⟩⟩], rfl⟩
theorem ev_r_isLetterM {d n sl : Nat} {kk : Nat → Nat × Nat} {I : Nat → Nat → Int32} {L : Nat → Nat → Int64} {q : Nat → Nat → Option Nat} {tx : Nat → Nat} {T : Nat} : am_Ev d 87 0 (am_ent 2 [.ref 57, .int (-1)]) [] (n, sl, wKK kk, I, L, wQQ q) (some (.int 0), (n, sl, wKK kk, I, L, wQQ q)) := by
  refine tv_ev ?_
  show am_T _ _ 0 [some (.ref 57), some (.int (-1))] _ _ _
  refine tv_b (pc' := 39) (ls' := [some (.ref 57), some (.int (-1))]) (st' := [.int 0]) (h' := (n, sl, wKK kk, I, L, wQQ q)) 3 rfl ?_
  exact tv_rz rfl (Or.inl rfl) ⟨rfl, rfl⟩
theorem ev_r_isDigit {d n sl : Nat} {kk : Nat → Nat × Nat} {I : Nat → Nat → Int32} {L : Nat → Nat → Int64} {q : Nat → Nat → Option Nat} {tx : Nat → Nat} {T : Nat} {i : Nat} (hH : rdH tx T I) (hi : i < 1000000) : am_Ev d 88 0 (am_ent 2 [.ref 57, .int (nI i)]) [] (n, sl, wKK kk, I, L, wQQ q) (some (.int (if i < T ∧ pa_dg (tx i) = true then 1 else 0)), (n, sl, wKK kk, I, L, wQQ q)) := by
  have hT := hH.2.1
  refine tv_ev ?_
  show am_T _ _ 0 [some (.ref 57), some (.int (nI i))] _ _ _
  refine tv_b (pc' := (if (nI i) < 0 then 38 else 4)) (ls' := [some (.ref 57), some (.int (nI i))]) (st' := []) (h' := (n, sl, wKK kk, I, L, wQQ q)) 2 rfl ?_
  refine tv_f (fun hq => absurd ((nI_ltI (a := i) (b := 0) (by omega) (by omega)).mp hq) (by omega)) ?_
  refine tv_b (pc' := 9) (ls' := [some (.ref 57), some (.int (nI i))]) (st' := [.int (I 57 1), .int (nI i)]) (h' := (n, sl, wKK kk, I, L, wQQ q)) 3 rfl ?_
  refine tv_top (hH.1) ?_
  refine tv_b (pc' := (if (nI T) ≤ (nI i) then 38 else 12)) (ls' := [some (.ref 57), some (.int (nI i))]) (st' := []) (h' := (n, sl, wKK kk, I, L, wQQ q)) 1 rfl ?_
  refine tv_ifq (nI_leI (a := T) (b := i) (by omega) (by omega)) (fun c9 => ?_) (fun c9 => ?_)
  · refine tv_b (pc' := 39) (ls' := [some (.ref 57), some (.int (nI i))]) (st' := [.int 0]) (h' := (n, sl, wKK kk, I, L, wQQ q)) 1 rfl ?_
    exact tv_rz rfl (Or.inl rfl) ⟨by rw [if_neg (by rintro ⟨h, _⟩; omega)], rfl⟩
  · refine tv_b (pc' := 17) (ls' := [some (.ref 57), some (.int (nI i))]) (st' := [.int (nI i), .ref 58]) (h' := (n, sl, wKK kk, I, L, wQQ q)) 3 rfl ?_
    refine tv_balN (k := i) rfl (rfl) (⟨by first | exact Or.inl rfl | exact Or.inr rfl, by omega, by omega⟩) ?_
    refine tv_top ((hH.2.2 i (by omega)).2) ?_
    refine tv_b (pc' := (if (pa_by (tx i)) < 48 then 38 else 23)) (ls' := [some (.ref 57), some (.int (nI i))]) (st' := []) (h' := (n, sl, wKK kk, I, L, wQQ q)) 2 rfl ?_
    refine tv_if (fun c20 => ?_) (fun c20 => ?_)
    · refine tv_b (pc' := 39) (ls' := [some (.ref 57), some (.int (nI i))]) (st' := [.int 0]) (h' := (n, sl, wKK kk, I, L, wQQ q)) 1 rfl ?_
      exact tv_rz rfl (Or.inl rfl) ⟨by rw [if_neg (fun h => ((pa_by_dg _ (hH.2.2 i (by omega)).1).mpr h.2).1 c20)], rfl⟩
    · refine tv_b (pc' := 28) (ls' := [some (.ref 57), some (.int (nI i))]) (st' := [.int (nI i), .ref 58]) (h' := (n, sl, wKK kk, I, L, wQQ q)) 3 rfl ?_
      refine tv_balN (k := i) rfl (rfl) (⟨by first | exact Or.inl rfl | exact Or.inr rfl, by omega, by omega⟩) ?_
      refine tv_top ((hH.2.2 i (by omega)).2) ?_
      refine tv_b (pc' := (if 57 < (pa_by (tx i)) then 38 else 34)) (ls' := [some (.ref 57), some (.int (nI i))]) (st' := []) (h' := (n, sl, wKK kk, I, L, wQQ q)) 2 rfl ?_
      refine tv_if (fun c31 => ?_) (fun c31 => ?_)
      · refine tv_b (pc' := 39) (ls' := [some (.ref 57), some (.int (nI i))]) (st' := [.int 0]) (h' := (n, sl, wKK kk, I, L, wQQ q)) 1 rfl ?_
        exact tv_rz rfl (Or.inl rfl) ⟨by rw [if_neg (fun h => ((pa_by_dg _ (hH.2.2 i (by omega)).1).mpr h.2).2 c31)], rfl⟩
      · refine tv_b (pc' := 39) (ls' := [some (.ref 57), some (.int (nI i))]) (st' := [.int 1]) (h' := (n, sl, wKK kk, I, L, wQQ q)) 2 rfl ?_
        exact tv_rz rfl (Or.inr rfl) ⟨by rw [if_pos ⟨by omega, (pa_by_dg _ (hH.2.2 i (by omega)).1).mp ⟨c20, c31⟩⟩], rfl⟩
theorem ev_r_isDigitM {d n sl : Nat} {kk : Nat → Nat × Nat} {I : Nat → Nat → Int32} {L : Nat → Nat → Int64} {q : Nat → Nat → Option Nat} {tx : Nat → Nat} {T : Nat} : am_Ev d 88 0 (am_ent 2 [.ref 57, .int (-1)]) [] (n, sl, wKK kk, I, L, wQQ q) (some (.int 0), (n, sl, wKK kk, I, L, wQQ q)) := by
  refine tv_ev ?_
  show am_T _ _ 0 [some (.ref 57), some (.int (-1))] _ _ _
  refine tv_b (pc' := 39) (ls' := [some (.ref 57), some (.int (-1))]) (st' := [.int 0]) (h' := (n, sl, wKK kk, I, L, wQQ q)) 3 rfl ?_
  exact tv_rz rfl (Or.inl rfl) ⟨rfl, rfl⟩
def rdI (I : Nat → Nat → Int32) (xs xa xt xm xf xl xc : Int32) (cd : Nat → Int32) (j i : Nat) : Int32 := cond (Nat.beq j 57) (cond (Nat.beq i 2) xs (cond (Nat.beq i 3) xa (cond (Nat.beq i 4) xt (cond (Nat.beq i 5) xm (cond (Nat.beq i 6) xf (cond (Nat.beq i 7) xl (cond (Nat.beq i 9) xc (I 57 i)))))))) (cond (Nat.beq j 59) (cd i) (I j i))
theorem rdI_nb : ∀ {i k : Nat}, ¬ i = k → Nat.beq i k = false := fun h => Bool.eq_false_iff.mpr (fun q => h (Nat.eq_of_beq_eq_true q))
theorem rdI_w_xs {I : Nat → Nat → Int32} {xs xa xt xm xf xl xc : Int32} {cd : Nat → Int32} {y : Int32} : va_up (rdI I xs xa xt xm xf xl xc cd) 57 (upd ((rdI I xs xa xt xm xf xl xc cd) 57) 2 y) = rdI I y xa xt xm xf xl xc cd := by
  funext j i
  unfold va_up upd
  by_cases hj : j = 57
  · subst hj
    by_cases hi : i = 2
    · subst hi; rfl
    · rw [if_pos rfl, if_neg hi]; unfold rdI; simp only [rdI_nb hi, cond_false]
  · rw [if_neg hj]; unfold rdI; simp only [rdI_nb hj, cond_false]
theorem rdI_w_xa {I : Nat → Nat → Int32} {xs xa xt xm xf xl xc : Int32} {cd : Nat → Int32} {y : Int32} : va_up (rdI I xs xa xt xm xf xl xc cd) 57 (upd ((rdI I xs xa xt xm xf xl xc cd) 57) 3 y) = rdI I xs y xt xm xf xl xc cd := by
  funext j i
  unfold va_up upd
  by_cases hj : j = 57
  · subst hj
    by_cases hi : i = 3
    · subst hi; rfl
    · rw [if_pos rfl, if_neg hi]; unfold rdI; simp only [rdI_nb hi, cond_false]
  · rw [if_neg hj]; unfold rdI; simp only [rdI_nb hj, cond_false]
theorem rdI_w_xt {I : Nat → Nat → Int32} {xs xa xt xm xf xl xc : Int32} {cd : Nat → Int32} {y : Int32} : va_up (rdI I xs xa xt xm xf xl xc cd) 57 (upd ((rdI I xs xa xt xm xf xl xc cd) 57) 4 y) = rdI I xs xa y xm xf xl xc cd := by
  funext j i
  unfold va_up upd
  by_cases hj : j = 57
  · subst hj
    by_cases hi : i = 4
    · subst hi; rfl
    · rw [if_pos rfl, if_neg hi]; unfold rdI; simp only [rdI_nb hi, cond_false]
  · rw [if_neg hj]; unfold rdI; simp only [rdI_nb hj, cond_false]
theorem rdI_w_xm {I : Nat → Nat → Int32} {xs xa xt xm xf xl xc : Int32} {cd : Nat → Int32} {y : Int32} : va_up (rdI I xs xa xt xm xf xl xc cd) 57 (upd ((rdI I xs xa xt xm xf xl xc cd) 57) 5 y) = rdI I xs xa xt y xf xl xc cd := by
  funext j i
  unfold va_up upd
  by_cases hj : j = 57
  · subst hj
    by_cases hi : i = 5
    · subst hi; rfl
    · rw [if_pos rfl, if_neg hi]; unfold rdI; simp only [rdI_nb hi, cond_false]
  · rw [if_neg hj]; unfold rdI; simp only [rdI_nb hj, cond_false]
theorem rdI_w_xf {I : Nat → Nat → Int32} {xs xa xt xm xf xl xc : Int32} {cd : Nat → Int32} {y : Int32} : va_up (rdI I xs xa xt xm xf xl xc cd) 57 (upd ((rdI I xs xa xt xm xf xl xc cd) 57) 6 y) = rdI I xs xa xt xm y xl xc cd := by
  funext j i
  unfold va_up upd
  by_cases hj : j = 57
  · subst hj
    by_cases hi : i = 6
    · subst hi; rfl
    · rw [if_pos rfl, if_neg hi]; unfold rdI; simp only [rdI_nb hi, cond_false]
  · rw [if_neg hj]; unfold rdI; simp only [rdI_nb hj, cond_false]
theorem rdI_w_xl {I : Nat → Nat → Int32} {xs xa xt xm xf xl xc : Int32} {cd : Nat → Int32} {y : Int32} : va_up (rdI I xs xa xt xm xf xl xc cd) 57 (upd ((rdI I xs xa xt xm xf xl xc cd) 57) 7 y) = rdI I xs xa xt xm xf y xc cd := by
  funext j i
  unfold va_up upd
  by_cases hj : j = 57
  · subst hj
    by_cases hi : i = 7
    · subst hi; rfl
    · rw [if_pos rfl, if_neg hi]; unfold rdI; simp only [rdI_nb hi, cond_false]
  · rw [if_neg hj]; unfold rdI; simp only [rdI_nb hj, cond_false]
theorem rdI_w_xc {I : Nat → Nat → Int32} {xs xa xt xm xf xl xc : Int32} {cd : Nat → Int32} {y : Int32} : va_up (rdI I xs xa xt xm xf xl xc cd) 57 (upd ((rdI I xs xa xt xm xf xl xc cd) 57) 9 y) = rdI I xs xa xt xm xf xl y cd := by
  funext j i
  unfold va_up upd
  by_cases hj : j = 57
  · subst hj
    by_cases hi : i = 9
    · subst hi; rfl
    · rw [if_pos rfl, if_neg hi]; unfold rdI; simp only [rdI_nb hi, cond_false]
  · rw [if_neg hj]; unfold rdI; simp only [rdI_nb hj, cond_false]
theorem rdI_w_cd {I : Nat → Nat → Int32} {xs xa xt xm xf xl xc : Int32} {cd : Nat → Int32} {y : Int32} {k : Nat} : va_up (rdI I xs xa xt xm xf xl xc cd) 59 (upd ((rdI I xs xa xt xm xf xl xc cd) 59) k y) = rdI I xs xa xt xm xf xl xc (upd cd k y) := by
  funext j i
  unfold va_up
  by_cases hj : j = 59
  · subst hj; rfl
  · rw [if_neg hj]; unfold rdI; simp only [rdI_nb hj, cond_false]
def rd_tg (x : Nat) : Nat := if (pa_by x).toInt < 40 ∨ 93 < (pa_by x).toInt then 291 else [252, 255, 276, 270, 264, 273, 291, 279, 291, 291, 291, 291, 291, 291, 291, 291, 291, 291, 291, 267, 282, 288, 285, 291, 291, 291, 291, 291, 291, 291, 291, 291, 291, 291, 291, 291, 291, 291, 291, 291, 291, 291, 291, 291, 291, 291, 291, 291, 291, 291, 291, 258, 291, 261].getD ((pa_by x).toInt - 40).toNat 291
theorem rd_tgs : ∀ x, x < 256 → (rd_tg x, pa_sgn x) ∈ [(252, 32), (255, 33), (258, 34), (261, 35), (264, 36), (267, 37), (270, 22), (273, 23), (276, 24), (279, 25), (282, 26), (285, 27), (288, 28), (291, 39)] := by decide +kernel
theorem tv_tsw {d mi pc : Nat} {ls : am_L} {st : List Value} {h : am_H} {P : Option Value → am_H → Prop} {x : Int32} {df : Int} {lo hi : Int} {of : Array Int} {ln dt : Nat} {ts : List Nat} {v : Value} (hP : am_P mi pc = some (.tableswitch df lo hi of, ln, dt :: ts, v)) (k : am_T d mi (if x.toInt < lo ∨ hi < x.toInt then dt else ts.getD (x.toInt - lo).toNat dt) ls st h P) : am_T d mi pc ls (.int x :: st) h P := tv_l (fun _ => ev_1 hP rfl rfl) k
theorem ev_r_signAt {d n sl : Nat} {kk : Nat → Nat × Nat} {I : Nat → Nat → Int32} {L : Nat → Nat → Int64} {q : Nat → Nat → Option Nat} {tx : Nat → Nat} {T : Nat} {i : Nat} (hH : rdH tx T I) (hi : i < T) : am_Ev d 89 0 (am_ent 2 [.ref 57, .int (nI i)]) [] (n, sl, wKK kk, I, L, wQQ q) (some (.int (nI (pa_sgn (tx i)))), (n, sl, wKK kk, I, L, wQQ q)) := by
  have hT := hH.2.1
  refine tv_ev ?_
  show am_T _ _ 0 [some (.ref 57), some (.int (nI i))] _ _ _
  refine tv_b (pc' := (if (nI i) < 0 then 21 else 4)) (ls' := [some (.ref 57), some (.int (nI i))]) (st' := []) (h' := (n, sl, wKK kk, I, L, wQQ q)) 2 rfl ?_
  refine tv_f (fun hq => absurd ((nI_ltI (a := i) (b := 0) (by omega) (by omega)).mp hq) (by omega)) ?_
  refine tv_b (pc' := 9) (ls' := [some (.ref 57), some (.int (nI i))]) (st' := [.int (I 57 1), .int (nI i)]) (h' := (n, sl, wKK kk, I, L, wQQ q)) 3 rfl ?_
  refine tv_top (hH.1) ?_
  refine tv_b (pc' := (if (nI T) ≤ (nI i) then 21 else 12)) (ls' := [some (.ref 57), some (.int (nI i))]) (st' := []) (h' := (n, sl, wKK kk, I, L, wQQ q)) 1 rfl ?_
  refine tv_f (fun hq => absurd ((nI_leI (a := T) (b := i) (by omega) (by omega)).mp hq) (by omega)) ?_
  refine tv_b (pc' := 17) (ls' := [some (.ref 57), some (.int (nI i))]) (st' := [.int (nI i), .ref 58]) (h' := (n, sl, wKK kk, I, L, wQQ q)) 3 rfl ?_
  refine tv_balN (k := i) rfl (rfl) (⟨by first | exact Or.inl rfl | exact Or.inr rfl, by omega, by omega⟩) ?_
  refine tv_top ((hH.2.2 i (by omega)).2) ?_
  refine tv_b (pc' := 22) (ls' := [some (.ref 57), some (.int (nI i))]) (st' := [.int (pa_by (tx i))]) (h' := (n, sl, wKK kk, I, L, wQQ q)) 1 rfl ?_
  refine tv_tsw rfl ?_
  show am_T _ _ (rd_tg (tx i)) _ _ _ _
  have hr := rd_tgs (tx i) (hH.2.2 i (by omega)).1
  simp only [List.mem_cons, List.not_mem_nil, or_false, Prod.mk.injEq] at hr
  rcases hr with ⟨h1, h2⟩ | ⟨h1, h2⟩ | ⟨h1, h2⟩ | ⟨h1, h2⟩ | ⟨h1, h2⟩ | ⟨h1, h2⟩ | ⟨h1, h2⟩ | ⟨h1, h2⟩ | ⟨h1, h2⟩ | ⟨h1, h2⟩ | ⟨h1, h2⟩ | ⟨h1, h2⟩ | ⟨h1, h2⟩ | ⟨h1, h2⟩ <;> rw [h1, h2]
  · exact tv_b (pc' := 254) (ls' := [some (.ref 57), some (.int (nI i))]) (st' := [.int 32]) (h' := (n, sl, wKK kk, I, L, wQQ q)) 1 rfl (tv_ri rfl ⟨rfl, rfl⟩)
  · exact tv_b (pc' := 257) (ls' := [some (.ref 57), some (.int (nI i))]) (st' := [.int 33]) (h' := (n, sl, wKK kk, I, L, wQQ q)) 1 rfl (tv_ri rfl ⟨rfl, rfl⟩)
  · exact tv_b (pc' := 260) (ls' := [some (.ref 57), some (.int (nI i))]) (st' := [.int 34]) (h' := (n, sl, wKK kk, I, L, wQQ q)) 1 rfl (tv_ri rfl ⟨rfl, rfl⟩)
  · exact tv_b (pc' := 263) (ls' := [some (.ref 57), some (.int (nI i))]) (st' := [.int 35]) (h' := (n, sl, wKK kk, I, L, wQQ q)) 1 rfl (tv_ri rfl ⟨rfl, rfl⟩)
  · exact tv_b (pc' := 266) (ls' := [some (.ref 57), some (.int (nI i))]) (st' := [.int 36]) (h' := (n, sl, wKK kk, I, L, wQQ q)) 1 rfl (tv_ri rfl ⟨rfl, rfl⟩)
  · exact tv_b (pc' := 269) (ls' := [some (.ref 57), some (.int (nI i))]) (st' := [.int 37]) (h' := (n, sl, wKK kk, I, L, wQQ q)) 1 rfl (tv_ri rfl ⟨rfl, rfl⟩)
  · exact tv_b (pc' := 272) (ls' := [some (.ref 57), some (.int (nI i))]) (st' := [.int 22]) (h' := (n, sl, wKK kk, I, L, wQQ q)) 1 rfl (tv_ri rfl ⟨rfl, rfl⟩)
  · exact tv_b (pc' := 275) (ls' := [some (.ref 57), some (.int (nI i))]) (st' := [.int 23]) (h' := (n, sl, wKK kk, I, L, wQQ q)) 1 rfl (tv_ri rfl ⟨rfl, rfl⟩)
  · exact tv_b (pc' := 278) (ls' := [some (.ref 57), some (.int (nI i))]) (st' := [.int 24]) (h' := (n, sl, wKK kk, I, L, wQQ q)) 1 rfl (tv_ri rfl ⟨rfl, rfl⟩)
  · exact tv_b (pc' := 281) (ls' := [some (.ref 57), some (.int (nI i))]) (st' := [.int 25]) (h' := (n, sl, wKK kk, I, L, wQQ q)) 1 rfl (tv_ri rfl ⟨rfl, rfl⟩)
  · exact tv_b (pc' := 284) (ls' := [some (.ref 57), some (.int (nI i))]) (st' := [.int 26]) (h' := (n, sl, wKK kk, I, L, wQQ q)) 1 rfl (tv_ri rfl ⟨rfl, rfl⟩)
  · exact tv_b (pc' := 287) (ls' := [some (.ref 57), some (.int (nI i))]) (st' := [.int 27]) (h' := (n, sl, wKK kk, I, L, wQQ q)) 1 rfl (tv_ri rfl ⟨rfl, rfl⟩)
  · exact tv_b (pc' := 290) (ls' := [some (.ref 57), some (.int (nI i))]) (st' := [.int 28]) (h' := (n, sl, wKK kk, I, L, wQQ q)) 1 rfl (tv_ri rfl ⟨rfl, rfl⟩)
  · exact tv_b (pc' := 293) (ls' := [some (.ref 57), some (.int (nI i))]) (st' := [.int 39]) (h' := (n, sl, wKK kk, I, L, wQQ q)) 1 rfl (tv_ri rfl ⟨rfl, rfl⟩)
theorem pa_rn_s {P : Nat → Bool} {A m : Nat} (h : P A = true) : pa_rn P A (m + 1) = pa_rn P (A + 1) m + 1 := by
  show cond (P A) (pa_rn P (A + 1) m + 1) 0 = _
  rw [h]
  rfl
theorem pa_rn_0 {P : Nat → Bool} {A m : Nat} (h : P A = false) : pa_rn P A m = 0 := by
  cases m with
  | zero => rfl
  | succ m =>
    show cond (P A) (pa_rn P (A + 1) m + 1) 0 = _
    rw [h]
    rfl
theorem pa_sk_s {b : Nat → Nat} {n p : Nat} (h : p < n) (hb : pa_bl (b p) = true) : pa_sk b n p = pa_sk b n (p + 1) := by
  unfold pa_sk
  rw [show n - p = (n - (p + 1)) + 1 by omega, pa_rn_s (P := fun i => pa_bl (b i)) hb]
  omega
theorem pa_sk_0 {b : Nat → Nat} {n p : Nat} (hb : pa_bl (b p) = false) : pa_sk b n p = p := by
  unfold pa_sk
  rw [pa_rn_0 (P := fun i => pa_bl (b i)) hb]
  rfl
theorem tv_r_isMore {d n sl : Nat} {kk : Nat → Nat × Nat} {I : Nat → Nat → Int32} {L : Nat → Nat → Int64} {q : Nat → Nat → Option Nat} {tx : Nat → Nat} {T : Nat} {xs xt xm xf xl xc : Int32} {cd : Nat → Int32} (hH : rdH tx T I) : ∀ m A : Nat, T - A = m → A ≤ T → am_T d 82 0 (am_ent 1 [.ref 57]) [] (n, sl, wKK kk, (rdI I xs (nI A) xt xm xf xl xc cd), L, wQQ q) (fun rv h' => rv = some (.int (if pa_sk tx T A < T then 1 else 0)) ∧ h' = (n, sl, wKK kk, (rdI I xs (nI (pa_sk tx T A)) xt xm xf xl xc cd), L, wQQ q)) := by
  have hT := hH.2.1
  intro m
  induction m with
  | zero =>
    intro A hm hA
    show am_T _ _ 0 [some (.ref 57)] _ _ _
    refine tv_b (pc' := 8) (ls' := [some (.ref 57)]) (st' := [.int (I 57 1), .int (nI A)]) (h' := (n, sl, wKK kk, (rdI I xs (nI A) xt xm xf xl xc cd), L, wQQ q)) 4 rfl ?_
    refine tv_top (hH.1) ?_
    refine tv_b (pc' := (if (nI T) ≤ (nI A) then 52 else 11)) (ls' := [some (.ref 57)]) (st' := []) (h' := (n, sl, wKK kk, (rdI I xs (nI A) xt xm xf xl xc cd), L, wQQ q)) 1 rfl ?_
    refine tv_t ((nI_leI (a := T) (b := A) (by omega) (by omega)).mpr (by omega)) ?_
    refine tv_b (pc' := 60) (ls' := [some (.ref 57)]) (st' := [.int (I 57 1), .int (nI A)]) (h' := (n, sl, wKK kk, (rdI I xs (nI A) xt xm xf xl xc cd), L, wQQ q)) 4 rfl ?_
    refine tv_top (hH.1) ?_
    refine tv_b (pc' := (if (nI T) ≤ (nI A) then 67 else 63)) (ls' := [some (.ref 57)]) (st' := []) (h' := (n, sl, wKK kk, (rdI I xs (nI A) xt xm xf xl xc cd), L, wQQ q)) 1 rfl ?_
    refine tv_t ((nI_leI (a := T) (b := A) (by omega) (by omega)).mpr (by omega)) ?_
    refine tv_b (pc' := 68) (ls' := [some (.ref 57)]) (st' := [.int 0]) (h' := (n, sl, wKK kk, (rdI I xs (nI A) xt xm xf xl xc cd), L, wQQ q)) 1 rfl ?_
    have e := pa_sk_end (b := tx) (n := T) (p := A) (by omega)
    exact tv_rz rfl (Or.inl rfl) ⟨by rw [e, if_neg (by omega)], by rw [e]⟩
  | succ m ih =>
    intro A hm hA
    show am_T _ _ 0 [some (.ref 57)] _ _ _
    refine tv_b (pc' := 8) (ls' := [some (.ref 57)]) (st' := [.int (I 57 1), .int (nI A)]) (h' := (n, sl, wKK kk, (rdI I xs (nI A) xt xm xf xl xc cd), L, wQQ q)) 4 rfl ?_
    refine tv_top (hH.1) ?_
    refine tv_b (pc' := (if (nI T) ≤ (nI A) then 52 else 11)) (ls' := [some (.ref 57)]) (st' := []) (h' := (n, sl, wKK kk, (rdI I xs (nI A) xt xm xf xl xc cd), L, wQQ q)) 1 rfl ?_
    refine tv_ifq (nI_leI (a := T) (b := A) (by omega) (by omega)) (fun c8 => ?_) (fun c8 => ?_)
    · refine tv_b (pc' := 60) (ls' := [some (.ref 57)]) (st' := [.int (I 57 1), .int (nI A)]) (h' := (n, sl, wKK kk, (rdI I xs (nI A) xt xm xf xl xc cd), L, wQQ q)) 4 rfl ?_
      refine tv_top (hH.1) ?_
      refine tv_b (pc' := (if (nI T) ≤ (nI A) then 67 else 63)) (ls' := [some (.ref 57)]) (st' := []) (h' := (n, sl, wKK kk, (rdI I xs (nI A) xt xm xf xl xc cd), L, wQQ q)) 1 rfl ?_
      refine tv_t ((nI_leI (a := T) (b := A) (by omega) (by omega)).mpr (by omega)) ?_
      refine tv_b (pc' := 68) (ls' := [some (.ref 57)]) (st' := [.int 0]) (h' := (n, sl, wKK kk, (rdI I xs (nI A) xt xm xf xl xc cd), L, wQQ q)) 1 rfl ?_
      have e := pa_sk_end (b := tx) (n := T) (p := A) (by omega)
      exact tv_rz rfl (Or.inl rfl) ⟨by rw [e, if_neg (by omega)], by rw [e]⟩
    · refine tv_b (pc' := 19) (ls' := [some (.ref 57)]) (st' := [.int (nI A), .ref 58]) (h' := (n, sl, wKK kk, (rdI I xs (nI A) xt xm xf xl xc cd), L, wQQ q)) 4 rfl ?_
      refine tv_balN (k := A) rfl (rfl) (⟨by first | exact Or.inl rfl | exact Or.inr rfl, by omega, by omega⟩) ?_
      refine tv_top ((hH.2.2 A (by omega)).2) ?_
      refine tv_b (pc' := (if (pa_by (tx A)) = 10 then 39 else 25)) (ls' := [some (.ref 57)]) (st' := []) (h' := (n, sl, wKK kk, (rdI I xs (nI A) xt xm xf xl xc cd), L, wQQ q)) 2 rfl ?_
      refine tv_if (fun c22 => ?_) (fun c22 => ?_)
      · refine tv_b (pc' := 45) (ls' := [some (.ref 57)]) (st' := [.int 1, .int (nI A), .ref 57]) (h' := (n, sl, wKK kk, (rdI I xs (nI A) xt xm xf xl xc cd), L, wQQ q)) 4 rfl ?_
        refine tv_b (pc' := 46) (ls' := [some (.ref 57)]) (st' := [.int ((nI A) + 1), .ref 57]) (h' := (n, sl, wKK kk, (rdI I xs (nI A) xt xm xf xl xc cd), L, wQQ q)) 1 rfl ?_
        refine tv_top (show (nI A) + 1 = nI (A + 1) from nI_add A 1) ?_
        refine tv_b (pc' := 49) (ls' := [some (.ref 57)]) (st' := []) (h' := (n, sl, wKK kk, va_up (rdI I xs (nI A) xt xm xf xl xc cd) 57 (upd ((rdI I xs (nI A) xt xm xf xl xc cd) 57) 3 (nI (A + 1))), L, wQQ q)) 1 rfl ?_
        refine tv_hI rdI_w_xa ?_
        refine tv_b (pc' := 0) (ls' := [some (.ref 57)]) (st' := []) (h' := (n, sl, wKK kk, (rdI I xs (nI (A + 1)) xt xm xf xl xc cd), L, wQQ q)) 1 rfl ?_
        have e := pa_sk_s (b := tx) (n := T) (p := A) (by omega) ((pa_by_bl _ (hH.2.2 A (by omega)).1).mp (Or.inl c22))
        rw [e]
        exact ih (A + 1) (by omega) (by omega)
      · refine tv_b (pc' := 33) (ls' := [some (.ref 57)]) (st' := [.int (nI A), .ref 58]) (h' := (n, sl, wKK kk, (rdI I xs (nI A) xt xm xf xl xc cd), L, wQQ q)) 4 rfl ?_
        refine tv_balN (k := A) rfl (rfl) (⟨by first | exact Or.inl rfl | exact Or.inr rfl, by omega, by omega⟩) ?_
        refine tv_top ((hH.2.2 A (by omega)).2) ?_
        refine tv_b (pc' := (if (pa_by (tx A)) = 32 then 39 else 52)) (ls' := [some (.ref 57)]) (st' := []) (h' := (n, sl, wKK kk, (rdI I xs (nI A) xt xm xf xl xc cd), L, wQQ q)) 2 rfl ?_
        refine tv_if (fun c36 => ?_) (fun c36 => ?_)
        · refine tv_b (pc' := 45) (ls' := [some (.ref 57)]) (st' := [.int 1, .int (nI A), .ref 57]) (h' := (n, sl, wKK kk, (rdI I xs (nI A) xt xm xf xl xc cd), L, wQQ q)) 4 rfl ?_
          refine tv_b (pc' := 46) (ls' := [some (.ref 57)]) (st' := [.int ((nI A) + 1), .ref 57]) (h' := (n, sl, wKK kk, (rdI I xs (nI A) xt xm xf xl xc cd), L, wQQ q)) 1 rfl ?_
          refine tv_top (show (nI A) + 1 = nI (A + 1) from nI_add A 1) ?_
          refine tv_b (pc' := 49) (ls' := [some (.ref 57)]) (st' := []) (h' := (n, sl, wKK kk, va_up (rdI I xs (nI A) xt xm xf xl xc cd) 57 (upd ((rdI I xs (nI A) xt xm xf xl xc cd) 57) 3 (nI (A + 1))), L, wQQ q)) 1 rfl ?_
          refine tv_hI rdI_w_xa ?_
          refine tv_b (pc' := 0) (ls' := [some (.ref 57)]) (st' := []) (h' := (n, sl, wKK kk, (rdI I xs (nI (A + 1)) xt xm xf xl xc cd), L, wQQ q)) 1 rfl ?_
          have e := pa_sk_s (b := tx) (n := T) (p := A) (by omega) ((pa_by_bl _ (hH.2.2 A (by omega)).1).mp (Or.inr c36))
          rw [e]
          exact ih (A + 1) (by omega) (by omega)
        · refine tv_b (pc' := 60) (ls' := [some (.ref 57)]) (st' := [.int (I 57 1), .int (nI A)]) (h' := (n, sl, wKK kk, (rdI I xs (nI A) xt xm xf xl xc cd), L, wQQ q)) 4 rfl ?_
          refine tv_top (hH.1) ?_
          refine tv_b (pc' := (if (nI T) ≤ (nI A) then 67 else 63)) (ls' := [some (.ref 57)]) (st' := []) (h' := (n, sl, wKK kk, (rdI I xs (nI A) xt xm xf xl xc cd), L, wQQ q)) 1 rfl ?_
          refine tv_f (fun hq => absurd ((nI_leI (a := T) (b := A) (by omega) (by omega)).mp hq) (by omega)) ?_
          refine tv_b (pc' := 68) (ls' := [some (.ref 57)]) (st' := [.int 1]) (h' := (n, sl, wKK kk, (rdI I xs (nI A) xt xm xf xl xc cd), L, wQQ q)) 2 rfl ?_
          have e : pa_sk tx T A = A := pa_sk_0 (Bool.eq_false_iff.mpr (fun q => ((pa_by_bl _ (hH.2.2 A (by omega)).1).mpr q).elim c22 c36))
          exact tv_rz rfl (Or.inr rfl) ⟨by rw [e, if_pos (by omega)], by rw [e]⟩
