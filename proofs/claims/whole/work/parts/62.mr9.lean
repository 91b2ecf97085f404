/-! THE REFERENCE'S READER: mandate as a whole -/
def mdI (I : Nat → Nat → Int32) (ta sz se fk fp be nt co : Int32) (r82 : Nat → Int32) (j i : Nat) : Int32 := cond (Nat.beq j 80) (cond (Nat.beq i 1) ta (cond (Nat.beq i 2) sz (cond (Nat.beq i 5) se (cond (Nat.beq i 8) fk (cond (Nat.beq i 9) fp (cond (Nat.beq i 13) be (cond (Nat.beq i 14) nt (cond (Nat.beq i 21) co (I 80 i))))))))) (cond (Nat.beq j 82) (r82 i) (I j i))
theorem mdI_nb : ∀ {i k : Nat}, ¬ i = k → Nat.beq i k = false := fun h => Bool.eq_false_iff.mpr (fun q => h (Nat.eq_of_beq_eq_true q))
theorem mdI_w_ta {I : Nat → Nat → Int32} {ta sz se fk fp be nt co : Int32} {r82 : Nat → Int32} {y : Int32} : va_up (mdI I ta sz se fk fp be nt co r82) 80 (upd ((mdI I ta sz se fk fp be nt co r82) 80) 1 y) = mdI I y sz se fk fp be nt co r82 := by
  funext j i
  unfold va_up upd
  by_cases hj : j = 80
  · subst hj
    by_cases hi : i = 1
    · subst hi; rfl
    · rw [if_pos rfl, if_neg hi]; unfold mdI; simp only [mdI_nb hi, cond_false]
  · rw [if_neg hj]; unfold mdI; simp only [mdI_nb hj, cond_false]
theorem mdI_w_sz {I : Nat → Nat → Int32} {ta sz se fk fp be nt co : Int32} {r82 : Nat → Int32} {y : Int32} : va_up (mdI I ta sz se fk fp be nt co r82) 80 (upd ((mdI I ta sz se fk fp be nt co r82) 80) 2 y) = mdI I ta y se fk fp be nt co r82 := by
  funext j i
  unfold va_up upd
  by_cases hj : j = 80
  · subst hj
    by_cases hi : i = 2
    · subst hi; rfl
    · rw [if_pos rfl, if_neg hi]; unfold mdI; simp only [mdI_nb hi, cond_false]
  · rw [if_neg hj]; unfold mdI; simp only [mdI_nb hj, cond_false]
theorem mdI_w_se {I : Nat → Nat → Int32} {ta sz se fk fp be nt co : Int32} {r82 : Nat → Int32} {y : Int32} : va_up (mdI I ta sz se fk fp be nt co r82) 80 (upd ((mdI I ta sz se fk fp be nt co r82) 80) 5 y) = mdI I ta sz y fk fp be nt co r82 := by
  funext j i
  unfold va_up upd
  by_cases hj : j = 80
  · subst hj
    by_cases hi : i = 5
    · subst hi; rfl
    · rw [if_pos rfl, if_neg hi]; unfold mdI; simp only [mdI_nb hi, cond_false]
  · rw [if_neg hj]; unfold mdI; simp only [mdI_nb hj, cond_false]
theorem mdI_w_fk {I : Nat → Nat → Int32} {ta sz se fk fp be nt co : Int32} {r82 : Nat → Int32} {y : Int32} : va_up (mdI I ta sz se fk fp be nt co r82) 80 (upd ((mdI I ta sz se fk fp be nt co r82) 80) 8 y) = mdI I ta sz se y fp be nt co r82 := by
  funext j i
  unfold va_up upd
  by_cases hj : j = 80
  · subst hj
    by_cases hi : i = 8
    · subst hi; rfl
    · rw [if_pos rfl, if_neg hi]; unfold mdI; simp only [mdI_nb hi, cond_false]
  · rw [if_neg hj]; unfold mdI; simp only [mdI_nb hj, cond_false]
theorem mdI_w_fp {I : Nat → Nat → Int32} {ta sz se fk fp be nt co : Int32} {r82 : Nat → Int32} {y : Int32} : va_up (mdI I ta sz se fk fp be nt co r82) 80 (upd ((mdI I ta sz se fk fp be nt co r82) 80) 9 y) = mdI I ta sz se fk y be nt co r82 := by
  funext j i
  unfold va_up upd
  by_cases hj : j = 80
  · subst hj
    by_cases hi : i = 9
    · subst hi; rfl
    · rw [if_pos rfl, if_neg hi]; unfold mdI; simp only [mdI_nb hi, cond_false]
  · rw [if_neg hj]; unfold mdI; simp only [mdI_nb hj, cond_false]
theorem mdI_w_be {I : Nat → Nat → Int32} {ta sz se fk fp be nt co : Int32} {r82 : Nat → Int32} {y : Int32} : va_up (mdI I ta sz se fk fp be nt co r82) 80 (upd ((mdI I ta sz se fk fp be nt co r82) 80) 13 y) = mdI I ta sz se fk fp y nt co r82 := by
  funext j i
  unfold va_up upd
  by_cases hj : j = 80
  · subst hj
    by_cases hi : i = 13
    · subst hi; rfl
    · rw [if_pos rfl, if_neg hi]; unfold mdI; simp only [mdI_nb hi, cond_false]
  · rw [if_neg hj]; unfold mdI; simp only [mdI_nb hj, cond_false]
theorem mdI_w_nt {I : Nat → Nat → Int32} {ta sz se fk fp be nt co : Int32} {r82 : Nat → Int32} {y : Int32} : va_up (mdI I ta sz se fk fp be nt co r82) 80 (upd ((mdI I ta sz se fk fp be nt co r82) 80) 14 y) = mdI I ta sz se fk fp be y co r82 := by
  funext j i
  unfold va_up upd
  by_cases hj : j = 80
  · subst hj
    by_cases hi : i = 14
    · subst hi; rfl
    · rw [if_pos rfl, if_neg hi]; unfold mdI; simp only [mdI_nb hi, cond_false]
  · rw [if_neg hj]; unfold mdI; simp only [mdI_nb hj, cond_false]
theorem mdI_w_co {I : Nat → Nat → Int32} {ta sz se fk fp be nt co : Int32} {r82 : Nat → Int32} {y : Int32} : va_up (mdI I ta sz se fk fp be nt co r82) 80 (upd ((mdI I ta sz se fk fp be nt co r82) 80) 21 y) = mdI I ta sz se fk fp be nt y r82 := by
  funext j i
  unfold va_up upd
  by_cases hj : j = 80
  · subst hj
    by_cases hi : i = 21
    · subst hi; rfl
    · rw [if_pos rfl, if_neg hi]; unfold mdI; simp only [mdI_nb hi, cond_false]
  · rw [if_neg hj]; unfold mdI; simp only [mdI_nb hj, cond_false]
theorem mdI_w_r82 {I : Nat → Nat → Int32} {ta sz se fk fp be nt co : Int32} {r82 : Nat → Int32} {y : Int32} {k : Nat} : va_up (mdI I ta sz se fk fp be nt co r82) 82 (upd ((mdI I ta sz se fk fp be nt co r82) 82) k y) = mdI I ta sz se fk fp be nt co (upd r82 k y) := by
  funext j i
  unfold va_up
  by_cases hj : j = 82
  · subst hj; rfl
  · rw [if_neg hj]; unfold mdI; simp only [mdI_nb hj, cond_false]
def mtI (I : Nat → Nat → Int32) (t1 t2 : Int32) (j i : Nat) : Int32 := cond (Nat.beq j 80) (cond (Nat.beq i 10) t1 (cond (Nat.beq i 11) t2 (I 80 i))) (I j i)
theorem mtI_nb : ∀ {i k : Nat}, ¬ i = k → Nat.beq i k = false := fun h => Bool.eq_false_iff.mpr (fun q => h (Nat.eq_of_beq_eq_true q))
theorem mtI_w_t1 {I : Nat → Nat → Int32} {t1 t2 : Int32} {y : Int32} : va_up (mtI I t1 t2) 80 (upd ((mtI I t1 t2) 80) 10 y) = mtI I y t2 := by
  funext j i
  unfold va_up upd
  by_cases hj : j = 80
  · subst hj
    by_cases hi : i = 10
    · subst hi; rfl
    · rw [if_pos rfl, if_neg hi]; unfold mtI; simp only [mtI_nb hi, cond_false]
  · rw [if_neg hj]; unfold mtI; simp only [mtI_nb hj, cond_false]
theorem mtI_w_t2 {I : Nat → Nat → Int32} {t1 t2 : Int32} {y : Int32} : va_up (mtI I t1 t2) 80 (upd ((mtI I t1 t2) 80) 11 y) = mtI I t1 y := by
  funext j i
  unfold va_up upd
  by_cases hj : j = 80
  · subst hj
    by_cases hi : i = 11
    · subst hi; rfl
    · rw [if_pos rfl, if_neg hi]; unfold mtI; simp only [mtI_nb hi, cond_false]
  · rw [if_neg hj]; unfold mtI; simp only [mtI_nb hj, cond_false]
theorem md_self {J : Nat → Nat → Int32} : J = mdI J (J 80 1) (J 80 2) (J 80 5) (J 80 8) (J 80 9) (J 80 13) (J 80 14) (J 80 21) (J 82) := by
  funext j i
  unfold mdI
  by_cases hj : j = 80
  · subst hj
    by_cases h1 : i = 1
    · subst h1; rfl
    by_cases h2 : i = 2
    · subst h2; rfl
    by_cases h5 : i = 5
    · subst h5; rfl
    by_cases h8 : i = 8
    · subst h8; rfl
    by_cases h9 : i = 9
    · subst h9; rfl
    by_cases h13 : i = 13
    · subst h13; rfl
    by_cases h14 : i = 14
    · subst h14; rfl
    by_cases h21 : i = 21
    · subst h21; rfl
    simp only [rdI_nb h1, rdI_nb h2, rdI_nb h5, rdI_nb h8, rdI_nb h9, rdI_nb h13, rdI_nb h14, rdI_nb h21, cond_false]
    try rfl
  · by_cases g82 : j = 82
    · subst g82; rfl
    simp only [rdI_nb hj, rdI_nb g82, cond_false]
theorem mw_self {L : Nat → Nat → Int64} : L = mwL L (L 80 7) := by
  funext j i
  unfold mwL
  by_cases hj : j = 80
  · subst hj
    by_cases h7 : i = 7
    · subst h7; rfl
    · simp only [rdI_nb h7, cond_false]; cases Nat.beq 80 80 <;> rfl
  · simp only [rdI_nb hj, cond_false]
theorem ms_self {J : Nat → Nat → Int32} : J = mrI (stI J (J 82) (J 83) (J 84) (J 85) (J 86)) (J 80) (J 80 8) (J 80 9) (J 80 13) (J 80 21) (J 80 27) (J 80 28) (J 80 30) (J 80 31) (J 87) (J 88) (J 89) (J 90) (J 91) (J 92) (J 93) := by
  funext j i
  unfold mrI stI
  by_cases hj : j = 80
  · subst hj
    cases e : mtkF i with
    | true => simp only [cond_true]; rfl
    | false =>
      by_cases h8 : i = 8
      · subst h8; rfl
      by_cases h9 : i = 9
      · subst h9; rfl
      by_cases h13 : i = 13
      · subst h13; rfl
      by_cases h21 : i = 21
      · subst h21; rfl
      by_cases h27 : i = 27
      · subst h27; rfl
      by_cases h28 : i = 28
      · subst h28; rfl
      by_cases h30 : i = 30
      · subst h30; rfl
      by_cases h31 : i = 31
      · subst h31; rfl
      simp only [rdI_nb h8, rdI_nb h9, rdI_nb h13, rdI_nb h21, rdI_nb h27, rdI_nb h28, rdI_nb h30, rdI_nb h31, cond_false]
      rfl
  · by_cases g0 : j = 82
    · subst g0; rfl
    by_cases g1 : j = 83
    · subst g1; rfl
    by_cases g2 : j = 84
    · subst g2; rfl
    by_cases g3 : j = 85
    · subst g3; rfl
    by_cases g4 : j = 86
    · subst g4; rfl
    by_cases g5 : j = 87
    · subst g5; rfl
    by_cases g6 : j = 88
    · subst g6; rfl
    by_cases g7 : j = 89
    · subst g7; rfl
    by_cases g8 : j = 90
    · subst g8; rfl
    by_cases g9 : j = 91
    · subst g9; rfl
    by_cases g10 : j = 92
    · subst g10; rfl
    by_cases g11 : j = 93
    · subst g11; rfl
    simp only [rdI_nb hj, rdI_nb g0, rdI_nb g1, rdI_nb g2, rdI_nb g3, rdI_nb g4, rdI_nb g5, rdI_nb g6, rdI_nb g7, rdI_nb g8, rdI_nb g9, rdI_nb g10, rdI_nb g11, cond_false]
def entI (I : Nat → Nat → Int32) (ac : Int32) (r107 r108 r109 r110 r111 r112 : Nat → Int32) (j i : Nat) : Int32 := cond (Nat.beq j 80) (cond (Nat.beq i 45) ac (I 80 i)) (cond (Nat.beq j 107) (r107 i) (cond (Nat.beq j 108) (r108 i) (cond (Nat.beq j 109) (r109 i) (cond (Nat.beq j 110) (r110 i) (cond (Nat.beq j 111) (r111 i) (cond (Nat.beq j 112) (r112 i) (I j i)))))))
theorem entI_nb : ∀ {i k : Nat}, ¬ i = k → Nat.beq i k = false := fun h => Bool.eq_false_iff.mpr (fun q => h (Nat.eq_of_beq_eq_true q))
theorem entI_w_ac {I : Nat → Nat → Int32} {ac : Int32} {r107 r108 r109 r110 r111 r112 : Nat → Int32} {y : Int32} : va_up (entI I ac r107 r108 r109 r110 r111 r112) 80 (upd ((entI I ac r107 r108 r109 r110 r111 r112) 80) 45 y) = entI I y r107 r108 r109 r110 r111 r112 := by
  funext j i
  unfold va_up upd
  by_cases hj : j = 80
  · subst hj
    by_cases hi : i = 45
    · subst hi; rfl
    · rw [if_pos rfl, if_neg hi]; unfold entI; simp only [entI_nb hi, cond_false]
  · rw [if_neg hj]; unfold entI; simp only [entI_nb hj, cond_false]
theorem entI_w_r107 {I : Nat → Nat → Int32} {ac : Int32} {r107 r108 r109 r110 r111 r112 : Nat → Int32} {y : Int32} {k : Nat} : va_up (entI I ac r107 r108 r109 r110 r111 r112) 107 (upd ((entI I ac r107 r108 r109 r110 r111 r112) 107) k y) = entI I ac (upd r107 k y) r108 r109 r110 r111 r112 := by
  funext j i
  unfold va_up
  by_cases hj : j = 107
  · subst hj; rfl
  · rw [if_neg hj]; unfold entI; simp only [entI_nb hj, cond_false]
theorem entI_w_r108 {I : Nat → Nat → Int32} {ac : Int32} {r107 r108 r109 r110 r111 r112 : Nat → Int32} {y : Int32} {k : Nat} : va_up (entI I ac r107 r108 r109 r110 r111 r112) 108 (upd ((entI I ac r107 r108 r109 r110 r111 r112) 108) k y) = entI I ac r107 (upd r108 k y) r109 r110 r111 r112 := by
  funext j i
  unfold va_up
  by_cases hj : j = 108
  · subst hj; rfl
  · rw [if_neg hj]; unfold entI; simp only [entI_nb hj, cond_false]
theorem entI_w_r109 {I : Nat → Nat → Int32} {ac : Int32} {r107 r108 r109 r110 r111 r112 : Nat → Int32} {y : Int32} {k : Nat} : va_up (entI I ac r107 r108 r109 r110 r111 r112) 109 (upd ((entI I ac r107 r108 r109 r110 r111 r112) 109) k y) = entI I ac r107 r108 (upd r109 k y) r110 r111 r112 := by
  funext j i
  unfold va_up
  by_cases hj : j = 109
  · subst hj; rfl
  · rw [if_neg hj]; unfold entI; simp only [entI_nb hj, cond_false]
theorem entI_w_r110 {I : Nat → Nat → Int32} {ac : Int32} {r107 r108 r109 r110 r111 r112 : Nat → Int32} {y : Int32} {k : Nat} : va_up (entI I ac r107 r108 r109 r110 r111 r112) 110 (upd ((entI I ac r107 r108 r109 r110 r111 r112) 110) k y) = entI I ac r107 r108 r109 (upd r110 k y) r111 r112 := by
  funext j i
  unfold va_up
  by_cases hj : j = 110
  · subst hj; rfl
  · rw [if_neg hj]; unfold entI; simp only [entI_nb hj, cond_false]
theorem entI_w_r111 {I : Nat → Nat → Int32} {ac : Int32} {r107 r108 r109 r110 r111 r112 : Nat → Int32} {y : Int32} {k : Nat} : va_up (entI I ac r107 r108 r109 r110 r111 r112) 111 (upd ((entI I ac r107 r108 r109 r110 r111 r112) 111) k y) = entI I ac r107 r108 r109 r110 (upd r111 k y) r112 := by
  funext j i
  unfold va_up
  by_cases hj : j = 111
  · subst hj; rfl
  · rw [if_neg hj]; unfold entI; simp only [entI_nb hj, cond_false]
theorem entI_w_r112 {I : Nat → Nat → Int32} {ac : Int32} {r107 r108 r109 r110 r111 r112 : Nat → Int32} {y : Int32} {k : Nat} : va_up (entI I ac r107 r108 r109 r110 r111 r112) 112 (upd ((entI I ac r107 r108 r109 r110 r111 r112) 112) k y) = entI I ac r107 r108 r109 r110 r111 (upd r112 k y) := by
  funext j i
  unfold va_up
  by_cases hj : j = 112
  · subst hj; rfl
  · rw [if_neg hj]; unfold entI; simp only [entI_nb hj, cond_false]
theorem ent_eq {s x a b c : Int32} {I : Nat → Nat → Int32} {L : Nat → Nat → Int64} {C : Nat} (hC : I 80 45 = nI C) (hC2 : C < 200) : sp_m_enter s x a b c I L = nI (C + 1) ∧ sI_m_enter s x a b c I L = entI I (nI (C + 1)) (upd (I 107) (C + 1) s) (upd (I 108) (C + 1) x) (upd (I 109) (C + 1) a) (upd (I 110) (C + 1) b) (upd (I 111) (C + 1) c) (upd (I 112) (C + 1) 0) := by
  have hE1 : (nI C : Int32) + 1 = nI (C + 1) := nI_1 C
  have hcl : (nI (C + 1)).toNatClampNeg = C + 1 := nI_clamp (by omega)
  have h200 : ¬ nI C = 200 := fun h => by have := (nI_eq (a := C) (b := 200) (by omega) (by omega)).mp h; omega
  unfold sp_m_enter sI_m_enter
  rw [hC, if_neg h200, if_neg h200, hE1, hcl]
  refine ⟨rfl, ?_⟩
  funext j i
  by_cases g0 : j = 80
  · subst g0
    by_cases hi : i = 45
    · subst hi; rfl
    · unfold entI
      show upd (I 80) 45 (nI (C + 1)) i = cond (Nat.beq 80 80) (cond (Nat.beq i 45) (nI (C + 1)) (I 80 i)) _
      rw [upd_n hi, rdI_nb hi]
      rfl
  by_cases g1 : j = 107
  · subst g1; rfl
  by_cases g2 : j = 108
  · subst g2; rfl
  by_cases g3 : j = 109
  · subst g3; rfl
  by_cases g4 : j = 110
  · subst g4; rfl
  by_cases g5 : j = 111
  · subst g5; rfl
  by_cases g6 : j = 112
  · subst g6; rfl
  unfold entI va_up
  simp only [if_neg g0, if_neg g1, if_neg g2, if_neg g3, if_neg g4, if_neg g5, if_neg g6, rdI_nb g0, rdI_nb g1, rdI_nb g2, rdI_nb g3, rdI_nb g4, rdI_nb g5, rdI_nb g6, cond_false]
theorem mt_self {J : Nat → Nat → Int32} : J = mtI J (J 80 10) (J 80 11)  := by
  funext j i
  unfold mtI
  by_cases hj : j = 80
  · subst hj
    by_cases h10 : i = 10
    · subst h10; rfl
    by_cases h11 : i = 11
    · subst h11; rfl
    simp only [rdI_nb h10, rdI_nb h11, cond_false]
    try rfl
  · simp only [rdI_nb hj, cond_false]
theorem tv_m_mandF {d n sl : Nat} {kk : Nat → Nat × Nat} {I : Nat → Nat → Int32} {L : Nat → Nat → Int64} {q : Nat → Nat → Option Nat} {y1 y2 : Int32} {Q : Option Value → am_H → Prop} (hk : ¬ I 80 8 ≤ 0) (hQ : Q (some (.int (-1))) (n, sl, wKK kk, mtI I (I 80 8) (I 80 9), L, wQQ q)) : am_T (d + 1) 179 105 [some (.ref 80), some (.int y1), some (.int y2)] [] (n, sl, wKK kk, I, L, wQQ q) Q := by
  refine tv_hI mt_self ?_
  refine tv_b (pc' := 113) (ls' := [some (.ref 80), some (.int y1), some (.int y2)]) (st' := []) (h' := (n, sl, wKK kk, va_up (mtI I (I 80 10) (I 80 11)) 80 (upd ((mtI I (I 80 10) (I 80 11)) 80) 10 (I 80 8)), L, wQQ q)) 4 rfl ?_
  refine tv_hI mtI_w_t1 ?_
  refine tv_b (pc' := 121) (ls' := [some (.ref 80), some (.int y1), some (.int y2)]) (st' := []) (h' := (n, sl, wKK kk, va_up (mtI I (I 80 8) (I 80 11)) 80 (upd ((mtI I (I 80 8) (I 80 11)) 80) 11 (I 80 9)), L, wQQ q)) 4 rfl ?_
  refine tv_hI mtI_w_t2 ?_
  refine tv_b (pc' := (if (I 80 8) ≤ 0 then 130 else 128)) (ls' := [some (.ref 80), some (.int y1), some (.int y2)]) (st' := []) (h' := (n, sl, wKK kk, (mtI I (I 80 8) (I 80 9)), L, wQQ q)) 3 rfl ?_
  refine tv_f (hk) ?_
  refine tv_b (pc' := 129) (ls' := [some (.ref 80), some (.int y1), some (.int y2)]) (st' := [.int (-1)]) (h' := (n, sl, wKK kk, (mtI I (I 80 8) (I 80 9)), L, wQQ q)) 1 rfl ?_
  exact tv_ri rfl hQ
theorem tv_m_mandN {d n sl : Nat} {kk : Nat → Nat × Nat} {I : Nat → Nat → Int32} {L : Nat → Nat → Int64} {q : Nat → Nat → Option Nat} {y1 y2 : Int32} {Q : Option Value → am_H → Prop} (hk : I 80 8 ≤ 0) (hE : ¬ (I 80 45 + 1 < 0 ∨ 201 ≤ (I 80 45 + 1).toNatClampNeg)) (hQ : Q (some (.int (sp_m_enter 4 y1 0 0 0 (mtI I (I 80 8) (I 80 9)) L))) (n, sl, wKK kk, sI_m_enter 4 y1 0 0 0 (mtI I (I 80 8) (I 80 9)) L, sL_m_enter 4 y1 0 0 0 (mtI I (I 80 8) (I 80 9)) L, wQQ q)) : am_T (d + 1) 179 105 [some (.ref 80), some (.int y1), some (.int y2)] [] (n, sl, wKK kk, I, L, wQQ q) Q := by
  refine tv_hI mt_self ?_
  refine tv_b (pc' := 113) (ls' := [some (.ref 80), some (.int y1), some (.int y2)]) (st' := []) (h' := (n, sl, wKK kk, va_up (mtI I (I 80 10) (I 80 11)) 80 (upd ((mtI I (I 80 10) (I 80 11)) 80) 10 (I 80 8)), L, wQQ q)) 4 rfl ?_
  refine tv_hI mtI_w_t1 ?_
  refine tv_b (pc' := 121) (ls' := [some (.ref 80), some (.int y1), some (.int y2)]) (st' := []) (h' := (n, sl, wKK kk, va_up (mtI I (I 80 8) (I 80 11)) 80 (upd ((mtI I (I 80 8) (I 80 11)) 80) 11 (I 80 9)), L, wQQ q)) 4 rfl ?_
  refine tv_hI mtI_w_t2 ?_
  refine tv_b (pc' := (if (I 80 8) ≤ 0 then 130 else 128)) (ls' := [some (.ref 80), some (.int y1), some (.int y2)]) (st' := []) (h' := (n, sl, wKK kk, (mtI I (I 80 8) (I 80 9)), L, wQQ q)) 3 rfl ?_
  refine tv_t (hk) ?_
  refine tv_b (pc' := 136) (ls' := [some (.ref 80), some (.int y1), some (.int y2)]) (st' := [.int 0, .int 0, .int 0, .int y1, .int 4, .ref 80]) (h' := (n, sl, wKK kk, (mtI I (I 80 8) (I 80 9)), L, wQQ q)) 6 rfl ?_
  exact tv_cvE [.int 4, .int y1, .int 0, .int 0, .int 0] [] rfl rfl (by omega) rfl (Nat.le_of_ble_eq_true rfl) (Nat.le_of_ble_eq_true rfl) (Or.inr (Or.inr rfl)) (ev_m_enter (fun _ => hE)) (tv_ri rfl hQ)
theorem md_selfT {I : Nat → Nat → Int32} {T : Nat} (h : I 80 1 = nI T) : I = mdI I (nI T) (I 80 2) (I 80 5) (I 80 8) (I 80 9) (I 80 13) (I 80 14) (I 80 21) (I 82) := by
  rw [← h]
  exact md_self
/-- what mandate leaves of the reference -/
def mdP (tx : Nat → Nat) (T C : Nat) (x : Int32) (I I' : Nat → Nat → Int32) (z : Int32) : Prop := (∀ j, (j < 80 ∨ j = 81 ∨ (93 < j ∧ ¬ (107 ≤ j ∧ j ≤ 112))) → I' j = I j) ∧ (I' 80 46 = I 80 46 ∧ I' 80 68 = I 80 68 ∧ I' 80 71 = I 80 71 ∧ I' 80 1 = 0) ∧ ((∀ j, j ≠ C + 1 → I' 82 j = I 82 j) ∧ (∀ j, j < 20 * (C + 1) → I' 83 j = I 83 j ∧ I' 84 j = I 84 j ∧ I' 85 j = I 85 j ∧ I' 86 j = I 86 j) ∧ (∀ j, j < 800 * (C + 1) → I' 87 j = I 87 j)) ∧ (match pa_read tx T with
  | .inl (k, pl) => z = -1 ∧ (k ≠ 0 ∧ k ≤ 5 ∧ pl ≤ 800) ∧ I' 80 10 = nI k ∧ I' 80 11 = nI pl ∧ I' 80 45 = I 80 45 ∧ ∀ j, 107 ≤ j → j ≤ 112 → I' j = I j
  | .inr l => z = nI (C + 1) ∧ I' 80 10 = 0 ∧ I' 80 11 = -1 ∧ I' 80 45 = nI (C + 1) ∧ I' 107 = upd (I 107) (C + 1) 4 ∧ I' 108 = upd (I 108) (C + 1) x ∧ I' 109 = upd (I 109) (C + 1) 0 ∧ I' 110 = upd (I 110) (C + 1) 0 ∧ I' 111 = upd (I 111) (C + 1) 0 ∧ I' 112 = upd (I 112) (C + 1) 0 ∧ l.length ≤ 20 ∧ I' 82 (C + 1) = nI l.length ∧ cdL (C + 1) (I' 83) (I' 84) (I' 85) (I' 86) (I' 87) 0 l)
set_option maxHeartbeats 4000000 in
theorem tv_m_mandate {d n sl : Nat} {kk : Nat → Nat × Nat} {I : Nat → Nat → Int32} {L : Nat → Nat → Int64} {q : Nat → Nat → Option Nat} {tx : Nat → Nat} {T C : Nat} {x : Int32} (hTa : I 80 1 = nI T) (hT8 : T ≤ 800) (htx : ∀ i, i < T → tx i < 256 ∧ I 81 i = nI (tx i)) (hC : I 80 45 = nI C) (hC2 : C < 200) (hx : ¬ sp_m_isDay x = 0) : am_T (d + 9) 179 0 (am_ent 3 [.ref 80, .int x]) [] (n, sl, wKK kk, I, L, wQQ q) (fun rv h' => ∃ z I' w', rv = some (.int z) ∧ h' = (n, sl, wKK kk, I', mwL L w', wQQ q) ∧ mdP tx T C x I I' z) := by
  refine tv_hI (md_selfT hTa) ?_
  show am_T _ _ 0 [some (.ref 80), some (.int x), none] _ _ _
  refine tv_b (pc' := 10) (ls' := [some (.ref 80), some (.int x), some (.int (nI T))]) (st' := []) (h' := (n, sl, wKK kk, va_up (mdI I (nI T) (I 80 2) (I 80 5) (I 80 8) (I 80 9) (I 80 13) (I 80 14) (I 80 21) (I 82)) 80 (upd ((mdI I (nI T) (I 80 2) (I 80 5) (I 80 8) (I 80 9) (I 80 13) (I 80 14) (I 80 21) (I 82)) 80) 1 0), L, wQQ q)) 6 rfl ?_
  refine tv_hI mdI_w_ta ?_
  refine tv_b (pc' := 11) (ls' := [some (.ref 80), some (.int x), some (.int (nI T))]) (st' := [.int x]) (h' := (n, sl, wKK kk, (mdI I 0 (I 80 2) (I 80 5) (I 80 8) (I 80 9) (I 80 13) (I 80 14) (I 80 21) (I 82)), L, wQQ q)) 1 rfl ?_
  refine tv_csE [.int x] [] rfl rfl (by omega) rfl (Nat.le_of_ble_eq_true rfl) (Nat.le_of_ble_eq_true rfl) (ev_m_isDay) ?_
  refine tv_b (pc' := (if (sp_m_isDay x) = 0 then 27 else 17)) (ls' := [some (.ref 80), some (.int x), some (.int (nI T))]) (st' := []) (h' := (n, sl, wKK kk, (mdI I 0 (I 80 2) (I 80 5) (I 80 8) (I 80 9) (I 80 13) (I 80 14) (I 80 21) (I 82)), L, wQQ q)) 1 rfl ?_
  refine tv_f (hx) ?_
  refine tv_b (pc' := 21) (ls' := [some (.ref 80), some (.int x), some (.int (nI T))]) (st' := [.int (I 80 45)]) (h' := (n, sl, wKK kk, (mdI I 0 (I 80 2) (I 80 5) (I 80 8) (I 80 9) (I 80 13) (I 80 14) (I 80 21) (I 82)), L, wQQ q)) 2 rfl ?_
  refine tv_top (hC) ?_
  refine tv_b (pc' := (if (nI C) = 200 then 27 else 30)) (ls' := [some (.ref 80), some (.int x), some (.int (nI T))]) (st' := []) (h' := (n, sl, wKK kk, (mdI I 0 (I 80 2) (I 80 5) (I 80 8) (I 80 9) (I 80 13) (I 80 14) (I 80 21) (I 82)), L, wQQ q)) 2 rfl ?_
  refine tv_f (fun hq => absurd ((nI_eq (a := C) (b := 200) (by omega) (by omega)).mp hq) (by omega)) ?_
  refine tv_b (pc' := 35) (ls' := [some (.ref 80), some (.int x), some (.int (nI T))]) (st' := []) (h' := (n, sl, wKK kk, va_up (mdI I 0 (I 80 2) (I 80 5) (I 80 8) (I 80 9) (I 80 13) (I 80 14) (I 80 21) (I 82)) 80 (upd ((mdI I 0 (I 80 2) (I 80 5) (I 80 8) (I 80 9) (I 80 13) (I 80 14) (I 80 21) (I 82)) 80) 2 (nI T)), L, wQQ q)) 3 rfl ?_
  refine tv_hI mdI_w_sz ?_
  refine tv_b (pc' := 40) (ls' := [some (.ref 80), some (.int x), some (.int (nI T))]) (st' := []) (h' := (n, sl, wKK kk, va_up (mdI I 0 (nI T) (I 80 5) (I 80 8) (I 80 9) (I 80 13) (I 80 14) (I 80 21) (I 82)) 80 (upd ((mdI I 0 (nI T) (I 80 5) (I 80 8) (I 80 9) (I 80 13) (I 80 14) (I 80 21) (I 82)) 80) 5 0), L, wQQ q)) 3 rfl ?_
  refine tv_hI mdI_w_se ?_
  refine tv_b (pc' := 45) (ls' := [some (.ref 80), some (.int x), some (.int (nI T))]) (st' := []) (h' := (n, sl, wKK kk, va_up (mdI I 0 (nI T) 0 (I 80 8) (I 80 9) (I 80 13) (I 80 14) (I 80 21) (I 82)) 80 (upd ((mdI I 0 (nI T) 0 (I 80 8) (I 80 9) (I 80 13) (I 80 14) (I 80 21) (I 82)) 80) 8 0), L, wQQ q)) 3 rfl ?_
  refine tv_hI mdI_w_fk ?_
  refine tv_b (pc' := 50) (ls' := [some (.ref 80), some (.int x), some (.int (nI T))]) (st' := []) (h' := (n, sl, wKK kk, va_up (mdI I 0 (nI T) 0 0 (I 80 9) (I 80 13) (I 80 14) (I 80 21) (I 82)) 80 (upd ((mdI I 0 (nI T) 0 0 (I 80 9) (I 80 13) (I 80 14) (I 80 21) (I 82)) 80) 9 (-1)), L, wQQ q)) 3 rfl ?_
  refine tv_hI mdI_w_fp ?_
  refine tv_b (pc' := 55) (ls' := [some (.ref 80), some (.int x), some (.int (nI T))]) (st' := [.int (I 80 45), .ref 80]) (h' := (n, sl, wKK kk, (mdI I 0 (nI T) 0 0 (-1) (I 80 13) (I 80 14) (I 80 21) (I 82)), L, wQQ q)) 3 rfl ?_
  refine tv_top (hC) ?_
  refine tv_b (pc' := 56) (ls' := [some (.ref 80), some (.int x), some (.int (nI T))]) (st' := [.int 1, .int (nI C), .ref 80]) (h' := (n, sl, wKK kk, (mdI I 0 (nI T) 0 0 (-1) (I 80 13) (I 80 14) (I 80 21) (I 82)), L, wQQ q)) 1 rfl ?_
  refine tv_b (pc' := 57) (ls' := [some (.ref 80), some (.int x), some (.int (nI T))]) (st' := [.int ((nI C) + 1), .ref 80]) (h' := (n, sl, wKK kk, (mdI I 0 (nI T) 0 0 (-1) (I 80 13) (I 80 14) (I 80 21) (I 82)), L, wQQ q)) 1 rfl ?_
  refine tv_top (show (nI C) + 1 = nI (C + 1) from nI_add C 1) ?_
  refine tv_b (pc' := 60) (ls' := [some (.ref 80), some (.int x), some (.int (nI T))]) (st' := []) (h' := (n, sl, wKK kk, va_up (mdI I 0 (nI T) 0 0 (-1) (I 80 13) (I 80 14) (I 80 21) (I 82)) 80 (upd ((mdI I 0 (nI T) 0 0 (-1) (I 80 13) (I 80 14) (I 80 21) (I 82)) 80) 14 (nI (C + 1))), L, wQQ q)) 1 rfl ?_
  refine tv_hI mdI_w_nt ?_
  refine tv_b (pc' := 69) (ls' := [some (.ref 80), some (.int x), some (.int (nI T))]) (st' := [.int 0, .int (nI (C + 1)), .ref 82]) (h' := (n, sl, wKK kk, (mdI I 0 (nI T) 0 0 (-1) (I 80 13) (nI (C + 1)) (I 80 21) (I 82)), L, wQQ q)) 5 rfl ?_
  refine tv_iasN (k := (C + 1)) rfl (rfl) (⟨by omega, by omega⟩) ?_
  refine tv_hI mdI_w_r82 ?_
  refine tv_b (pc' := 75) (ls' := [some (.ref 80), some (.int x), some (.int (nI T))]) (st' := []) (h' := (n, sl, wKK kk, va_up (mdI I 0 (nI T) 0 0 (-1) (I 80 13) (nI (C + 1)) (I 80 21) (upd (I 82) (C + 1) 0)) 80 (upd ((mdI I 0 (nI T) 0 0 (-1) (I 80 13) (nI (C + 1)) (I 80 21) (upd (I 82) (C + 1) 0)) 80) 21 0), L, wQQ q)) 3 rfl ?_
  refine tv_hI mdI_w_co ?_
  refine tv_b (pc' := 80) (ls' := [some (.ref 80), some (.int x), some (.int (nI T))]) (st' := []) (h' := (n, sl, wKK kk, va_up (mdI I 0 (nI T) 0 0 (-1) (I 80 13) (nI (C + 1)) 0 (upd (I 82) (C + 1) 0)) 80 (upd ((mdI I 0 (nI T) 0 0 (-1) (I 80 13) (nI (C + 1)) 0 (upd (I 82) (C + 1) 0)) 80) 13 1), L, wQQ q)) 3 rfl ?_
  refine tv_hI mdI_w_be ?_
  refine tv_b (pc' := 81) (ls' := [some (.ref 80), some (.int x), some (.int (nI T))]) (st' := [.ref 80]) (h' := (n, sl, wKK kk, (mdI I 0 (nI T) 0 0 (-1) 1 (nI (C + 1)) 0 (upd (I 82) (C + 1) 0)), L, wQQ q)) 1 rfl ?_
  refine tv_hL mw_self ?_
  refine tv_hI ms_self ?_
  have hR2 : mrH tx T (stI (mdI I 0 (nI T) 0 0 (-1) 1 (nI (C + 1)) 0 (upd (I 82) (C + 1) 0)) ((mdI I 0 (nI T) 0 0 (-1) 1 (nI (C + 1)) 0 (upd (I 82) (C + 1) 0)) 82) ((mdI I 0 (nI T) 0 0 (-1) 1 (nI (C + 1)) 0 (upd (I 82) (C + 1) 0)) 83) ((mdI I 0 (nI T) 0 0 (-1) 1 (nI (C + 1)) 0 (upd (I 82) (C + 1) 0)) 84) ((mdI I 0 (nI T) 0 0 (-1) 1 (nI (C + 1)) 0 (upd (I 82) (C + 1) 0)) 85) ((mdI I 0 (nI T) 0 0 (-1) 1 (nI (C + 1)) 0 (upd (I 82) (C + 1) 0)) 86)) := ⟨rfl, hT8, htx⟩
  refine tv_cv [] [] rfl rfl (by omega) rfl (Nat.le_of_ble_eq_true rfl) (Nat.le_of_ble_eq_true rfl) (Or.inr (Or.inr rfl)) (tv_mr_nextB (A := 0) hR2 (Nat.zero_le _) rfl) ?_
  rintro rv9 h9 ⟨rfl, tk1, fk1, fp1, w1, rfl, hn⟩
  refine tv_mr_mand (d := d + 1) (I := (mdI I 0 (nI T) 0 0 (-1) 1 (nI (C + 1)) 0 (upd (I 82) (C + 1) 0))) (N := C + 1) ⟨rfl, hT8, htx⟩ ⟨rfl, by omega⟩ 20 0 0 0 tk1 fk1 fp1 _ _ _ _ _ _ _ _ _ _ _ _ _ _ _ _ w1 rfl upd_e hn (Or.inl rfl) (Nat.zero_le _) (Nat.zero_le _) ?_ ?_
  · intro kk0 pl I9 w9 hs hk hm
    obtain ⟨tk2, be, co, dp, op, om, od, s82, s83, s84, s85, s86, s87, s88, s89, s90, s91, s92, s93, rfl, hm1, hm2, hm3⟩ := hm
    refine tv_m_mandF (d := d + 8) (show ¬ nI kk0 ≤ 0 from nI_nle (by omega) (by omega)) ⟨-1, _, w9, rfl, rfl, ?_⟩
    refine ⟨?_, ⟨rfl, rfl, rfl, rfl⟩, ⟨fun j hj => (hm1 j hj).trans (upd_n hj), hm2, hm3⟩, ?_⟩
    · intro j hj; unfold mtI mrI stI mdI
      funext i; simp only [rdI_nb (show ¬ j = 80 by omega), rdI_nb (show ¬ j = 82 by omega), rdI_nb (show ¬ j = 83 by omega), rdI_nb (show ¬ j = 84 by omega), rdI_nb (show ¬ j = 85 by omega), rdI_nb (show ¬ j = 86 by omega), rdI_nb (show ¬ j = 87 by omega), rdI_nb (show ¬ j = 88 by omega), rdI_nb (show ¬ j = 89 by omega), rdI_nb (show ¬ j = 90 by omega), rdI_nb (show ¬ j = 91 by omega), rdI_nb (show ¬ j = 92 by omega), rdI_nb (show ¬ j = 93 by omega), cond_false]
    · rw [show pa_read tx T = _ from hs]
      refine ⟨rfl, hk, rfl, rfl, rfl, ?_⟩
      intro j h1 h2; unfold mtI mrI stI mdI
      funext i; simp only [rdI_nb (show ¬ j = 80 by omega), rdI_nb (show ¬ j = 82 by omega), rdI_nb (show ¬ j = 83 by omega), rdI_nb (show ¬ j = 84 by omega), rdI_nb (show ¬ j = 85 by omega), rdI_nb (show ¬ j = 86 by omega), rdI_nb (show ¬ j = 87 by omega), rdI_nb (show ¬ j = 88 by omega), rdI_nb (show ¬ j = 89 by omega), rdI_nb (show ¬ j = 90 by omega), rdI_nb (show ¬ j = 91 by omega), rdI_nb (show ¬ j = 92 by omega), rdI_nb (show ¬ j = 93 by omega), cond_false]
  · intro l I9 w9 hs hm
    obtain ⟨tk2, co, dp, op, om, od, s82, s83, s84, s85, s86, s87, s88, s89, s90, s91, s92, s93, rfl, hml, hm0, hm1, hm2, hm3, hm4⟩ := hm
    have hE1 : (nI C : Int32) + 1 = nI (C + 1) := nI_1 C
    have hcl : (nI (C + 1)).toNatClampNeg = C + 1 := nI_clamp (by omega)
    refine tv_m_mandN (d := d + 8) (show (0 : Int32) ≤ 0 by decide) (show ¬ (I 80 45 + 1 < 0 ∨ 201 ≤ (I 80 45 + 1).toNatClampNeg) by rw [hC, hE1, hcl]; exact fun h => h.elim (nI_pos (by omega)) (by omega)) ?_
    refine ⟨_, _, w9, rfl, by rw [sLe_m_enter], ?_⟩
    have he := ent_eq (s := 4) (x := x) (a := 0) (b := 0) (c := 0) (I := mtI (mrI (stI (mdI I 0 (nI T) 0 0 (-1) 1 (nI (C + 1)) 0 (upd (I 82) (C + 1) 0)) s82 s83 s84 s85 s86) tk2 0 (-1) 1 co dp op om od s87 s88 s89 s90 s91 s92 s93) 0 (-1)) (L := mwL L w9) (C := C) hC hC2
    have he1 := he.1
    have he2 := he.2
    show mdP tx T C x I (sI_m_enter 4 x 0 0 0 (mtI (mrI (stI (mdI I 0 (nI T) 0 0 (-1) 1 (nI (C + 1)) 0 (upd (I 82) (C + 1) 0)) s82 s83 s84 s85 s86) tk2 0 (-1) 1 co dp op om od s87 s88 s89 s90 s91 s92 s93) 0 (-1)) (mwL L w9)) (sp_m_enter 4 x 0 0 0 (mtI (mrI (stI (mdI I 0 (nI T) 0 0 (-1) 1 (nI (C + 1)) 0 (upd (I 82) (C + 1) 0)) s82 s83 s84 s85 s86) tk2 0 (-1) 1 co dp op om od s87 s88 s89 s90 s91 s92 s93) 0 (-1)) (mwL L w9))
    rw [he1, he2]
    refine ⟨?_, ⟨rfl, rfl, rfl, rfl⟩, ⟨fun j hj => (hm1 j hj).trans (upd_n hj), fun j hj => hm2 j (by omega), fun j hj => hm3 j (by omega)⟩, ?_⟩
    · intro j hj; unfold entI mtI mrI stI mdI
      funext i; simp only [rdI_nb (show ¬ j = 107 by omega), rdI_nb (show ¬ j = 108 by omega), rdI_nb (show ¬ j = 109 by omega), rdI_nb (show ¬ j = 110 by omega), rdI_nb (show ¬ j = 111 by omega), rdI_nb (show ¬ j = 112 by omega), rdI_nb (show ¬ j = 80 by omega), rdI_nb (show ¬ j = 82 by omega), rdI_nb (show ¬ j = 83 by omega), rdI_nb (show ¬ j = 84 by omega), rdI_nb (show ¬ j = 85 by omega), rdI_nb (show ¬ j = 86 by omega), rdI_nb (show ¬ j = 87 by omega), rdI_nb (show ¬ j = 88 by omega), rdI_nb (show ¬ j = 89 by omega), rdI_nb (show ¬ j = 90 by omega), rdI_nb (show ¬ j = 91 by omega), rdI_nb (show ¬ j = 92 by omega), rdI_nb (show ¬ j = 93 by omega), cond_false]
    · rw [show pa_read tx T = _ from hs]
      refine ⟨rfl, rfl, rfl, rfl, rfl, rfl, rfl, rfl, rfl, rfl, by omega, ?_, hm4⟩
      exact hm0.trans (by rw [Nat.zero_add])
def mtaI (I : Nat → Nat → Int32) (ta : Int32) (j i : Nat) : Int32 := cond (Nat.beq j 80) (cond (Nat.beq i 1) ta (I 80 i)) (I j i)
theorem mtaI_nb : ∀ {i k : Nat}, ¬ i = k → Nat.beq i k = false := fun h => Bool.eq_false_iff.mpr (fun q => h (Nat.eq_of_beq_eq_true q))
theorem mtaI_w_ta {I : Nat → Nat → Int32} {ta : Int32} {y : Int32} : va_up (mtaI I ta) 80 (upd ((mtaI I ta) 80) 1 y) = mtaI I y := by
  funext j i
  unfold va_up upd
  by_cases hj : j = 80
  · subst hj
    by_cases hi : i = 1
    · subst hi; rfl
    · rw [if_pos rfl, if_neg hi]; unfold mtaI; simp only [mtaI_nb hi, cond_false]
  · rw [if_neg hj]; unfold mtaI; simp only [mtaI_nb hj, cond_false]
theorem mta_self {J : Nat → Nat → Int32} : J = mtaI J (J 80 1)  := by
  funext j i
  unfold mtaI
  by_cases hj : j = 80
  · subst hj
    by_cases h1 : i = 1
    · subst h1; rfl
    simp only [rdI_nb h1, cond_false]
    try rfl
  · simp only [rdI_nb hj, cond_false]
theorem ev_m_mandD {d n sl : Nat} {kk : Nat → Nat × Nat} {I : Nat → Nat → Int32} {L : Nat → Nat → Int64} {q : Nat → Nat → Option Nat} {x : Int32} (hx : sp_m_isDay x = 0) : am_Ev (d + 3) 179 0 (am_ent 3 [.ref 80, .int x]) [] (n, sl, wKK kk, I, L, wQQ q) (some (.int (-2)), (n, sl, wKK kk, mtaI I 0, L, wQQ q)) := by
  refine tv_ev ?_
  refine tv_hI mta_self ?_
  show am_T _ _ 0 [some (.ref 80), some (.int x), none] _ _ _
  refine tv_b (pc' := 10) (ls' := [some (.ref 80), some (.int x), some (.int (I 80 1))]) (st' := []) (h' := (n, sl, wKK kk, va_up (mtaI I (I 80 1)) 80 (upd ((mtaI I (I 80 1)) 80) 1 0), L, wQQ q)) 6 rfl ?_
  refine tv_hI mtaI_w_ta ?_
  refine tv_b (pc' := 11) (ls' := [some (.ref 80), some (.int x), some (.int (I 80 1))]) (st' := [.int x]) (h' := (n, sl, wKK kk, (mtaI I 0), L, wQQ q)) 1 rfl ?_
  refine tv_csE [.int x] [] rfl rfl (by omega) rfl (Nat.le_of_ble_eq_true rfl) (Nat.le_of_ble_eq_true rfl) (ev_m_isDay) ?_
  refine tv_b (pc' := (if (sp_m_isDay x) = 0 then 27 else 17)) (ls' := [some (.ref 80), some (.int x), some (.int (I 80 1))]) (st' := []) (h' := (n, sl, wKK kk, (mtaI I 0), L, wQQ q)) 1 rfl ?_
  refine tv_t (hx) ?_
  refine tv_b (pc' := 29) (ls' := [some (.ref 80), some (.int x), some (.int (I 80 1))]) (st' := [.int (-2)]) (h' := (n, sl, wKK kk, (mtaI I 0), L, wQQ q)) 1 rfl ?_
  exact tv_ri rfl ⟨rfl, rfl⟩
theorem ev_m_mandA {d n sl : Nat} {kk : Nat → Nat × Nat} {I : Nat → Nat → Int32} {L : Nat → Nat → Int64} {q : Nat → Nat → Option Nat} {x : Int32} (hx : ¬ sp_m_isDay x = 0) (hC : I 80 45 = 200) : am_Ev (d + 3) 179 0 (am_ent 3 [.ref 80, .int x]) [] (n, sl, wKK kk, I, L, wQQ q) (some (.int (-2)), (n, sl, wKK kk, mtaI I 0, L, wQQ q)) := by
  refine tv_ev ?_
  refine tv_hI mta_self ?_
  show am_T _ _ 0 [some (.ref 80), some (.int x), none] _ _ _
  refine tv_b (pc' := 10) (ls' := [some (.ref 80), some (.int x), some (.int (I 80 1))]) (st' := []) (h' := (n, sl, wKK kk, va_up (mtaI I (I 80 1)) 80 (upd ((mtaI I (I 80 1)) 80) 1 0), L, wQQ q)) 6 rfl ?_
  refine tv_hI mtaI_w_ta ?_
  refine tv_b (pc' := 11) (ls' := [some (.ref 80), some (.int x), some (.int (I 80 1))]) (st' := [.int x]) (h' := (n, sl, wKK kk, (mtaI I 0), L, wQQ q)) 1 rfl ?_
  refine tv_csE [.int x] [] rfl rfl (by omega) rfl (Nat.le_of_ble_eq_true rfl) (Nat.le_of_ble_eq_true rfl) (ev_m_isDay) ?_
  refine tv_b (pc' := (if (sp_m_isDay x) = 0 then 27 else 17)) (ls' := [some (.ref 80), some (.int x), some (.int (I 80 1))]) (st' := []) (h' := (n, sl, wKK kk, (mtaI I 0), L, wQQ q)) 1 rfl ?_
  refine tv_f (hx) ?_
  refine tv_b (pc' := (if (I 80 45) = 200 then 27 else 30)) (ls' := [some (.ref 80), some (.int x), some (.int (I 80 1))]) (st' := []) (h' := (n, sl, wKK kk, (mtaI I 0), L, wQQ q)) 4 rfl ?_
  refine tv_t (hC) ?_
  refine tv_b (pc' := 29) (ls' := [some (.ref 80), some (.int x), some (.int (I 80 1))]) (st' := [.int (-2)]) (h' := (n, sl, wKK kk, (mtaI I 0), L, wQQ q)) 1 rfl ?_
  exact tv_ri rfl ⟨rfl, rfl⟩
