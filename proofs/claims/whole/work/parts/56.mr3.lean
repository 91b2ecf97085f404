/-! THE REFERENCE'S READER: its frames -/
def mtkF (i : Nat) : Bool := Nat.beq i 3 || Nat.beq i 4 || Nat.beq i 5 || Nat.beq i 6 || Nat.beq i 12
def mrI (I : Nat → Nat → Int32) (tk : Nat → Int32) (fk fp be co dp op om od : Int32) (r87 r88 r89 r90 r91 r92 r93 : Nat → Int32) (j i : Nat) : Int32 := cond (Nat.beq j 80) (cond (mtkF i) (tk i) (cond (Nat.beq i 8) fk (cond (Nat.beq i 9) fp (cond (Nat.beq i 13) be (cond (Nat.beq i 21) co (cond (Nat.beq i 27) dp (cond (Nat.beq i 28) op (cond (Nat.beq i 30) om (cond (Nat.beq i 31) od (I 80 i)))))))))) (cond (Nat.beq j 87) (r87 i) (cond (Nat.beq j 88) (r88 i) (cond (Nat.beq j 89) (r89 i) (cond (Nat.beq j 90) (r90 i) (cond (Nat.beq j 91) (r91 i) (cond (Nat.beq j 92) (r92 i) (cond (Nat.beq j 93) (r93 i) (I j i))))))))
theorem mrI_w_fk {I : Nat → Nat → Int32} {tk : Nat → Int32} {fk fp be co dp op om od : Int32} {r87 r88 r89 r90 r91 r92 r93 : Nat → Int32} {y : Int32} : va_up (mrI I tk fk fp be co dp op om od r87 r88 r89 r90 r91 r92 r93) 80 (upd ((mrI I tk fk fp be co dp op om od r87 r88 r89 r90 r91 r92 r93) 80) 8 y) = mrI I tk y fp be co dp op om od r87 r88 r89 r90 r91 r92 r93 := by
  funext j i
  unfold va_up upd
  by_cases hj : j = 80
  · subst hj
    by_cases hi : i = 8
    · subst hi; rfl
    · rw [if_pos rfl, if_neg hi]; unfold mrI; simp only [rdI_nb hi, cond_false]
  · rw [if_neg hj]; unfold mrI; simp only [rdI_nb hj, cond_false]
theorem mrI_w_fp {I : Nat → Nat → Int32} {tk : Nat → Int32} {fk fp be co dp op om od : Int32} {r87 r88 r89 r90 r91 r92 r93 : Nat → Int32} {y : Int32} : va_up (mrI I tk fk fp be co dp op om od r87 r88 r89 r90 r91 r92 r93) 80 (upd ((mrI I tk fk fp be co dp op om od r87 r88 r89 r90 r91 r92 r93) 80) 9 y) = mrI I tk fk y be co dp op om od r87 r88 r89 r90 r91 r92 r93 := by
  funext j i
  unfold va_up upd
  by_cases hj : j = 80
  · subst hj
    by_cases hi : i = 9
    · subst hi; rfl
    · rw [if_pos rfl, if_neg hi]; unfold mrI; simp only [rdI_nb hi, cond_false]
  · rw [if_neg hj]; unfold mrI; simp only [rdI_nb hj, cond_false]
theorem mrI_w_be {I : Nat → Nat → Int32} {tk : Nat → Int32} {fk fp be co dp op om od : Int32} {r87 r88 r89 r90 r91 r92 r93 : Nat → Int32} {y : Int32} : va_up (mrI I tk fk fp be co dp op om od r87 r88 r89 r90 r91 r92 r93) 80 (upd ((mrI I tk fk fp be co dp op om od r87 r88 r89 r90 r91 r92 r93) 80) 13 y) = mrI I tk fk fp y co dp op om od r87 r88 r89 r90 r91 r92 r93 := by
  funext j i
  unfold va_up upd
  by_cases hj : j = 80
  · subst hj
    by_cases hi : i = 13
    · subst hi; rfl
    · rw [if_pos rfl, if_neg hi]; unfold mrI; simp only [rdI_nb hi, cond_false]
  · rw [if_neg hj]; unfold mrI; simp only [rdI_nb hj, cond_false]
theorem mrI_w_co {I : Nat → Nat → Int32} {tk : Nat → Int32} {fk fp be co dp op om od : Int32} {r87 r88 r89 r90 r91 r92 r93 : Nat → Int32} {y : Int32} : va_up (mrI I tk fk fp be co dp op om od r87 r88 r89 r90 r91 r92 r93) 80 (upd ((mrI I tk fk fp be co dp op om od r87 r88 r89 r90 r91 r92 r93) 80) 21 y) = mrI I tk fk fp be y dp op om od r87 r88 r89 r90 r91 r92 r93 := by
  funext j i
  unfold va_up upd
  by_cases hj : j = 80
  · subst hj
    by_cases hi : i = 21
    · subst hi; rfl
    · rw [if_pos rfl, if_neg hi]; unfold mrI; simp only [rdI_nb hi, cond_false]
  · rw [if_neg hj]; unfold mrI; simp only [rdI_nb hj, cond_false]
theorem mrI_w_dp {I : Nat → Nat → Int32} {tk : Nat → Int32} {fk fp be co dp op om od : Int32} {r87 r88 r89 r90 r91 r92 r93 : Nat → Int32} {y : Int32} : va_up (mrI I tk fk fp be co dp op om od r87 r88 r89 r90 r91 r92 r93) 80 (upd ((mrI I tk fk fp be co dp op om od r87 r88 r89 r90 r91 r92 r93) 80) 27 y) = mrI I tk fk fp be co y op om od r87 r88 r89 r90 r91 r92 r93 := by
  funext j i
  unfold va_up upd
  by_cases hj : j = 80
  · subst hj
    by_cases hi : i = 27
    · subst hi; rfl
    · rw [if_pos rfl, if_neg hi]; unfold mrI; simp only [rdI_nb hi, cond_false]
  · rw [if_neg hj]; unfold mrI; simp only [rdI_nb hj, cond_false]
theorem mrI_w_op {I : Nat → Nat → Int32} {tk : Nat → Int32} {fk fp be co dp op om od : Int32} {r87 r88 r89 r90 r91 r92 r93 : Nat → Int32} {y : Int32} : va_up (mrI I tk fk fp be co dp op om od r87 r88 r89 r90 r91 r92 r93) 80 (upd ((mrI I tk fk fp be co dp op om od r87 r88 r89 r90 r91 r92 r93) 80) 28 y) = mrI I tk fk fp be co dp y om od r87 r88 r89 r90 r91 r92 r93 := by
  funext j i
  unfold va_up upd
  by_cases hj : j = 80
  · subst hj
    by_cases hi : i = 28
    · subst hi; rfl
    · rw [if_pos rfl, if_neg hi]; unfold mrI; simp only [rdI_nb hi, cond_false]
  · rw [if_neg hj]; unfold mrI; simp only [rdI_nb hj, cond_false]
theorem mrI_w_om {I : Nat → Nat → Int32} {tk : Nat → Int32} {fk fp be co dp op om od : Int32} {r87 r88 r89 r90 r91 r92 r93 : Nat → Int32} {y : Int32} : va_up (mrI I tk fk fp be co dp op om od r87 r88 r89 r90 r91 r92 r93) 80 (upd ((mrI I tk fk fp be co dp op om od r87 r88 r89 r90 r91 r92 r93) 80) 30 y) = mrI I tk fk fp be co dp op y od r87 r88 r89 r90 r91 r92 r93 := by
  funext j i
  unfold va_up upd
  by_cases hj : j = 80
  · subst hj
    by_cases hi : i = 30
    · subst hi; rfl
    · rw [if_pos rfl, if_neg hi]; unfold mrI; simp only [rdI_nb hi, cond_false]
  · rw [if_neg hj]; unfold mrI; simp only [rdI_nb hj, cond_false]
theorem mrI_w_od {I : Nat → Nat → Int32} {tk : Nat → Int32} {fk fp be co dp op om od : Int32} {r87 r88 r89 r90 r91 r92 r93 : Nat → Int32} {y : Int32} : va_up (mrI I tk fk fp be co dp op om od r87 r88 r89 r90 r91 r92 r93) 80 (upd ((mrI I tk fk fp be co dp op om od r87 r88 r89 r90 r91 r92 r93) 80) 31 y) = mrI I tk fk fp be co dp op om y r87 r88 r89 r90 r91 r92 r93 := by
  funext j i
  unfold va_up upd
  by_cases hj : j = 80
  · subst hj
    by_cases hi : i = 31
    · subst hi; rfl
    · rw [if_pos rfl, if_neg hi]; unfold mrI; simp only [rdI_nb hi, cond_false]
  · rw [if_neg hj]; unfold mrI; simp only [rdI_nb hj, cond_false]
theorem mrI_w_r87 {I : Nat → Nat → Int32} {tk : Nat → Int32} {fk fp be co dp op om od : Int32} {r87 r88 r89 r90 r91 r92 r93 : Nat → Int32} {y : Int32} {k : Nat} : va_up (mrI I tk fk fp be co dp op om od r87 r88 r89 r90 r91 r92 r93) 87 (upd ((mrI I tk fk fp be co dp op om od r87 r88 r89 r90 r91 r92 r93) 87) k y) = mrI I tk fk fp be co dp op om od (upd r87 k y) r88 r89 r90 r91 r92 r93 := by
  funext j i
  unfold va_up
  by_cases hj : j = 87
  · subst hj; rfl
  · rw [if_neg hj]; unfold mrI; simp only [rdI_nb hj, cond_false]
theorem mrI_w_r88 {I : Nat → Nat → Int32} {tk : Nat → Int32} {fk fp be co dp op om od : Int32} {r87 r88 r89 r90 r91 r92 r93 : Nat → Int32} {y : Int32} {k : Nat} : va_up (mrI I tk fk fp be co dp op om od r87 r88 r89 r90 r91 r92 r93) 88 (upd ((mrI I tk fk fp be co dp op om od r87 r88 r89 r90 r91 r92 r93) 88) k y) = mrI I tk fk fp be co dp op om od r87 (upd r88 k y) r89 r90 r91 r92 r93 := by
  funext j i
  unfold va_up
  by_cases hj : j = 88
  · subst hj; rfl
  · rw [if_neg hj]; unfold mrI; simp only [rdI_nb hj, cond_false]
theorem mrI_w_r89 {I : Nat → Nat → Int32} {tk : Nat → Int32} {fk fp be co dp op om od : Int32} {r87 r88 r89 r90 r91 r92 r93 : Nat → Int32} {y : Int32} {k : Nat} : va_up (mrI I tk fk fp be co dp op om od r87 r88 r89 r90 r91 r92 r93) 89 (upd ((mrI I tk fk fp be co dp op om od r87 r88 r89 r90 r91 r92 r93) 89) k y) = mrI I tk fk fp be co dp op om od r87 r88 (upd r89 k y) r90 r91 r92 r93 := by
  funext j i
  unfold va_up
  by_cases hj : j = 89
  · subst hj; rfl
  · rw [if_neg hj]; unfold mrI; simp only [rdI_nb hj, cond_false]
theorem mrI_w_r90 {I : Nat → Nat → Int32} {tk : Nat → Int32} {fk fp be co dp op om od : Int32} {r87 r88 r89 r90 r91 r92 r93 : Nat → Int32} {y : Int32} {k : Nat} : va_up (mrI I tk fk fp be co dp op om od r87 r88 r89 r90 r91 r92 r93) 90 (upd ((mrI I tk fk fp be co dp op om od r87 r88 r89 r90 r91 r92 r93) 90) k y) = mrI I tk fk fp be co dp op om od r87 r88 r89 (upd r90 k y) r91 r92 r93 := by
  funext j i
  unfold va_up
  by_cases hj : j = 90
  · subst hj; rfl
  · rw [if_neg hj]; unfold mrI; simp only [rdI_nb hj, cond_false]
theorem mrI_w_r91 {I : Nat → Nat → Int32} {tk : Nat → Int32} {fk fp be co dp op om od : Int32} {r87 r88 r89 r90 r91 r92 r93 : Nat → Int32} {y : Int32} {k : Nat} : va_up (mrI I tk fk fp be co dp op om od r87 r88 r89 r90 r91 r92 r93) 91 (upd ((mrI I tk fk fp be co dp op om od r87 r88 r89 r90 r91 r92 r93) 91) k y) = mrI I tk fk fp be co dp op om od r87 r88 r89 r90 (upd r91 k y) r92 r93 := by
  funext j i
  unfold va_up
  by_cases hj : j = 91
  · subst hj; rfl
  · rw [if_neg hj]; unfold mrI; simp only [rdI_nb hj, cond_false]
theorem mrI_w_r92 {I : Nat → Nat → Int32} {tk : Nat → Int32} {fk fp be co dp op om od : Int32} {r87 r88 r89 r90 r91 r92 r93 : Nat → Int32} {y : Int32} {k : Nat} : va_up (mrI I tk fk fp be co dp op om od r87 r88 r89 r90 r91 r92 r93) 92 (upd ((mrI I tk fk fp be co dp op om od r87 r88 r89 r90 r91 r92 r93) 92) k y) = mrI I tk fk fp be co dp op om od r87 r88 r89 r90 r91 (upd r92 k y) r93 := by
  funext j i
  unfold va_up
  by_cases hj : j = 92
  · subst hj; rfl
  · rw [if_neg hj]; unfold mrI; simp only [rdI_nb hj, cond_false]
theorem mrI_w_r93 {I : Nat → Nat → Int32} {tk : Nat → Int32} {fk fp be co dp op om od : Int32} {r87 r88 r89 r90 r91 r92 r93 : Nat → Int32} {y : Int32} {k : Nat} : va_up (mrI I tk fk fp be co dp op om od r87 r88 r89 r90 r91 r92 r93) 93 (upd ((mrI I tk fk fp be co dp op om od r87 r88 r89 r90 r91 r92 r93) 93) k y) = mrI I tk fk fp be co dp op om od r87 r88 r89 r90 r91 r92 (upd r93 k y) := by
  funext j i
  unfold va_up
  by_cases hj : j = 93
  · subst hj; rfl
  · rw [if_neg hj]; unfold mrI; simp only [rdI_nb hj, cond_false]
def mtk (sg sa se va lo : Int32) (i : Nat) : Int32 := cond (Nat.beq i 3) sg (cond (Nat.beq i 4) sa (cond (Nat.beq i 5) se (cond (Nat.beq i 6) va lo)))
theorem mr_mq {I : Nat → Nat → Int32} {tk : Nat → Int32} {fk fp be co dp op om od : Int32} {r87 r88 r89 r90 r91 r92 r93 : Nat → Int32} {sg sa se va lo fk' fp' : Int32} : mqI (mrI I tk fk fp be co dp op om od r87 r88 r89 r90 r91 r92 r93) sg sa se va fk' fp' lo = mrI I (mtk sg sa se va lo) fk' fp' be co dp op om od r87 r88 r89 r90 r91 r92 r93 := by
  funext j i
  unfold mqI
  by_cases hj : j = 80
  · subst hj
    by_cases h3 : i = 3
    · subst h3; rfl
    by_cases h4 : i = 4
    · subst h4; rfl
    by_cases h5 : i = 5
    · subst h5; rfl
    by_cases h6 : i = 6
    · subst h6; rfl
    by_cases h8 : i = 8
    · subst h8; rfl
    by_cases h9 : i = 9
    · subst h9; rfl
    by_cases h12 : i = 12
    · subst h12; rfl
    have e : mtkF i = false := by unfold mtkF; rw [rdI_nb h3, rdI_nb h4, rdI_nb h5, rdI_nb h6, rdI_nb h12]; rfl
    unfold mrI
    simp only [rdI_nb h3, rdI_nb h4, rdI_nb h5, rdI_nb h6, rdI_nb h8, rdI_nb h9, rdI_nb h12, e, cond_false]
    rfl
  · unfold mrI
    simp only [rdI_nb hj, cond_false]
theorem mq_self {I : Nat → Nat → Int32} : I = mqI I (I 80 3) (I 80 4) (I 80 5) (I 80 6) (I 80 8) (I 80 9) (I 80 12) := by
  funext j i
  unfold mqI
  by_cases hj : j = 80
  · subst hj
    by_cases h3 : i = 3
    · subst h3; rfl
    by_cases h4 : i = 4
    · subst h4; rfl
    by_cases h5 : i = 5
    · subst h5; rfl
    by_cases h6 : i = 6
    · subst h6; rfl
    by_cases h8 : i = 8
    · subst h8; rfl
    by_cases h9 : i = 9
    · subst h9; rfl
    by_cases h12 : i = 12
    · subst h12; rfl
    simp only [rdI_nb h3, rdI_nb h4, rdI_nb h5, rdI_nb h6, rdI_nb h8, rdI_nb h9, rdI_nb h12, cond_false]
    cases Nat.beq 80 80 <;> rfl
  · simp only [rdI_nb hj, cond_false]
/-- the next token, the one ahead having ended at A, in either mode -/
theorem tv_mr_nextB {d n sl : Nat} {kk : Nat → Nat × Nat} {I : Nat → Nat → Int32} {L : Nat → Nat → Int64} {q : Nat → Nat → Option Nat} {tx : Nat → Nat} {T : Nat} {tk : Nat → Int32} {fp be co dp op om od : Int32} {r87 r88 r89 r90 r91 r92 r93 : Nat → Int32} {w : Int64} {A : Nat} (hR : mrH tx T I) (hA : A ≤ T) (h5 : tk 5 = nI A) : am_T (d + 2) 162 0 (am_ent 6 [.ref 80]) [] (n, sl, wKK kk, (mrI I tk 0 fp be co dp op om od r87 r88 r89 r90 r91 r92 r93), (mwL L w), wQQ q) (fun rv h' => rv = none ∧ ∃ tk' fk' fp' w', h' = (n, sl, wKK kk, (mrI I tk' fk' fp' be co dp op om od r87 r88 r89 r90 r91 r92 r93), (mwL L w'), wQQ q) ∧ nxP tx T A be fp (tk' 3) (tk' 4) (tk' 5) (tk' 6) fk' fp' (tk' 12) w') := by
  have hR2 : mrH tx T (mrI I tk 0 fp be co dp op om od r87 r88 r89 r90 r91 r92 r93) := hR
  have h := tv_m_next (d := d) (n := n) (sl := sl) (kk := kk) (L := L) (q := q) (sg := tk 3) (sa := tk 4) (va := tk 6) (fp := fp) (lo := tk 12) (w := w) hR2 hA
  have e : mqI (mrI I tk 0 fp be co dp op om od r87 r88 r89 r90 r91 r92 r93) (tk 3) (tk 4) (nI A) (tk 6) 0 fp (tk 12) = mrI I tk 0 fp be co dp op om od r87 r88 r89 r90 r91 r92 r93 := by
    rw [← h5]
    exact mq_self.symm
  rw [e] at h
  refine tv_w h ?_
  rintro rv h' ⟨rfl, sg', sa', se', va', fk', fp', lo', w', rfl, hn⟩
  exact ⟨rfl, mtk sg' sa' se' va' lo', fk', fp', w', by rw [mr_mq], hn⟩
/-- the next token behind p -/
theorem tv_mr_nx {d n sl : Nat} {kk : Nat → Nat × Nat} {I : Nat → Nat → Int32} {L : Nat → Nat → Int64} {q : Nat → Nat → Option Nat} {tx : Nat → Nat} {T : Nat} {tk : Nat → Int32} {fp co dp op om od : Int32} {r87 r88 r89 r90 r91 r92 r93 : Nat → Int32} {w : Int64} {p : Nat} (hR : mrH tx T I) (hp : p ≤ T) (ht : tkP tx T p (tk 3) (tk 4) (tk 5) (tk 6) w) : am_T (d + 2) 162 0 (am_ent 6 [.ref 80]) [] (n, sl, wKK kk, (mrI I tk 0 fp 0 co dp op om od r87 r88 r89 r90 r91 r92 r93), (mwL L w), wQQ q) (fun rv h' => rv = none ∧ ((∃ f tk' w', pa_nx tx T p = .inl (1, f) ∧ f ≤ 800 ∧ h' = (n, sl, wKK kk, (mrI I tk' 1 (nI f) 0 co dp op om od r87 r88 r89 r90 r91 r92 r93), (mwL L w'), wQQ q)) ∨ (∃ p1 tk' w', pa_nx tx T p = .inr (p1, []) ∧ p1 = pa_ed tx T p ∧ p1 ≤ T ∧ tkP tx T p1 (tk' 3) (tk' 4) (tk' 5) (tk' 6) w' ∧ h' = (n, sl, wKK kk, (mrI I tk' 0 fp 0 co dp op om od r87 r88 r89 r90 r91 r92 r93), (mwL L w'), wQQ q)))) := by
  have he := pa_ed_le (b := tx) hp
  refine tv_w (tv_mr_nextB hR he.1 ht.2.1) ?_
  rintro rv h' ⟨rfl, tk', fk', fp', w', rfl, hn⟩
  unfold nxP at hn
  refine ⟨rfl, ?_⟩
  unfold pa_nx
  cases hl : pa_lf tx T (pa_ed tx T p) with
  | some f =>
    rw [hl] at hn
    obtain ⟨h8, ⟨rfl, rfl, _⟩ | ⟨h0, _⟩⟩ := hn
    · exact Or.inl ⟨f, tk', w', rfl, h8, rfl⟩
    · exact absurd rfl h0
  | none =>
    rw [hl] at hn
    obtain ⟨rfl, rfl, _, h4⟩ := hn
    exact Or.inr ⟨_, tk', w', rfl, rfl, he.1, h4, rfl⟩
theorem ev_mr_blame0 {d n sl : Nat} {kk : Nat → Nat × Nat} {I : Nat → Nat → Int32} {L : Nat → Nat → Int64} {q : Nat → Nat → Option Nat} {tk : Nat → Int32} {fp be co dp op om od : Int32} {r87 r88 r89 r90 r91 r92 r93 : Nat → Int32} {w : Int64} {x y : Int32} : am_Ev (d) 159 0 (am_ent 3 [.ref 80, .int x, .int y]) [] (n, sl, wKK kk, (mrI I tk 0 fp be co dp op om od r87 r88 r89 r90 r91 r92 r93), (mwL L w), wQQ q) (none, (n, sl, wKK kk, (mrI I tk x y be co dp op om od r87 r88 r89 r90 r91 r92 r93), (mwL L w), wQQ q)) := by
  refine tv_ev ?_
  show am_T _ _ 0 [some (.ref 80), some (.int x), some (.int y)] _ _ _
  refine tv_b (pc' := 13) (ls' := [some (.ref 80), some (.int x), some (.int y)]) (st' := []) (h' := (n, sl, wKK kk, va_up (mrI I tk 0 fp be co dp op om od r87 r88 r89 r90 r91 r92 r93) 80 (upd ((mrI I tk 0 fp be co dp op om od r87 r88 r89 r90 r91 r92 r93) 80) 8 x), (mwL L w), wQQ q)) 6 rfl ?_
  refine tv_hI mrI_w_fk ?_
  refine tv_b (pc' := 18) (ls' := [some (.ref 80), some (.int x), some (.int y)]) (st' := []) (h' := (n, sl, wKK kk, va_up (mrI I tk x fp be co dp op om od r87 r88 r89 r90 r91 r92 r93) 80 (upd ((mrI I tk x fp be co dp op om od r87 r88 r89 r90 r91 r92 r93) 80) 9 y), (mwL L w), wQQ q)) 3 rfl ?_
  refine tv_hI mrI_w_fp ?_
  exact tv_rv rfl ⟨rfl, rfl⟩
theorem ev_mr_blameF {d n sl : Nat} {kk : Nat → Nat × Nat} {I : Nat → Nat → Int32} {L : Nat → Nat → Int64} {q : Nat → Nat → Option Nat} {tk : Nat → Int32} {fk fp be co dp op om od : Int32} {r87 r88 r89 r90 r91 r92 r93 : Nat → Int32} {w : Int64} {x y : Int32} (hf : ¬ fk ≤ 0) : am_Ev (d) 159 0 (am_ent 3 [.ref 80, .int x, .int y]) [] (n, sl, wKK kk, (mrI I tk fk fp be co dp op om od r87 r88 r89 r90 r91 r92 r93), (mwL L w), wQQ q) (none, (n, sl, wKK kk, (mrI I tk fk fp be co dp op om od r87 r88 r89 r90 r91 r92 r93), (mwL L w), wQQ q)) := by
  refine tv_ev ?_
  show am_T _ _ 0 [some (.ref 80), some (.int x), some (.int y)] _ _ _
  refine tv_b (pc' := (if fk ≤ 0 then 8 else 7)) (ls' := [some (.ref 80), some (.int x), some (.int y)]) (st' := []) (h' := (n, sl, wKK kk, (mrI I tk fk fp be co dp op om od r87 r88 r89 r90 r91 r92 r93), (mwL L w), wQQ q)) 3 rfl ?_
  refine tv_f (hf) ?_
  exact tv_rv rfl ⟨rfl, rfl⟩
theorem ev_mr_holds {d n sl : Nat} {kk : Nat → Nat × Nat} {I : Nat → Nat → Int32} {L : Nat → Nat → Int64} {q : Nat → Nat → Option Nat} {tk : Nat → Int32} {fk fp be co dp op od : Int32} {r87 r88 r89 r90 r91 r92 r93 : Nat → Int32} {w : Int64} {x : Int32} {M : Nat} (hM : M < 500) : am_Ev (d) 170 0 (am_ent 2 [.ref 80, .int x]) [] (n, sl, wKK kk, (mrI I tk fk fp be co dp op (nI M) od r87 r88 r89 r90 r91 r92 r93), (mwL L w), wQQ q) (none, (n, sl, wKK kk, (mrI I tk fk fp be co dp op (nI (M + 1)) od r87 r88 r89 r90 r91 r92 (upd r93 M x)), (mwL L w), wQQ q)) := by
  refine tv_ev ?_
  show am_T _ _ 0 [some (.ref 80), some (.int x)] _ _ _
  refine tv_b (pc' := 9) (ls' := [some (.ref 80), some (.int x)]) (st' := [.int x, .int (nI M), .ref 93]) (h' := (n, sl, wKK kk, (mrI I tk fk fp be co dp op (nI M) od r87 r88 r89 r90 r91 r92 r93), (mwL L w), wQQ q)) 5 rfl ?_
  refine tv_iasN (k := M) rfl (rfl) (⟨by omega, by omega⟩) ?_
  refine tv_hI mrI_w_r93 ?_
  refine tv_b (pc' := 16) (ls' := [some (.ref 80), some (.int x)]) (st' := [.int 1, .int (nI M), .ref 80]) (h' := (n, sl, wKK kk, (mrI I tk fk fp be co dp op (nI M) od r87 r88 r89 r90 r91 r92 (upd r93 M x)), (mwL L w), wQQ q)) 4 rfl ?_
  refine tv_b (pc' := 17) (ls' := [some (.ref 80), some (.int x)]) (st' := [.int ((nI M) + 1), .ref 80]) (h' := (n, sl, wKK kk, (mrI I tk fk fp be co dp op (nI M) od r87 r88 r89 r90 r91 r92 (upd r93 M x)), (mwL L w), wQQ q)) 1 rfl ?_
  refine tv_top (show (nI M) + 1 = nI (M + 1) from nI_add M 1) ?_
  refine tv_b (pc' := 20) (ls' := [some (.ref 80), some (.int x)]) (st' := []) (h' := (n, sl, wKK kk, va_up (mrI I tk fk fp be co dp op (nI M) od r87 r88 r89 r90 r91 r92 (upd r93 M x)) 80 (upd ((mrI I tk fk fp be co dp op (nI M) od r87 r88 r89 r90 r91 r92 (upd r93 M x)) 80) 30 (nI (M + 1))), (mwL L w), wQQ q)) 1 rfl ?_
  refine tv_hI mrI_w_om ?_
  exact tv_rv rfl ⟨rfl, rfl⟩
theorem ev_mr_pushes {d n sl : Nat} {kk : Nat → Nat × Nat} {I : Nat → Nat → Int32} {L : Nat → Nat → Int64} {q : Nat → Nat → Option Nat} {tk : Nat → Int32} {fk fp be co op om od : Int32} {r87 r88 r89 r90 r91 r92 r93 : Nat → Int32} {w : Int64} {x : Int32} {D : Nat} (hD : D < 20) : am_Ev (d) 171 0 (am_ent 2 [.ref 80, .int x]) [] (n, sl, wKK kk, (mrI I tk fk fp be co (nI D) op om od r87 r88 r89 r90 r91 r92 r93), (mwL L w), wQQ q) (none, (n, sl, wKK kk, (mrI I tk fk fp be co (nI (D + 1)) op om od r87 (upd r88 D x) (upd r89 D 0) (upd r90 D 1) r91 (upd r92 D om) r93), (mwL L w), wQQ q)) := by
  refine tv_ev ?_
  show am_T _ _ 0 [some (.ref 80), some (.int x)] _ _ _
  refine tv_b (pc' := 9) (ls' := [some (.ref 80), some (.int x)]) (st' := [.int x, .int (nI D), .ref 88]) (h' := (n, sl, wKK kk, (mrI I tk fk fp be co (nI D) op om od r87 r88 r89 r90 r91 r92 r93), (mwL L w), wQQ q)) 5 rfl ?_
  refine tv_iasN (k := D) rfl (rfl) (⟨by omega, by omega⟩) ?_
  refine tv_hI mrI_w_r88 ?_
  refine tv_b (pc' := 19) (ls' := [some (.ref 80), some (.int x)]) (st' := [.int 0, .int (nI D), .ref 89]) (h' := (n, sl, wKK kk, (mrI I tk fk fp be co (nI D) op om od r87 (upd r88 D x) r89 r90 r91 r92 r93), (mwL L w), wQQ q)) 5 rfl ?_
  refine tv_iasN (k := D) rfl (rfl) (⟨by omega, by omega⟩) ?_
  refine tv_hI mrI_w_r89 ?_
  refine tv_b (pc' := 29) (ls' := [some (.ref 80), some (.int x)]) (st' := [.int 1, .int (nI D), .ref 90]) (h' := (n, sl, wKK kk, (mrI I tk fk fp be co (nI D) op om od r87 (upd r88 D x) (upd r89 D 0) r90 r91 r92 r93), (mwL L w), wQQ q)) 5 rfl ?_
  refine tv_basZN (k := D) rfl (rfl) (⟨by omega, by omega⟩) ?_
  refine tv_hI mrI_w_r90 ?_
  refine tv_b (pc' := 42) (ls' := [some (.ref 80), some (.int x)]) (st' := [.int om, .int (nI D), .ref 92]) (h' := (n, sl, wKK kk, (mrI I tk fk fp be co (nI D) op om od r87 (upd r88 D x) (upd r89 D 0) (upd r90 D 1) r91 r92 r93), (mwL L w), wQQ q)) 6 rfl ?_
  refine tv_iasN (k := D) rfl (rfl) (⟨by omega, by omega⟩) ?_
  refine tv_hI mrI_w_r92 ?_
  refine tv_b (pc' := 49) (ls' := [some (.ref 80), some (.int x)]) (st' := [.int 1, .int (nI D), .ref 80]) (h' := (n, sl, wKK kk, (mrI I tk fk fp be co (nI D) op om od r87 (upd r88 D x) (upd r89 D 0) (upd r90 D 1) r91 (upd r92 D om) r93), (mwL L w), wQQ q)) 4 rfl ?_
  refine tv_b (pc' := 50) (ls' := [some (.ref 80), some (.int x)]) (st' := [.int ((nI D) + 1), .ref 80]) (h' := (n, sl, wKK kk, (mrI I tk fk fp be co (nI D) op om od r87 (upd r88 D x) (upd r89 D 0) (upd r90 D 1) r91 (upd r92 D om) r93), (mwL L w), wQQ q)) 1 rfl ?_
  refine tv_top (show (nI D) + 1 = nI (D + 1) from nI_add D 1) ?_
  refine tv_b (pc' := 53) (ls' := [some (.ref 80), some (.int x)]) (st' := []) (h' := (n, sl, wKK kk, va_up (mrI I tk fk fp be co (nI D) op om od r87 (upd r88 D x) (upd r89 D 0) (upd r90 D 1) r91 (upd r92 D om) r93) 80 (upd ((mrI I tk fk fp be co (nI D) op om od r87 (upd r88 D x) (upd r89 D 0) (upd r90 D 1) r91 (upd r92 D om) r93) 80) 27 (nI (D + 1))), (mwL L w), wQQ q)) 1 rfl ?_
  refine tv_hI mrI_w_dp ?_
  exact tv_rv rfl ⟨rfl, rfl⟩
theorem mr_sh (x v : Nat) (hx : x ≤ 26) (hv : v < 16777216) : (nI x <<< ((24 : Int32) &&& 31)) ||| nI v = nI (x * 16777216 + v) := by
  rw [pk_shlN (n := x) ((24 : Int32) &&& 31) 24 (by decide) (by omega)]
  have h : x * 2 ^ 24 ||| v = x * 2 ^ 24 + v := by rw [← Nat.shiftLeft_eq, Nat.shiftLeft_add_eq_or_of_lt (by omega)]
  have h3 : UInt32.ofNat (x * 2 ^ 24) ||| UInt32.ofNat v = UInt32.ofNat (x * 2 ^ 24 + v) := UInt32.toNat_inj.mp (by
    have a (z : Nat) (hz : z < 2 ^ 32) : (UInt32.ofNat z).toNat = z := Nat.mod_eq_of_lt hz
    rw [UInt32.toNat_or, a _ (by omega), a _ (by omega), a _ (by omega), h])
  exact congrArg UInt32.toInt32 h3
theorem ev_mr_add {d n sl : Nat} {kk : Nat → Nat × Nat} {I : Nat → Nat → Int32} {L : Nat → Nat → Int64} {q : Nat → Nat → Option Nat} {tk : Nat → Int32} {fk fp be dp op om od : Int32} {r87 r88 r89 r90 r91 r92 r93 : Nat → Int32} {w : Int64} {x v ce N : Nat} (hN : I 80 14 = nI N ∧ N ≤ 200) (hx : x ≤ 26) (hv : v < 16777216) (hc : ce < 800) : am_Ev d 166 0 (am_ent 3 [.ref 80, .int (nI x), .int (nI v)]) [] (n, sl, wKK kk, (mrI I tk fk fp be (nI ce) dp op om od r87 r88 r89 r90 r91 r92 r93), (mwL L w), wQQ q) (none, (n, sl, wKK kk, (mrI I tk fk fp be (nI (ce + 1)) dp op om od (upd r87 (800 * N + ce) (nI (x * 16777216 + v))) r88 r89 r90 r91 r92 r93), (mwL L w), wQQ q)) := by
  refine tv_ev ?_
  show am_T _ _ 0 [some (.ref 80), some (.int (nI x)), some (.int (nI v))] _ _ _
  refine tv_b (pc' := 11) (ls' := [some (.ref 80), some (.int (nI x)), some (.int (nI v))]) (st' := [.int (I 80 14), .int 800, .ref 87]) (h' := (n, sl, wKK kk, (mrI I tk fk fp be (nI ce) dp op om od r87 r88 r89 r90 r91 r92 r93), (mwL L w), wQQ q)) 5 rfl ?_
  refine tv_top (hN.1) ?_
  refine tv_b (pc' := 12) (ls' := [some (.ref 80), some (.int (nI x)), some (.int (nI v))]) (st' := [.int (800 * (nI N)), .ref 87]) (h' := (n, sl, wKK kk, (mrI I tk fk fp be (nI ce) dp op om od r87 r88 r89 r90 r91 r92 r93), (mwL L w), wQQ q)) 1 rfl ?_
  refine tv_top (show 800 * (nI N) = nI (800 * N) from nI_mul 800 N) ?_
  refine tv_b (pc' := 16) (ls' := [some (.ref 80), some (.int (nI x)), some (.int (nI v))]) (st' := [.int (nI ce), .int (nI (800 * N)), .ref 87]) (h' := (n, sl, wKK kk, (mrI I tk fk fp be (nI ce) dp op om od r87 r88 r89 r90 r91 r92 r93), (mwL L w), wQQ q)) 2 rfl ?_
  refine tv_b (pc' := 17) (ls' := [some (.ref 80), some (.int (nI x)), some (.int (nI v))]) (st' := [.int ((nI (800 * N)) + (nI ce)), .ref 87]) (h' := (n, sl, wKK kk, (mrI I tk fk fp be (nI ce) dp op om od r87 r88 r89 r90 r91 r92 r93), (mwL L w), wQQ q)) 1 rfl ?_
  refine tv_top (show (nI (800 * N)) + (nI ce) = nI ((800 * N) + ce) from nI_add (800 * N) ce) ?_
  refine tv_b (pc' := 23) (ls' := [some (.ref 80), some (.int (nI x)), some (.int (nI v))]) (st' := [.int (((nI x) <<< (24 &&& 31)) ||| (nI v)), .int (nI ((800 * N) + ce)), .ref 87]) (h' := (n, sl, wKK kk, (mrI I tk fk fp be (nI ce) dp op om od r87 r88 r89 r90 r91 r92 r93), (mwL L w), wQQ q)) 5 rfl ?_
  refine tv_top (mr_sh x v hx hv) ?_
  refine tv_iasN (k := ((800 * N) + ce)) rfl (rfl) (⟨by omega, by omega⟩) ?_
  refine tv_hI mrI_w_r87 ?_
  refine tv_b (pc' := 30) (ls' := [some (.ref 80), some (.int (nI x)), some (.int (nI v))]) (st' := [.int 1, .int (nI ce), .ref 80]) (h' := (n, sl, wKK kk, (mrI I tk fk fp be (nI ce) dp op om od (upd r87 ((800 * N) + ce) (nI (x * 16777216 + v))) r88 r89 r90 r91 r92 r93), (mwL L w), wQQ q)) 4 rfl ?_
  refine tv_b (pc' := 31) (ls' := [some (.ref 80), some (.int (nI x)), some (.int (nI v))]) (st' := [.int ((nI ce) + 1), .ref 80]) (h' := (n, sl, wKK kk, (mrI I tk fk fp be (nI ce) dp op om od (upd r87 ((800 * N) + ce) (nI (x * 16777216 + v))) r88 r89 r90 r91 r92 r93), (mwL L w), wQQ q)) 1 rfl ?_
  refine tv_top (show (nI ce) + 1 = nI (ce + 1) from nI_add ce 1) ?_
  refine tv_b (pc' := 34) (ls' := [some (.ref 80), some (.int (nI x)), some (.int (nI v))]) (st' := []) (h' := (n, sl, wKK kk, va_up (mrI I tk fk fp be (nI ce) dp op om od (upd r87 ((800 * N) + ce) (nI (x * 16777216 + v))) r88 r89 r90 r91 r92 r93) 80 (upd ((mrI I tk fk fp be (nI ce) dp op om od (upd r87 ((800 * N) + ce) (nI (x * 16777216 + v))) r88 r89 r90 r91 r92 r93) 80) 21 (nI (ce + 1))), (mwL L w), wQQ q)) 1 rfl ?_
  refine tv_hI mrI_w_co ?_
  exact tv_rv rfl ⟨rfl, rfl⟩
theorem ev_mr_isT {d k : Nat} {h : am_H} (hk : k ≤ 5) : am_Ev d 173 0 (am_ent 1 [.int (nI k)]) [] h (some (.int (if pa_isT k = true then 1 else 0)), h) := by
  have e := ev_m_isTest (d := d) (h := h) (x := nI k)
  have e2 : ∀ k, k ≤ 5 → sp_m_isTest (nI k) = (if pa_isT k = true then 1 else 0) := by decide +kernel
  rw [e2 k hk] at e
  exact e
theorem ev_mr_rank {d o : Nat} {h : am_H} (ho : o ≤ 26) : am_Ev d 168 0 (am_ent 1 [.int (nI o)]) [] h (some (.int (nI (pa_rank o))), h) := by
  have e := ev_m_rank (d := d) (h := h) (x := nI o)
  have e2 : ∀ o, o ≤ 26 → sp_m_rank (nI o) = nI (pa_rank o) := by decide +kernel
  rw [e2 o ho] at e
  exact e
theorem ev_mr_isS {d n sl : Nat} {kk : Nat → Nat × Nat} {I : Nat → Nat → Int32} {L : Nat → Nat → Int64} {q : Nat → Nat → Option Nat} {tx : Nat → Nat} {T : Nat} {tk : Nat → Int32} {fk fp be co dp op om od : Int32} {r87 r88 r89 r90 r91 r92 r93 : Nat → Int32} {w : Int64} {p c t : Nat} (ht : tkP tx T p (tk 3) (tk 4) (tk 5) (tk 6) w) (hc : (c, t) ∈ [(40, 32), (41, 33), (91, 34), (93, 35), (44, 36), (59, 37), (43, 22), (45, 23), (42, 24), (47, 25), (60, 26), (62, 27), (61, 28)]) : am_Ev d 163 0 (am_ent 2 [.ref 80, .int (nI c)]) [] (n, sl, wKK kk, (mrI I tk fk fp be co dp op om od r87 r88 r89 r90 r91 r92 r93), (mwL L w), wQQ q) (some (.int (if pa_tk tx T p = t then 1 else 0)), (n, sl, wKK kk, (mrI I tk fk fp be co dp op om od r87 r88 r89 r90 r91 r92 r93), (mwL L w), wQQ q)) := by
  have e := ev_m_isSign (d := d) (n := n) (sl := sl) (k := kk) (I := mrI I tk fk fp be co dp op om od r87 r88 r89 r90 r91 r92 r93) (L := mwL L w) (q := q) (x := nI c)
  have e2 : sp_m_isSign (nI c) (mrI I tk fk fp be co dp op om od r87 r88 r89 r90 r91 r92 r93) (mwL L w) = (if pa_tk tx T p = t then 1 else 0) := by
    have h := mr_isS ht hc
    show (if tk 3 = 3 then (if tk 6 = nI c then 1 else 0) else 0) = _
    by_cases h3 : tk 3 = 3
    · rw [if_pos h3]
      by_cases h6 : tk 6 = nI c
      · rw [if_pos h6, if_pos (h.mp ⟨h3, h6⟩)]
      · rw [if_neg h6, if_neg (fun z => h6 (h.mpr z).2)]
    · rw [if_neg h3, if_neg (fun z => h3 (h.mpr z).1)]
  rw [e2] at e
  exact e
theorem mr_isWv {I : Nat → Nat → Int32} {L : Nat → Nat → Int64} {tx : Nat → Nat} {T : Nat} {tk : Nat → Int32} {fk fp be co dp op om od : Int32} {r87 r88 r89 r90 r91 r92 r93 : Nat → Int32} {w : Int64} {p t : Nat} {W : Int64} (ht : tkP tx T p (tk 3) (tk 4) (tk 5) (tk 6) w) (ht2 : t < 21) (hW : W = lN (mpk (pa_words.getD t []))) : sp_m_isWord W (mrI I tk fk fp be co dp op om od r87 r88 r89 r90 r91 r92 r93) (mwL L w) = (if pa_tk tx T p = t then 1 else 0) := by
  have h := mr_isW ht ht2
  rw [← hW] at h
  show (if tk 3 = 1 then (if (lg_cmp w W) = 0 then 1 else 0) else 0) = _
  by_cases h3 : tk 3 = 1
  · rw [if_pos h3]
    by_cases h6 : w = W
    · rw [if_pos (lg_cmp0.mpr h6), if_pos (h.mp ⟨h3, h6⟩)]
    · rw [if_neg (fun z => h6 (lg_cmp0.mp z)), if_neg (fun z => h6 (h.mpr z).2)]
  · rw [if_neg h3, if_neg (fun z => h3 (h.mpr z).1)]
theorem ev_mr_isW {d n sl : Nat} {kk : Nat → Nat × Nat} {I : Nat → Nat → Int32} {L : Nat → Nat → Int64} {q : Nat → Nat → Option Nat} {tx : Nat → Nat} {T : Nat} {tk : Nat → Int32} {fk fp be co dp op om od : Int32} {r87 r88 r89 r90 r91 r92 r93 : Nat → Int32} {w : Int64} {p t : Nat} {W : Int64} (ht : tkP tx T p (tk 3) (tk 4) (tk 5) (tk 6) w) (ht2 : t < 21) (hW : W = lN (mpk (pa_words.getD t []))) : am_Ev d 164 0 (am_ent 3 [.ref 80, .long W]) [] (n, sl, wKK kk, (mrI I tk fk fp be co dp op om od r87 r88 r89 r90 r91 r92 r93), (mwL L w), wQQ q) (some (.int (if pa_tk tx T p = t then 1 else 0)), (n, sl, wKK kk, (mrI I tk fk fp be co dp op om od r87 r88 r89 r90 r91 r92 r93), (mwL L w), wQQ q)) := by
  have e := ev_m_isWord (d := d) (n := n) (sl := sl) (k := kk) (I := mrI I tk fk fp be co dp op om od r87 r88 r89 r90 r91 r92 r93) (L := mwL L w) (q := q) (w := W)
  rw [mr_isWv ht ht2 hW] at e
  exact e
theorem mw_0 : (1818583396 : Int64) = lN (mpk (pa_words.getD 0 [])) := by decide +kernel
theorem mw_1 : (1885958245 : Int64) = lN (mpk (pa_words.getD 1 [])) := by decide +kernel
theorem mw_2 : (440006570868 : Int64) = lN (mpk (pa_words.getD 2 [])) := by decide +kernel
theorem mw_3 : (1937010544 : Int64) = lN (mpk (pa_words.getD 3 [])) := by decide +kernel
theorem mw_4 : (418430873463 : Int64) = lN (mpk (pa_words.getD 4 [])) := by decide +kernel
theorem mw_5 : (465625246068 : Int64) = lN (mpk (pa_words.getD 5 [])) := by decide +kernel
theorem mw_6 : (2003330414 : Int64) = lN (mpk (pa_words.getD 6 [])) := by decide +kernel
theorem mw_7 : (28530 : Int64) = lN (mpk (pa_words.getD 7 [])) := by decide +kernel
theorem mw_8 : (6385252 : Int64) = lN (mpk (pa_words.getD 8 [])) := by decide +kernel
theorem mw_9 : (7237492 : Int64) = lN (mpk (pa_words.getD 9 [])) := by decide +kernel
theorem mw_10 : (6384748 : Int64) = lN (mpk (pa_words.getD 10 [])) := by decide +kernel
theorem mw_11 : (1818583406 : Int64) = lN (mpk (pa_words.getD 11 [])) := by decide +kernel
theorem mw_12 : (1918989413 : Int64) = lN (mpk (pa_words.getD 12 [])) := by decide +kernel
theorem mw_13 : (512970879860 : Int64) = lN (mpk (pa_words.getD 13 [])) := by decide +kernel
theorem mw_14 : (512736126322 : Int64) = lN (mpk (pa_words.getD 14 [])) := by decide +kernel
theorem mw_15 : (6578553 : Int64) = lN (mpk (pa_words.getD 15 [])) := by decide +kernel
theorem mw_16 : (1953459827 : Int64) = lN (mpk (pa_words.getD 16 [])) := by decide +kernel
theorem mw_17 : (431415719790 : Int64) = lN (mpk (pa_words.getD 17 [])) := by decide +kernel
theorem mw_18 : (1819238756 : Int64) = lN (mpk (pa_words.getD 18 [])) := by decide +kernel
theorem mw_19 : (7170414 : Int64) = lN (mpk (pa_words.getD 19 [])) := by decide +kernel
theorem mw_20 : (7168376 : Int64) = lN (mpk (pa_words.getD 20 [])) := by decide +kernel
def mask (t : Nat) : Nat := if 11 ≤ t ∧ t ≤ 17 then t - 10 else 0
theorem ev_mr_asks {d n sl : Nat} {kk : Nat → Nat × Nat} {I : Nat → Nat → Int32} {L : Nat → Nat → Int64} {q : Nat → Nat → Option Nat} {tx : Nat → Nat} {T : Nat} {tk : Nat → Int32} {fk fp be co dp op om od : Int32} {r87 r88 r89 r90 r91 r92 r93 : Nat → Int32} {w : Int64} {p : Nat} (ht : tkP tx T p (tk 3) (tk 4) (tk 5) (tk 6) w) : am_Ev (d + 1) 167 0 (am_ent 1 [.ref 80]) [] (n, sl, wKK kk, (mrI I tk fk fp be co dp op om od r87 r88 r89 r90 r91 r92 r93), (mwL L w), wQQ q) (some (.int (nI (mask (pa_tk tx T p)))), (n, sl, wKK kk, (mrI I tk fk fp be co dp op om od r87 r88 r89 r90 r91 r92 r93), (mwL L w), wQQ q)) := by
  have e := ev_m_asks (d := d) (n := n) (sl := sl) (k := kk) (I := mrI I tk fk fp be co dp op om od r87 r88 r89 r90 r91 r92 r93) (L := mwL L w) (q := q)
  have e2 : sp_m_asks (mrI I tk fk fp be co dp op om od r87 r88 r89 r90 r91 r92 r93) (mwL L w) = nI (mask (pa_tk tx T p)) := by
    unfold sp_m_asks
    rw [mr_isWv ht (t := 11) (by decide) mw_11, mr_isWv ht (t := 12) (by decide) mw_12, mr_isWv ht (t := 13) (by decide) mw_13, mr_isWv ht (t := 14) (by decide) mw_14, mr_isWv ht (t := 15) (by decide) mw_15, mr_isWv ht (t := 16) (by decide) mw_16, mr_isWv ht (t := 17) (by decide) mw_17]
    have h40 := pa_tk_lt (b := tx) (n := T) p
    generalize pa_tk tx T p = t at h40
    revert t
    decide +kernel
  rw [e2] at e
  exact e
def fsum : List pa_F → Nat
  | [] => 0
  | f :: fs => fsum fs + f.2.2.2.2.length
def opR (r93 : Nat → Int32) (B : Nat) : List Nat → Prop
  | [] => True
  | o :: os => r93 (B + os.length) = nI o ∧ (10 ≤ o ∧ o ≤ 26) ∧ opR r93 B os
def frR (r88 r89 r90 r91 r92 r93 : Nat → Int32) : List pa_F → Prop
  | [] => True
  | f :: fs => r88 fs.length = nI f.1 ∧ f.1 ≤ 5 ∧ r89 fs.length = nI f.2.1 ∧ f.2.1 ≤ 2 ∧ r90 fs.length = (if f.2.2.1 = true then 1 else 0) ∧ ((f.1 = 3 ∨ f.1 = 4) → r91 fs.length = nI f.2.2.2.1 ∧ (f.2.2.2.1 = 19 ∨ f.2.2.2.1 = 20)) ∧ r92 fs.length = nI (fsum fs) ∧ opR r93 (fsum fs) f.2.2.2.2 ∧ frR r88 r89 r90 r91 r92 r93 fs
section FR
variable {r88 r89 r90 r91 r92 r93 s88 s89 s90 s91 s92 s93 : Nat → Int32}
theorem opR_c {B : Nat} : ∀ {os : List Nat}, opR r93 B os → (∀ j, j < B + os.length → s93 j = r93 j) → opR s93 B os := by
  intro os
  induction os with
  | nil => intro _ _; trivial
  | cons o os ih =>
    intro h e
    have el : (o :: os).length = os.length + 1 := rfl
    rw [el] at e
    exact ⟨by rw [e _ (by omega)]; exact h.1, h.2.1, ih h.2.2 (fun j hj => e j (by omega))⟩
theorem frR_c : ∀ {fs : List pa_F}, frR r88 r89 r90 r91 r92 r93 fs → (∀ j, j < fs.length → s88 j = r88 j ∧ s89 j = r89 j ∧ s90 j = r90 j ∧ s91 j = r91 j ∧ s92 j = r92 j) → (∀ j, j < fsum fs → s93 j = r93 j) → frR s88 s89 s90 s91 s92 s93 fs := by
  intro fs
  induction fs with
  | nil => intro _ _ _; trivial
  | cons f fs ih =>
    intro h e1 e2
    have el : (f :: fs).length = fs.length + 1 := rfl
    rw [el] at e1
    obtain ⟨a1, a2, a3, a4, a5, a6, a7, a8, a9⟩ := h
    obtain ⟨b1, b2, b3, b4, b5⟩ := e1 fs.length (by omega)
    have es : fsum (f :: fs) = fsum fs + f.2.2.2.2.length := rfl
    rw [es] at e2
    exact ⟨by rw [b1]; exact a1, a2, by rw [b2]; exact a3, a4, by rw [b3]; exact a5, by rw [b4]; exact a6, by rw [b5]; exact a7, opR_c a8 e2, ih a9 (fun j hj => e1 j (by omega)) (fun j hj => e2 j (by omega))⟩
theorem upd_n {f : Nat → Int32} {i j : Nat} {x : Int32} (h : j ≠ i) : upd f i x j = f j := by unfold upd; rw [if_neg h]
theorem upd_e {f : Nat → Int32} {i : Nat} {x : Int32} : upd f i x i = x := by unfold upd; rw [if_pos rfl]
theorem opR_u {B i : Nat} {x : Int32} {os : List Nat} (h : opR r93 B os) (hi : B + os.length ≤ i) : opR (upd r93 i x) B os := opR_c h (fun j hj => upd_n (by omega))
/-- an operator is held back -/
theorem frR_push {f : pa_F} {fs : List pa_F} {o : Nat} (h : frR r88 r89 r90 r91 r92 r93 (f :: fs)) (ho : 10 ≤ o ∧ o ≤ 26) : frR r88 r89 r90 r91 r92 (upd r93 (fsum (f :: fs)) (nI o)) ((f.1, f.2.1, f.2.2.1, f.2.2.2.1, o :: f.2.2.2.2) :: fs) := by
  obtain ⟨a1, a2, a3, a4, a5, a6, a7, a8, a9⟩ := h
  exact ⟨a1, a2, a3, a4, a5, a6, a7, ⟨upd_e, ho, opR_u a8 (Nat.le_refl _)⟩, frR_c a9 (fun j hj => ⟨rfl, rfl, rfl, rfl, rfl⟩) (fun j hj => upd_n (by show j ≠ fsum fs + f.2.2.2.2.length; omega))⟩
theorem frR_bg {f : pa_F} {fs : List pa_F} (h : frR r88 r89 r90 r91 r92 r93 (f :: fs)) : frR r88 r89 (upd r90 fs.length 0) r91 r92 r93 ((f.1, f.2.1, false, f.2.2.2) :: fs) := by
  obtain ⟨a1, a2, a3, a4, a5, a6, a7, a8, a9⟩ := h
  exact ⟨a1, a2, a3, a4, upd_e, a6, a7, a8, frR_c a9 (fun j hj => ⟨rfl, rfl, upd_n (by omega), rfl, rfl⟩) (fun j hj => rfl)⟩
theorem frR_bg1 {f : pa_F} {fs : List pa_F} (h : frR r88 r89 r90 r91 r92 r93 (f :: fs)) : frR r88 r89 (upd r90 fs.length 1) r91 r92 r93 ((f.1, f.2.1, true, f.2.2.2) :: fs) := by
  obtain ⟨a1, a2, a3, a4, a5, a6, a7, a8, a9⟩ := h
  exact ⟨a1, a2, a3, a4, upd_e, a6, a7, a8, frR_c a9 (fun j hj => ⟨rfl, rfl, upd_n (by omega), rfl, rfl⟩) (fun j hj => rfl)⟩
theorem frR_ph {f : pa_F} {fs : List pa_F} {x : Nat} (h : frR r88 r89 r90 r91 r92 r93 (f :: fs)) (hx : x ≤ 2) : frR r88 (upd r89 fs.length (nI x)) r90 r91 r92 r93 ((f.1, x, f.2.2) :: fs) := by
  obtain ⟨a1, a2, a3, a4, a5, a6, a7, a8, a9⟩ := h
  exact ⟨a1, a2, upd_e, hx, a5, a6, a7, a8, frR_c a9 (fun j hj => ⟨rfl, upd_n (by omega), rfl, rfl, rfl⟩) (fun j hj => rfl)⟩
theorem frR_4 {f : pa_F} {fs : List pa_F} (h : frR r88 r89 r90 r91 r92 r93 (f :: fs)) (h3 : f.1 = 3) : frR (upd r88 fs.length 4) r89 r90 r91 r92 r93 ((4, f.2) :: fs) := by
  obtain ⟨a1, a2, a3, a4, a5, a6, a7, a8, a9⟩ := h
  exact ⟨upd_e, (by decide : (4 : Nat) ≤ 5), a3, a4, a5, fun _ => a6 (Or.inl h3), a7, a8, frR_c a9 (fun j hj => ⟨upd_n (by omega), rfl, rfl, rfl, rfl⟩) (fun j hj => rfl)⟩
theorem frR_new {fs : List pa_F} {k : Nat} (h : frR r88 r89 r90 r91 r92 r93 fs) (hk : k ≤ 5) (h34 : k ≠ 3 ∧ k ≠ 4) : frR (upd r88 fs.length (nI k)) (upd r89 fs.length 0) (upd r90 fs.length 1) r91 (upd r92 fs.length (nI (fsum fs))) r93 ((k, 0, true, 0, []) :: fs) :=
  ⟨upd_e, hk, upd_e, (by decide : (0 : Nat) ≤ 2), upd_e, fun h => by rcases h with h | h; exact absurd h h34.1; exact absurd h h34.2, upd_e, trivial, frR_c h (fun j hj => ⟨upd_n (by omega), upd_n (by omega), upd_n (by omega), rfl, upd_n (by omega)⟩) (fun j hj => rfl)⟩
theorem frR_new3 {fs : List pa_F} {t : Nat} (h : frR r88 r89 r90 r91 r92 r93 fs) (ht : t = 19 ∨ t = 20) : frR (upd r88 fs.length 3) (upd r89 fs.length 0) (upd r90 fs.length 1) (upd r91 fs.length (nI t)) (upd r92 fs.length (nI (fsum fs))) r93 ((3, 0, true, t, []) :: fs) :=
  ⟨upd_e, (by decide : (3 : Nat) ≤ 5), upd_e, (by decide : (0 : Nat) ≤ 2), upd_e, fun _ => ⟨upd_e, ht⟩, upd_e, trivial, frR_c h (fun j hj => ⟨upd_n (by omega), upd_n (by omega), upd_n (by omega), upd_n (by omega), upd_n (by omega)⟩) (fun j hj => rfl)⟩
theorem frR_pop {f : pa_F} {fs : List pa_F} (h : frR r88 r89 r90 r91 r92 r93 (f :: fs)) : frR r88 r89 r90 r91 r92 r93 fs := h.2.2.2.2.2.2.2.2
end FR
def menc (c : Nat × Nat) : Nat := c.1 * 16777216 + c.2
