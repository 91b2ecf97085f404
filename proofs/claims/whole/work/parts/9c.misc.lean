/-! END, FAULT, FORGET, DRAWN, SETTLED, LOAD, RIGHT, ALL -/
theorem ev_x_settledO {d n sl : Nat} {kk : Nat → Nat × Nat} {I : Nat → Nat → Int32} {L : Nat → Nat → Int64} {q : Nat → Nat → Option Nat} {c x : Int32} (hx : sp_isColumn c = 0 ∨ sp_isWithin x.toInt64 0 400 = 0) : am_Ev (d + 2) 126 0 (am_ent 3 [.ref 0, .int c, .int x]) [] (n, sl, wKK kk, I, L, wQQ q) (some (.long (-1000000000000001)), (n, sl, wKK kk, I, L, wQQ q)) := by
  refine tv_ev ?_
  show am_T _ _ 0 [some (.ref 0), some (.int c), some (.int x)] _ _ _
  refine tv_b (pc' := 1) (ls' := [some (.ref 0), some (.int c), some (.int x)]) (st' := [.int c]) (h' := (n, sl, wKK kk, I, L, wQQ q)) 1 rfl ?_
  refine tv_csE [.int c] [] rfl rfl (by omega) rfl (Nat.le_of_ble_eq_true rfl) (Nat.le_of_ble_eq_true rfl) (ev_isColumn) ?_
  refine tv_b (pc' := (if (sp_isColumn c) = 0 then 19 else 7)) (ls' := [some (.ref 0), some (.int c), some (.int x)]) (st' := []) (h' := (n, sl, wKK kk, I, L, wQQ q)) 1 rfl ?_
  refine tv_if (fun c4 => ?_) (fun c4 => ?_)
  · refine tv_b (pc' := 22) (ls' := [some (.ref 0), some (.int c), some (.int x)]) (st' := [.long (-1000000000000001)]) (h' := (n, sl, wKK kk, I, L, wQQ q)) 1 rfl ?_
    exact tv_rl rfl ⟨rfl, rfl⟩
  · refine tv_b (pc' := 13) (ls' := [some (.ref 0), some (.int c), some (.int x)]) (st' := [.long 400, .long 0, .long x.toInt64]) (h' := (n, sl, wKK kk, I, L, wQQ q)) 4 rfl ?_
    refine tv_csE [.long x.toInt64, .long 0, .long 400] [] rfl rfl (by omega) rfl (Nat.le_of_ble_eq_true rfl) (Nat.le_of_ble_eq_true rfl) (ev_isWithin) ?_
    refine tv_b (pc' := (if (sp_isWithin x.toInt64 0 400) = 0 then 19 else 23)) (ls' := [some (.ref 0), some (.int c), some (.int x)]) (st' := []) (h' := (n, sl, wKK kk, I, L, wQQ q)) 1 rfl ?_
    refine tv_if (fun c16 => ?_) (fun c16 => ?_)
    · refine tv_b (pc' := 22) (ls' := [some (.ref 0), some (.int c), some (.int x)]) (st' := [.long (-1000000000000001)]) (h' := (n, sl, wKK kk, I, L, wQQ q)) 1 rfl ?_
      exact tv_rl rfl ⟨rfl, rfl⟩
    · exact absurd hx (fun z => z.elim c4 c16)
theorem ev_m_settledO {d n sl : Nat} {kk : Nat → Nat × Nat} {I : Nat → Nat → Int32} {L : Nat → Nat → Int64} {q : Nat → Nat → Option Nat} {c x : Int32} (hx : sp_m_isColumn c = 0 ∨ sp_m_is x 0 400 = 0) : am_Ev (d + 2) 210 0 (am_ent 3 [.ref 80, .int c, .int x]) [] (n, sl, wKK kk, I, L, wQQ q) (some (.long (-1000000000000001)), (n, sl, wKK kk, I, L, wQQ q)) := by
  refine tv_ev ?_
  show am_T _ _ 0 [some (.ref 80), some (.int c), some (.int x)] _ _ _
  refine tv_b (pc' := 1) (ls' := [some (.ref 80), some (.int c), some (.int x)]) (st' := [.int c]) (h' := (n, sl, wKK kk, I, L, wQQ q)) 1 rfl ?_
  refine tv_csE [.int c] [] rfl rfl (by omega) rfl (Nat.le_of_ble_eq_true rfl) (Nat.le_of_ble_eq_true rfl) (ev_m_isColumn) ?_
  refine tv_b (pc' := (if (sp_m_isColumn c) = 0 then 18 else 7)) (ls' := [some (.ref 80), some (.int c), some (.int x)]) (st' := []) (h' := (n, sl, wKK kk, I, L, wQQ q)) 1 rfl ?_
  refine tv_if (fun c4 => ?_) (fun c4 => ?_)
  · refine tv_b (pc' := 21) (ls' := [some (.ref 80), some (.int c), some (.int x)]) (st' := [.long (-1000000000000001)]) (h' := (n, sl, wKK kk, I, L, wQQ q)) 1 rfl ?_
    exact tv_rl rfl ⟨rfl, rfl⟩
  · refine tv_b (pc' := 12) (ls' := [some (.ref 80), some (.int c), some (.int x)]) (st' := [.int 400, .int 0, .int x]) (h' := (n, sl, wKK kk, I, L, wQQ q)) 3 rfl ?_
    refine tv_csE [.int x, .int 0, .int 400] [] rfl rfl (by omega) rfl (Nat.le_of_ble_eq_true rfl) (Nat.le_of_ble_eq_true rfl) (ev_m_is) ?_
    refine tv_b (pc' := (if (sp_m_is x 0 400) = 0 then 18 else 22)) (ls' := [some (.ref 80), some (.int c), some (.int x)]) (st' := []) (h' := (n, sl, wKK kk, I, L, wQQ q)) 1 rfl ?_
    refine tv_if (fun c15 => ?_) (fun c15 => ?_)
    · refine tv_b (pc' := 21) (ls' := [some (.ref 80), some (.int c), some (.int x)]) (st' := [.long (-1000000000000001)]) (h' := (n, sl, wKK kk, I, L, wQQ q)) 1 rfl ?_
      exact tv_rl rfl ⟨rfl, rfl⟩
    · exact absurd hx (fun z => z.elim c4 c15)
theorem ev_x_loadO {d n sl : Nat} {kk : Nat → Nat × Nat} {I : Nat → Nat → Int32} {L : Nat → Nat → Int64} {q : Nat → Nat → Option Nat} {c x : Int32} (hx : sp_isColumn c = 0 ∨ sp_isDay x = 0) : am_Ev (d + 2) 127 0 (am_ent 3 [.ref 0, .int c, .int x]) [] (n, sl, wKK kk, I, L, wQQ q) (some (.int (-1)), (n, sl, wKK kk, I, L, wQQ q)) := by
  refine tv_ev ?_
  show am_T _ _ 0 [some (.ref 0), some (.int c), some (.int x)] _ _ _
  refine tv_b (pc' := 1) (ls' := [some (.ref 0), some (.int c), some (.int x)]) (st' := [.int c]) (h' := (n, sl, wKK kk, I, L, wQQ q)) 1 rfl ?_
  refine tv_csE [.int c] [] rfl rfl (by omega) rfl (Nat.le_of_ble_eq_true rfl) (Nat.le_of_ble_eq_true rfl) (ev_isColumn) ?_
  refine tv_b (pc' := (if (sp_isColumn c) = 0 then 14 else 7)) (ls' := [some (.ref 0), some (.int c), some (.int x)]) (st' := []) (h' := (n, sl, wKK kk, I, L, wQQ q)) 1 rfl ?_
  refine tv_if (fun c4 => ?_) (fun c4 => ?_)
  · refine tv_b (pc' := 15) (ls' := [some (.ref 0), some (.int c), some (.int x)]) (st' := [.int (-1)]) (h' := (n, sl, wKK kk, I, L, wQQ q)) 1 rfl ?_
    exact tv_ri rfl ⟨rfl, rfl⟩
  · refine tv_b (pc' := 8) (ls' := [some (.ref 0), some (.int c), some (.int x)]) (st' := [.int x]) (h' := (n, sl, wKK kk, I, L, wQQ q)) 1 rfl ?_
    refine tv_csE [.int x] [] rfl rfl (by omega) rfl (Nat.le_of_ble_eq_true rfl) (Nat.le_of_ble_eq_true rfl) (ev_isDay) ?_
    refine tv_b (pc' := (if (sp_isDay x) = 0 then 14 else 16)) (ls' := [some (.ref 0), some (.int c), some (.int x)]) (st' := []) (h' := (n, sl, wKK kk, I, L, wQQ q)) 1 rfl ?_
    refine tv_if (fun c11 => ?_) (fun c11 => ?_)
    · refine tv_b (pc' := 15) (ls' := [some (.ref 0), some (.int c), some (.int x)]) (st' := [.int (-1)]) (h' := (n, sl, wKK kk, I, L, wQQ q)) 1 rfl ?_
      exact tv_ri rfl ⟨rfl, rfl⟩
    · exact absurd hx (fun z => z.elim c4 c11)
theorem ev_m_loadO {d n sl : Nat} {kk : Nat → Nat × Nat} {I : Nat → Nat → Int32} {L : Nat → Nat → Int64} {q : Nat → Nat → Option Nat} {c x : Int32} (hx : sp_m_isColumn c = 0 ∨ sp_m_isDay x = 0) : am_Ev (d + 2) 211 0 (am_ent 3 [.ref 80, .int c, .int x]) [] (n, sl, wKK kk, I, L, wQQ q) (some (.int (-1)), (n, sl, wKK kk, I, L, wQQ q)) := by
  refine tv_ev ?_
  show am_T _ _ 0 [some (.ref 80), some (.int c), some (.int x)] _ _ _
  refine tv_b (pc' := 1) (ls' := [some (.ref 80), some (.int c), some (.int x)]) (st' := [.int c]) (h' := (n, sl, wKK kk, I, L, wQQ q)) 1 rfl ?_
  refine tv_csE [.int c] [] rfl rfl (by omega) rfl (Nat.le_of_ble_eq_true rfl) (Nat.le_of_ble_eq_true rfl) (ev_m_isColumn) ?_
  refine tv_b (pc' := (if (sp_m_isColumn c) = 0 then 14 else 7)) (ls' := [some (.ref 80), some (.int c), some (.int x)]) (st' := []) (h' := (n, sl, wKK kk, I, L, wQQ q)) 1 rfl ?_
  refine tv_if (fun c4 => ?_) (fun c4 => ?_)
  · refine tv_b (pc' := 15) (ls' := [some (.ref 80), some (.int c), some (.int x)]) (st' := [.int (-1)]) (h' := (n, sl, wKK kk, I, L, wQQ q)) 1 rfl ?_
    exact tv_ri rfl ⟨rfl, rfl⟩
  · refine tv_b (pc' := 8) (ls' := [some (.ref 80), some (.int c), some (.int x)]) (st' := [.int x]) (h' := (n, sl, wKK kk, I, L, wQQ q)) 1 rfl ?_
    refine tv_csE [.int x] [] rfl rfl (by omega) rfl (Nat.le_of_ble_eq_true rfl) (Nat.le_of_ble_eq_true rfl) (ev_m_isDay) ?_
    refine tv_b (pc' := (if (sp_m_isDay x) = 0 then 14 else 16)) (ls' := [some (.ref 80), some (.int c), some (.int x)]) (st' := []) (h' := (n, sl, wKK kk, I, L, wQQ q)) 1 rfl ?_
    refine tv_if (fun c11 => ?_) (fun c11 => ?_)
    · refine tv_b (pc' := 15) (ls' := [some (.ref 80), some (.int c), some (.int x)]) (st' := [.int (-1)]) (h' := (n, sl, wKK kk, I, L, wQQ q)) 1 rfl ?_
      exact tv_ri rfl ⟨rfl, rfl⟩
    · exact absurd hx (fun z => z.elim c4 c11)
theorem ev_m_rightO {d n sl : Nat} {kk : Nat → Nat × Nat} {I : Nat → Nat → Int32} {L : Nat → Nat → Int64} {q : Nat → Nat → Option Nat} {x : Int32} (hx : sp_m_isKnown x I L = 0 ∧ (¬ x < 1 → ¬ sp_m_now I L < x → ¬ (x < 0 ∨ 201 ≤ x.toNatClampNeg))) : am_Ev (d + 2) 226 0 (am_ent 2 [.ref 80, .int x]) [] (n, sl, wKK kk, I, L, wQQ q) (some (.int (-2000000000)), (n, sl, wKK kk, I, L, wQQ q)) := by
  refine tv_ev ?_
  show am_T _ _ 0 [some (.ref 80), some (.int x)] _ _ _
  refine tv_b (pc' := 2) (ls' := [some (.ref 80), some (.int x)]) (st' := [.int x, .ref 80]) (h' := (n, sl, wKK kk, I, L, wQQ q)) 2 rfl ?_
  refine tv_cvE [.int x] [] rfl rfl (by omega) rfl (Nat.le_of_ble_eq_true rfl) (Nat.le_of_ble_eq_true rfl) (Or.inr (Or.inr rfl)) (ev_m_isKnown hx.2) ?_
  refine tv_b (pc' := (if (sp_m_isKnown x I L) = 0 then 26 else 8)) (ls' := [some (.ref 80), some (.int x)]) (st' := []) (h' := (n, sl, wKK kk, I, L, wQQ q)) 1 rfl ?_
  refine tv_t (hx.1) ?_
  refine tv_b (pc' := 29) (ls' := [some (.ref 80), some (.int x)]) (st' := [.int (-2000000000)]) (h' := (n, sl, wKK kk, I, L, wQQ q)) 1 rfl ?_
  exact tv_ri rfl ⟨rfl, rfl⟩
theorem ev_x_rightO {d n sl : Nat} {kk : Nat → Nat × Nat} {I : Nat → Nat → Int32} {L : Nat → Nat → Int64} {q : Nat → Nat → Option Nat} {x : Int32} {C : Nat} (h2 : I 55 2 = nI C) (hx : x < 1 ∨ nI C < x) : am_Ev (d + 2) 133 0 (am_ent 3 [.ref 0, .int x]) [] (n, sl, wKK kk, I, L, wQQ q) (some (.int (-2000000000)), (n, sl, wKK kk, I, L, wQQ q)) := by
  refine tv_ev ?_
  show am_T _ _ 0 [some (.ref 0), some (.int x), none] _ _ _
  refine tv_b (pc' := 5) (ls' := [some (.ref 0), some (.int x), none]) (st' := [.int x, .ref 55]) (h' := (n, sl, wKK kk, I, L, wQQ q)) 3 rfl ?_
  refine tv_cvE [.int x] [] rfl rfl (by omega) rfl (Nat.le_of_ble_eq_true rfl) (Nat.le_of_ble_eq_true rfl) (Or.inr (Or.inr rfl)) (ev_b_act0 h2 hx) ?_
  refine tv_b (pc' := 41) (ls' := [some (.ref 0), some (.int x), some (.null)]) (st' := [.int (-2000000000)]) (h' := (n, sl, wKK kk, I, L, wQQ q)) 4 rfl ?_
  exact tv_ri rfl ⟨rfl, rfl⟩
theorem ev_x_all0 {d n sl : Nat} {kk : Nat → Nat × Nat} {I : Nat → Nat → Int32} {L : Nat → Nat → Int64} {q : Nat → Nat → Option Nat}  : am_Ev (d + 3) 145 0 (am_ent 2 [.ref 0, .int 0]) [] (n, sl, wKK kk, I, L, wQQ q) (some (.int (sp_b_size I L)), (n, sl, wKK kk, I, L, wQQ q)) := by
  refine tv_ev ?_
  show am_T _ _ 0 [some (.ref 0), some (.int 0)] _ _ _
  refine tv_b (pc' := 40) (ls' := [some (.ref 0), some (.int 0)]) (st' := [.ref 55]) (h' := (n, sl, wKK kk, I, L, wQQ q)) 4 rfl ?_
  refine tv_cvE [] [] rfl rfl (by omega) rfl (Nat.le_of_ble_eq_true rfl) (Nat.le_of_ble_eq_true rfl) (Or.inr (Or.inr rfl)) (ev_b_size) ?_
  exact tv_ri rfl ⟨rfl, rfl⟩
theorem ev_x_all1 {d n sl : Nat} {kk : Nat → Nat × Nat} {I : Nat → Nat → Int32} {L : Nat → Nat → Int64} {q : Nat → Nat → Option Nat}  : am_Ev (d + 3) 145 0 (am_ent 2 [.ref 0, .int 1]) [] (n, sl, wKK kk, I, L, wQQ q) (some (.int (sp_b_knownAt I L)), (n, sl, wKK kk, I, L, wQQ q)) := by
  refine tv_ev ?_
  show am_T _ _ 0 [some (.ref 0), some (.int 1)] _ _ _
  refine tv_b (pc' := 48) (ls' := [some (.ref 0), some (.int 1)]) (st' := [.ref 55]) (h' := (n, sl, wKK kk, I, L, wQQ q)) 4 rfl ?_
  refine tv_cvE [] [] rfl rfl (by omega) rfl (Nat.le_of_ble_eq_true rfl) (Nat.le_of_ble_eq_true rfl) (Or.inr (Or.inr rfl)) (ev_b_knownAt) ?_
  exact tv_ri rfl ⟨rfl, rfl⟩
theorem ev_x_all2 {d n sl : Nat} {kk : Nat → Nat × Nat} {I : Nat → Nat → Int32} {L : Nat → Nat → Int64} {q : Nat → Nat → Option Nat} {ah : Nat → Nat} (hB : am_Bk kk q (I 55 2).toNatClampNeg ah) (hC : I 55 2 = nI (I 55 2).toNatClampNeg) (hC2 : (I 55 2).toNatClampNeg ≤ 200) : am_Ev (d + 3) 145 0 (am_ent 2 [.ref 0, .int 2]) [] (n, sl, wKK kk, I, L, wQQ q) (some (.int (sp_b_countKnown 3 3 ah I L)), (n, sl, wKK kk, I, L, wQQ q)) := by
  refine tv_ev ?_
  show am_T _ _ 0 [some (.ref 0), some (.int 2)] _ _ _
  refine tv_b (pc' := 58) (ls' := [some (.ref 0), some (.int 2)]) (st' := [.int 3, .int 3, .ref 55]) (h' := (n, sl, wKK kk, I, L, wQQ q)) 6 rfl ?_
  refine tv_cvE [.int 3, .int 3] [] rfl rfl (by omega) rfl (Nat.le_of_ble_eq_true rfl) (Nat.le_of_ble_eq_true rfl) (Or.inr (Or.inr rfl)) (ev_b_countKnown hB hC hC2) ?_
  exact tv_ri rfl ⟨rfl, rfl⟩
theorem ev_x_all3 {d n sl : Nat} {kk : Nat → Nat × Nat} {I : Nat → Nat → Int32} {L : Nat → Nat → Int64} {q : Nat → Nat → Option Nat} {ah : Nat → Nat} (hB : am_Bk kk q (I 55 2).toNatClampNeg ah) (hC : I 55 2 = nI (I 55 2).toNatClampNeg) (hC2 : (I 55 2).toNatClampNeg ≤ 200) : am_Ev (d + 3) 145 0 (am_ent 2 [.ref 0, .int 3]) [] (n, sl, wKK kk, I, L, wQQ q) (some (.int (sp_b_countKnown 0 2 ah I L)), (n, sl, wKK kk, I, L, wQQ q)) := by
  refine tv_ev ?_
  show am_T _ _ 0 [some (.ref 0), some (.int 3)] _ _ _
  refine tv_b (pc' := 68) (ls' := [some (.ref 0), some (.int 3)]) (st' := [.int 2, .int 0, .ref 55]) (h' := (n, sl, wKK kk, I, L, wQQ q)) 6 rfl ?_
  refine tv_cvE [.int 0, .int 2] [] rfl rfl (by omega) rfl (Nat.le_of_ble_eq_true rfl) (Nat.le_of_ble_eq_true rfl) (Or.inr (Or.inr rfl)) (ev_b_countKnown hB hC hC2) ?_
  exact tv_ri rfl ⟨rfl, rfl⟩
theorem ev_x_all4 {d n sl : Nat} {kk : Nat → Nat × Nat} {I : Nat → Nat → Int32} {L : Nat → Nat → Int64} {q : Nat → Nat → Option Nat}  : am_Ev (d + 3) 145 0 (am_ent 2 [.ref 0, .int 4]) [] (n, sl, wKK kk, I, L, wQQ q) (some (.int (sp_c_size I L)), (n, sl, wKK kk, I, L, wQQ q)) := by
  refine tv_ev ?_
  show am_T _ _ 0 [some (.ref 0), some (.int 4)] _ _ _
  refine tv_b (pc' := 76) (ls' := [some (.ref 0), some (.int 4)]) (st' := [.ref 77]) (h' := (n, sl, wKK kk, I, L, wQQ q)) 4 rfl ?_
  refine tv_cvE [] [] rfl rfl (by omega) rfl (Nat.le_of_ble_eq_true rfl) (Nat.le_of_ble_eq_true rfl) (Or.inr (Or.inr rfl)) (ev_c_size) ?_
  exact tv_ri rfl ⟨rfl, rfl⟩
theorem ev_x_allO {d n sl : Nat} {kk : Nat → Nat × Nat} {I : Nat → Nat → Int32} {L : Nat → Nat → Int64} {q : Nat → Nat → Option Nat} {x : Int32} (hx : x.toInt < 0 ∨ 4 < x.toInt) : am_Ev (d + 2) 145 0 (am_ent 2 [.ref 0, .int x]) [] (n, sl, wKK kk, I, L, wQQ q) (some (.int (-1)), (n, sl, wKK kk, I, L, wQQ q)) := by
  refine tv_ev ?_
  show am_T _ _ 0 [some (.ref 0), some (.int x)] _ _ _
  refine tv_b (pc' := 1) (ls' := [some (.ref 0), some (.int x)]) (st' := [.int x]) (h' := (n, sl, wKK kk, I, L, wQQ q)) 1 rfl ?_
  refine tv_tsw rfl ?_
  rw [if_pos hx]
  refine tv_b (pc' := 81) (ls' := [some (.ref 0), some (.int x)]) (st' := [.int (-1)]) (h' := (n, sl, wKK kk, I, L, wQQ q)) 1 rfl ?_
  exact tv_ri rfl ⟨rfl, rfl⟩
theorem bsZ_0 {f : Nat → Int} : ∀ k, bsZ f 0 k = 0 := by
  intro k
  induction k with
  | zero => rfl
  | succ k ih =>
    show bsZ f 0 k + (if 0 / 2 ^ k % 2 = 1 then f k else 0) = 0
    rw [ih, Nat.zero_div]
    rfl
theorem jx_end {x : Int32} : jx 110 (am_ent 2 [.ref 0, .int x]) 158 (am_ent 2 [.ref 80, .int x]) := by
  rintro k h hk ⟨n, sl, kk, I, L, q, rfl, C, ah, M, tx, T, g, hr, ht, hu, hs, hc, hj, hn, hsl⟩
  have same := h_same (q := q) hk g hr ht hu hs hc hj hn hsl
  have t1 : I 57 1 = nI T := hr.1.1
  have t2 : I 80 1 = nI T := hr.2.2.1
  have hT8 := hr.1.2.1
  have e1 := ev_x_end (d := 0) (n := n) (sl := sl) (k := kk) (q := q) (I := I) (L := L) (x := x)
  have e2 := fun J0 => ev_m_end (d := 0) (n := n) (sl := sl) (k := kk) (q := q) (I := J0) (L := L) (x := x)
  by_cases h1 : x < 0
  · have e2 := e2 I
    simp only [sp_x_end, sI_x_end, sL_x_end, sp_r_cut, sI_r_cut, sL_r_cut, if_pos h1] at e1
    simp only [sp_m_end, sI_m_end, sL_m_end, if_pos h1] at e2
    exact jx_e (by decide) (by decide) e1 e2 same
  · by_cases h2 : x ≤ nI T
    · have v1 : sp_x_end x I L = 1 := by unfold sp_x_end sp_r_cut; rw [t1, if_neg h1, if_pos h2]
      have v2 : sI_x_end x I L = va_up I 57 (upd (I 57) 1 x) := by unfold sI_x_end sI_r_cut; rw [t1, if_neg h1, if_pos h2]
      have v3 : sL_x_end x I L = L := by unfold sL_x_end sL_r_cut; rw [t1, if_neg h1, if_pos h2]
      rw [v1, v2, v3] at e1
      have e2 := e2 (va_up I 57 (upd (I 57) 1 x))
      have t2' : va_up I 57 (upd (I 57) 1 x) 80 1 = nI T := by rw [va_n1 (by decide)]; exact t2
      have u1 : sp_m_end x (va_up I 57 (upd (I 57) 1 x)) L = 1 := by unfold sp_m_end; rw [t2', if_neg h1, if_pos h2]
      have u2 : sI_m_end x (va_up I 57 (upd (I 57) 1 x)) L = va_up (va_up I 57 (upd (I 57) 1 x)) 80 (upd (va_up I 57 (upd (I 57) 1 x) 80) 1 x) := by unfold sI_m_end; rw [t2', if_neg h1, if_pos h2]
      have u3 : sL_m_end x (va_up I 57 (upd (I 57) 1 x)) L = L := by unfold sL_m_end; rw [t2', if_neg h1, if_pos h2]
      rw [u1, u2, u3] at e2
      refine jx_e (by decide) (by decide) e1 e2 ?_
      have lo : ∀ j, (j ≠ 57 ∧ j ≠ 80) → va_up (va_up I 57 (upd (I 57) 1 x)) 80 (upd (va_up I 57 (upd (I 57) 1 x) 80) 1 x) j = I j := fun j hj => by rw [va_n1 hj.2, va_n1 hj.1]
      have l57 : ∀ i, va_up (va_up I 57 (upd (I 57) 1 x)) 80 (upd (va_up I 57 (upd (I 57) 1 x) 80) 1 x) 57 i = upd (I 57) 1 x i := fun i => by rw [va_n1 (by decide), va_e1]
      have l80 : ∀ i, va_up (va_up I 57 (upd (I 57) 1 x)) 80 (upd (va_up I 57 (upd (I 57) 1 x) 80) 1 x) 80 i = upd (I 80) 1 x i := fun i => by rw [va_e1, va_n1 (by decide)]
      generalize va_up (va_up I 57 (upd (I 57) 1 x)) 80 (upd (va_up I 57 (upd (I 57) 1 x) 80) 1 x) = J at lo l57 l80 ⊢
      have l8 : ∀ i, i ≠ 1 → J 80 i = I 80 i := fun i hi => by rw [l80, upd_n hi]
      have h1' : 0 ≤ x.toInt := by
        have : ¬ x.toInt < 0 := fun z => h1 (Int32.lt_iff_toInt_lt.mpr z)
        omega
      have ex := x_nI h1'
      have hxT : x.toInt.toNat ≤ T := by
        have hx31 := x.toInt_lt
        rw [ex] at h2
        exact (nI_leI (by omega) (by omega)).mp h2
      generalize x.toInt.toNat = X at ex hxT
      subst ex
      have tf : tFr I J := ⟨fun j hj => lo j (by omega), l8 45 (by decide), l8 46 (by decide)⟩
      have h6 : rT6 I J := ⟨(lo 94 (by decide)).symm, (lo 95 (by decide)).symm, (lo 96 (by decide)).symm, (lo 97 (by decide)).symm⟩
      have hwz : ∀ d, watZ I d = watZ J d := fun d => by unfold watZ; rw [lo 100 (by decide), lo 101 (by decide)]
      have gg : gInv n kk q J L C ah M := gInv_t g tf (by
        unfold wfT
        rw [lo 94 (by decide), lo 95 (by decide), lo 96 (by decide), lo 97 (by decide), lo 98 (by decide), lo 99 (by decide), lo 100 (by decide)]
        exact g.1) (by
        unfold cTow
        rw [lo 8 (by decide), lo 9 (by decide), lo 10 (by decide), lo 11 (by decide), lo 12 (by decide), lo 14 (by decide), lo 94 (by decide), lo 95 (by decide), lo 96 (by decide), lo 97 (by decide), lo 98 (by decide), lo 99 (by decide)]
        exact g.2.2.1.1) (by
        unfold cWet
        rw [lo 2 (by decide), lo 100 (by decide), lo 101 (by decide)]
        exact g.2.2.1.2.1) (cDay_t tf g.2.2.1.2.2.2.2 (A := 400) (by decide) (fun R z1 z2 => by rw [lo 13 (by decide), Nat.min_eq_left z2]; exact z1) (fun _ => h6) (fun d z => hwz d))
      exact ⟨n, sl, kk, J, L, q, rfl, C, ah, M, tx, X, gg, ⟨⟨by rw [l57, upd_e], by omega, fun i hi => by rw [lo 58 (by decide)]; exact hr.1.2.2 i (by omega)⟩, fun w hw => by rw [lo (am_B + 1 + w) (by unfold am_B; omega)]; exact hr.2.1 w hw, by rw [l80, upd_e], fun i hi => by rw [lo 81 (by decide)]; exact hr.2.2.2.1 i (by omega), by rw [l57, l80, upd_n (by decide), upd_n (by decide)]; exact hr.2.2.2.2.1, by rw [l57, l80, upd_n (by decide), upd_n (by decide)]; exact hr.2.2.2.2.2⟩, (by unfold tInv; rw [lo 3 (by decide), lo 5 (by decide), lo 6 (by decide), lo 101 (by decide), lo 102 (by decide), lo 103 (by decide)]; exact ht), (by unfold uInv; rw [lo 65 (by decide), lo 66 (by decide), lo 67 (by decide), lo 104 (by decide), lo 105 (by decide), lo 106 (by decide)]; exact hu), (by unfold sInv; rw [l8 68 (by decide), lo 71 (by decide), lo 72 (by decide), lo 73 (by decide), lo 75 (by decide), lo 121 (by decide), lo 122 (by decide), lo 124 (by decide)]; exact hs), (by unfold cInv; rw [l8 71 (by decide), lo 77 (by decide), lo 78 (by decide), lo 79 (by decide), lo 125 (by decide), lo 126 (by decide)]; exact hc), (by rw [show 201 * (k + 1) = 201 * k + 201 by omega]; exact (jInv_t (by omega) hj g.2.1 g.2.2.1.2.2.1.2.1 tf h6 (fun d _ => hwz d) (by rw [lo 13 (by decide)]) (lo 60 (by decide)) (lo 63 (by decide)))), by omega, sl_up hsl (by omega)⟩
    · have v1 : sp_x_end x I L = 0 := by unfold sp_x_end sp_r_cut; rw [t1, if_neg h1, if_neg h2]
      have v2 : sI_x_end x I L = I := by unfold sI_x_end sI_r_cut; rw [t1, if_neg h1, if_neg h2]
      have v3 : sL_x_end x I L = L := by unfold sL_x_end sL_r_cut; rw [t1, if_neg h1, if_neg h2]
      rw [v1, v2, v3] at e1
      have e2 := e2 I
      have u1 : sp_m_end x I L = 0 := by unfold sp_m_end; rw [t2, if_neg h1, if_neg h2]
      have u2 : sI_m_end x I L = I := by unfold sI_m_end; rw [t2, if_neg h1, if_neg h2]
      have u3 : sL_m_end x I L = L := by unfold sL_m_end; rw [t2, if_neg h1, if_neg h2]
      rw [u1, u2, u3] at e2
      exact jx_e (by decide) (by decide) e1 e2 same
theorem jx_fault {x : Int32} : jx 122 (am_ent 2 [.ref 0, .int x]) 180 (am_ent 2 [.ref 80, .int x]) := by
  rintro k h hk ⟨n, sl, kk, I, L, q, rfl, C, ah, M, tx, T, g, hr, ht, hu, hs, hc, hj, hn, hsl⟩
  have e1 := ev_x_fault (d := 0) (n := n) (sl := sl) (k := kk) (q := q) (I := I) (L := L) (x := x)
  have e2 := ev_m_fault (d := 0) (n := n) (sl := sl) (k := kk) (q := q) (I := I) (L := L) (x := x)
  have v : sp_m_fault x I L = sp_x_fault x I L := by
    unfold sp_m_fault sp_x_fault sp_r_faultFound sp_r_faultPlace
    rw [hr.2.2.2.2.1, hr.2.2.2.2.2]
  rw [v] at e2
  exact jx_e (by decide) (by decide) e1 e2 (h_same (q := q) hk g hr ht hu hs hc hj hn hsl)
theorem jx_forget : jx 142 (am_ent 1 [.ref 0]) 239 (am_ent 2 [.ref 80]) := by
  rintro k h hk ⟨n, sl, kk, I, L, q, rfl, C, ah, M, tx, T, g, hr, ht, hu, hs, hc, hj, hn, hsl⟩
  obtain ⟨N, c1, c2, c3, c4, c5⟩ := hc
  have e1 := ev_x_forget (d := 0) (n := n) (sl := sl) (k := kk) (q := q) (I := I) (L := L)
  have e2 := ev_m_forget (d := 0) (n := n) (sl := sl) (k := kk) (q := q) (I := va_up I 77 (upd (I 77) 2 0)) (L := L)
  simp only [sp_x_forget, sI_x_forget, sL_x_forget, sp_c_clear, sI_c_clear, sL_c_clear] at e1
  simp only [sp_m_forget, sI_m_forget, sL_m_forget] at e2
  rw [show va_up I 77 (upd (I 77) 2 0) 80 71 = I 77 2 by rw [va_n1 (by decide), c2, c3]] at e2
  refine jx_e (by decide) (by decide) e1 e2 ?_
  have lo : ∀ j, (j ≠ 77 ∧ j ≠ 80) → va_up (va_up I 77 (upd (I 77) 2 0)) 80 (upd (va_up I 77 (upd (I 77) 2 0) 80) 71 0) j = I j := fun j hj => by rw [va_n1 hj.2, va_n1 hj.1]
  have l77 : ∀ i, va_up (va_up I 77 (upd (I 77) 2 0)) 80 (upd (va_up I 77 (upd (I 77) 2 0) 80) 71 0) 77 i = upd (I 77) 2 0 i := fun i => by rw [va_n1 (by decide), va_e1]
  have l80 : ∀ i, va_up (va_up I 77 (upd (I 77) 2 0)) 80 (upd (va_up I 77 (upd (I 77) 2 0) 80) 71 0) 80 i = upd (I 80) 71 0 i := fun i => by rw [va_e1, va_n1 (by decide)]
  generalize va_up (va_up I 77 (upd (I 77) 2 0)) 80 (upd (va_up I 77 (upd (I 77) 2 0) 80) 71 0) = J at lo l77 l80 ⊢
  have l8 : ∀ i, i ≠ 71 → J 80 i = I 80 i := fun i hi => by rw [l80, upd_n hi]
  have tf : tFr I J := ⟨fun j hj => lo j (by omega), l8 45 (by decide), l8 46 (by decide)⟩
  have h6 : rT6 I J := ⟨(lo 94 (by decide)).symm, (lo 95 (by decide)).symm, (lo 96 (by decide)).symm, (lo 97 (by decide)).symm⟩
  have hwz : ∀ d, watZ I d = watZ J d := fun d => by unfold watZ; rw [lo 100 (by decide), lo 101 (by decide)]
  have gg : gInv n kk q J L C ah M := gInv_t g tf (by
    unfold wfT
    rw [lo 94 (by decide), lo 95 (by decide), lo 96 (by decide), lo 97 (by decide), lo 98 (by decide), lo 99 (by decide), lo 100 (by decide)]
    exact g.1) (by
    unfold cTow
    rw [lo 8 (by decide), lo 9 (by decide), lo 10 (by decide), lo 11 (by decide), lo 12 (by decide), lo 14 (by decide), lo 94 (by decide), lo 95 (by decide), lo 96 (by decide), lo 97 (by decide), lo 98 (by decide), lo 99 (by decide)]
    exact g.2.2.1.1) (by
    unfold cWet
    rw [lo 2 (by decide), lo 100 (by decide), lo 101 (by decide)]
    exact g.2.2.1.2.1) (cDay_t tf g.2.2.1.2.2.2.2 (A := 400) (by decide) (fun R z1 z2 => by rw [lo 13 (by decide), Nat.min_eq_left z2]; exact z1) (fun _ => h6) (fun d z => hwz d))
  exact set_fin hr hn hsl (fun j hj => lo j (by omega)) (lo 57 (by decide)) (lo 58 (by decide)) (lo 81 (by decide)) (l8 1 (by decide)) (l8 10 (by decide)) (l8 11 (by decide)) gg (by unfold tInv; rw [lo 3 (by decide), lo 5 (by decide), lo 6 (by decide), lo 101 (by decide), lo 102 (by decide), lo 103 (by decide)]; exact ht) (by unfold uInv; rw [lo 65 (by decide), lo 66 (by decide), lo 67 (by decide), lo 104 (by decide), lo 105 (by decide), lo 106 (by decide)]; exact hu) (by unfold sInv; rw [l8 68 (by decide), lo 71 (by decide), lo 72 (by decide), lo 73 (by decide), lo 75 (by decide), lo 121 (by decide), lo 122 (by decide), lo 124 (by decide)]; exact hs) ⟨0, by decide, by rw [l77, upd_e]; rfl, by rw [l80, upd_e]; rfl, fun i hi => absurd hi (Nat.not_lt_zero _), fun s hs0 => by
    have : s = 0 := by have : s < 1 := hs0; omega
    subst this
    rw [lo 78 (by decide), lo 79 (by decide), bsZ_0, bsZ_0]
    have := c5 0 (Nat.two_pow_pos N)
    rw [bsZ_0, bsZ_0] at this
    exact this⟩ (jInv_t (by omega) hj g.2.1 g.2.2.1.2.2.1.2.1 tf h6 (fun d _ => hwz d) (by rw [lo 13 (by decide)]) (lo 60 (by decide)) (lo 63 (by decide)))
theorem jx_drawn {x : Int32} : jx 138 (am_ent 2 [.ref 0, .int x]) 234 (am_ent 2 [.ref 80, .int x]) := by
  rintro k h hk ⟨n, sl, kk, I, L, q, rfl, C, ah, M, tx, T, g, hr, ht, hu, hs, hc, hj, hn, hsl⟩
  have same := h_same (q := q) hk g hr ht hu hs hc hj hn hsl
  have hv : (¬ x < 0 → ¬ I 80 68 ≤ x → ¬ (x < 0 ∨ 8 ≤ x.toNatClampNeg)) ∧ sp_m_drawn x I L = sp_x_drawn x I L := by
    unfold sp_m_drawn sp_x_drawn sp_s_drawnOn
    by_cases h1 : x < 0
    · exact ⟨fun z => absurd h1 z, by rw [if_pos h1, if_pos h1]⟩
    · have h1' : 0 ≤ x.toInt := by
        have : ¬ x.toInt < 0 := fun z => h1 (Int32.lt_iff_toInt_lt.mpr z)
        omega
      rw [if_neg h1, if_neg h1]
      rcases hs.2 with ⟨a1, a2⟩ | ⟨N, a1, a2, a3, a4, a5⟩
      · have b1 : I 71 10 ≤ x := by rw [a1]; exact Int32.not_lt.mp h1
        have b2 : I 80 68 ≤ x := by rw [a2]; exact Int32.le_iff_toInt_le.mpr (by show (-1 : Int) ≤ x.toInt; omega)
        exact ⟨fun _ z => absurd b2 z, by rw [if_pos b1, if_pos b2]⟩
      · have ex := x_nI h1'
        generalize x.toInt.toNat = X at ex
        rw [a3, a4]
        by_cases h2 : nI N ≤ x
        · exact ⟨fun _ z => absurd h2 z, by rw [if_pos h2, if_pos h2]⟩
        · have hxl : x.toInt < N := by
            have : ¬ ((nI N).toInt ≤ x.toInt) := fun z => h2 (Int32.le_iff_toInt_le.mpr z)
            rw [nI_j, jI_toInt ⟨by omega, by omega⟩] at this
            omega
          have hcl : x.toNatClampNeg < N := by show x.toInt.toNat < N; omega
          have h8 : x < 8 := Int32.lt_iff_toInt_lt.mpr (by show x.toInt < 8; omega)
          refine ⟨fun _ _ z => z.elim h1 (by omega), ?_⟩
          rw [if_neg h2, if_neg h2, if_pos h8, a5 _ hcl]
  have e1 := ev_x_drawn (d := 0) (n := n) (sl := sl) (k := kk) (q := q) (I := I) (L := L) (x := x)
  have e2 := ev_m_drawn (d := 0) (n := n) (sl := sl) (k := kk) (q := q) (I := I) (L := L) (x := x) hv.1
  rw [hv.2] at e2
  exact jx_e (by decide) (by decide) e1 e2 same
theorem rz_rel {x : Int32} : sp_isWithin x.toInt64 0 400 = 0 ↔ ¬ (0 ≤ x.toInt ∧ x.toInt ≤ 400) := ar_wi2 (a := 0) (b := 400) rfl rfl ⟨by decide, by decide⟩ ⟨by decide, by decide⟩
theorem rz_rem {x : Int32} : sp_m_is x 0 400 = 0 ↔ ¬ (0 ≤ x.toInt ∧ x.toInt ≤ 400) := ar_mi2 (a := 0) (b := 400) rfl rfl ⟨by decide, by decide⟩ ⟨by decide, by decide⟩
theorem jx_settled {c x : Int32} : jx 126 (am_ent 3 [.ref 0, .int c, .int x]) 210 (am_ent 3 [.ref 80, .int c, .int x]) := by
  rintro k h hk ⟨n, sl, kk, I, L, q, rfl, C, ah, M, tx, T, g, hr, ht, hu, hs, hc, hj, hn, hsl⟩
  have gB := g.2.1
  by_cases h : sp_isColumn c = 0 ∨ sp_isWithin x.toInt64 0 400 = 0
  · exact jx_el (d1 := 2) (d2 := 2) (by decide) (by decide) (ev_x_settledO (d := 0) h) (ev_m_settledO (d := 0) (h.imp (fun z => ar_mcol.mpr (ar_col.mp z)) (fun z => rz_rem.mpr (rz_rel.mp z)))) (h_same (q := q) hk g hr ht hu hs hc hj hn hsl)
  · have rc := (nn_iff ar_col).mp (fun z => h (Or.inl z))
    have rx := (nn_iff rz_rel).mp (fun z => h (Or.inr z))
    rw [x_nI rc.1, x_nI rx.1]
    have hc16 : c.toInt.toNat < 16 := by omega
    have hD : x.toInt.toNat ≤ 400 := by omega
    generalize c.toInt.toNat = c0 at hc16
    generalize x.toInt.toNat = D at hD
    obtain ⟨g1, r1, f1, r80, r55, r13, ⟨k1, k2⟩, hp1, h14⟩ := reach_g g hD
    have e1 := ev_x_settled (d := 0) (n := n) (sl := sl) (k := kk) (q := q) (L := L) hc16 hD k1 k2 h14
    have v1 : sp_x_settled c0 D I L = jL ((pS I D).1 c0) := by
      unfold sp_x_settled sp_d_settledAt
      rw [if_neg (fun z => by have := (nn_iff ar_col).mpr (show 0 ≤ (nI c0).toInt ∧ (nI c0).toInt < 16 by rw [nI_j, jI_toInt ⟨by omega, by omega⟩]; omega); exact this z), if_neg (wi_0400 hD), nI_clamp (by omega), nI_clamp (by omega), (r1 D (Nat.le_refl _)).2.2.2 c0 hc16, hp1]
    rw [v1] at e1
    unfold sI_x_settled sL_x_settled at e1
    generalize sI_d_reach D I L = J at g1 r1 f1 r80 r55 r13 hp1 e1
    generalize sL_d_reach D I L = K at g1 r1 f1 e1
    have gB1 := g1.2.1
    obtain ⟨hn1, hn2⟩ := now_N (L := K) gB1
    have hC2 := gB1.1.2
    obtain ⟨g2, hP, f2, p2, hp2⟩ := play_g g1
    have e2 := ev_m_settled (d := 0) (n := n) (sl := sl) (k := kk) (q := q) (L := K) hc16 hD (by rw [now_cl gB1]; exact hn1) (by rw [now_cl gB1]; omega) (gx_ok gB1) (gl_ok gB1)
    have v2 : sp_m_settled c0 D J K = jL ((pS I D).1 c0) := by
      unfold sp_m_settled
      rw [(hP.2.2 D hD).2 c0 hc16, hp2, hp1]
    rw [v2] at e2
    unfold sI_m_settled sL_m_settled at e2
    have hkn : ∀ i, kn (sI_m_play J K) (i + 1) = kn I (i + 1) := fun i => by
      unfold kn nNow nC vdN
      rw [p2 80 (by decide) (by decide), p2 112 (by decide) (by decide), r80 80 (by decide), r80 112 (by decide)]
    exact jx_el (d1 := 6) (d2 := 5) (by decide) (by decide) e1 e2 (ojV_h hk g hr ht hu hs hc hj hn hsl (ojW_v ⟨n, sl, kk, _, _, q, C, ah, rfl, g2, oFw_t f1 f2, ⟨0, 0, Nat.le_refl _, by omega, by rw [p2 55 (by decide) (by decide), r55]; exact (Int32.add_zero _).symm, by rw [p2 13 (by decide) (by decide), r13]; exact (Int32.add_zero _).symm, fun _ i _ => hkn i, fun i _ _ => by rw [p2 107 (by decide) (by decide), p2 108 (by decide) (by decide), p2 109 (by decide) (by decide), p2 110 (by decide) (by decide), p2 111 (by decide) (by decide), r80 107 (by decide), r80 108 (by decide), r80 109 (by decide), r80 110 (by decide), r80 111 (by decide)]; exact ⟨rfl, rfl, rfl, rfl, rfl⟩⟩, ⟨Nat.le_refl _, by omega, by omega⟩, Nat.le_refl _⟩))

