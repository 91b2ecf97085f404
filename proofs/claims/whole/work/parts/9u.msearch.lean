/-! THE REFERENCE SEARCHES: its steps -/
def mgI (J : Nat → Nat → Int32) (r123 r124 : Nat → Int32) (j i : Nat) : Int32 := cond (Nat.beq j 123) (r123 i) (cond (Nat.beq j 124) (r124 i) (J j i))
theorem mgI_nb : ∀ {i k : Nat}, ¬ i = k → Nat.beq i k = false := fun h => Bool.eq_false_iff.mpr (fun q => h (Nat.eq_of_beq_eq_true q))
theorem mgI_w_r123 {J : Nat → Nat → Int32} {r123 r124 : Nat → Int32} {y : Int32} {k : Nat} : va_up (mgI J r123 r124) 123 (upd ((mgI J r123 r124) 123) k y) = mgI J (upd r123 k y) r124 := by
  funext j i
  unfold va_up
  by_cases hj : j = 123
  · subst hj; rfl
  · rw [if_neg hj]; unfold mgI; simp only [mgI_nb hj, cond_false]
theorem mgI_w_r124 {J : Nat → Nat → Int32} {r123 r124 : Nat → Int32} {y : Int32} {k : Nat} : va_up (mgI J r123 r124) 124 (upd ((mgI J r123 r124) 124) k y) = mgI J r123 (upd r124 k y) := by
  funext j i
  unfold va_up
  by_cases hj : j = 124
  · subst hj; rfl
  · rw [if_neg hj]; unfold mgI; simp only [mgI_nb hj, cond_false]
theorem tv_m_up {n sl : Nat} {kk : Nat → Nat × Nat} {q : Nat → Nat → Option Nat} {J : Nat → Nat → Int32} {K : Nat → Nat → Int64} {D N g : Nat} {a sc bx : Int32} {cei : Int} {o10 o11 : Option Value} {r123 r124 : Nat → Int32} {Q : Option Value → am_H → Prop} {lit : Nat} (hg : g < 8) (h4 : r123 g = 3) (k : am_T 5 233 73 [some (.ref 80), some (.int (nI D)), some (.int (nI N)), some (.int a), some (.int sc), some (.long (jL cei)), none, some (.int bx), some (.int (nI g + Int32.ofInt (-1))), some (.int (nI lit)), o10, o11] [] (n, sl, wKK kk, (mgI J r123 r124), K, wQQ q) Q) : am_T 5 233 115 [some (.ref 80), some (.int (nI D)), some (.int (nI N)), some (.int a), some (.int sc), some (.long (jL cei)), none, some (.int bx), some (.int (nI g)), some (.int (nI lit)), o10, o11] [] (n, sl, wKK kk, (mgI J r123 r124), K, wQQ q) Q := by
  refine tv_b (pc' := 121) (ls' := [some (.ref 80), some (.int (nI D)), some (.int (nI N)), some (.int a), some (.int sc), some (.long (jL cei)), none, some (.int bx), some (.int (nI g)), some (.int (nI lit)), o10, o11]) (st' := [.int (nI g), .ref 123]) (h' := (n, sl, wKK kk, (mgI J r123 r124), K, wQQ q)) 3 rfl ?_
  refine tv_ialN (k := g) rfl (rfl) (⟨by omega, by omega⟩) ?_
  refine tv_top (h4) ?_
  refine tv_b (pc' := 131) (ls' := [some (.ref 80), some (.int (nI D)), some (.int (nI N)), some (.int a), some (.int sc), some (.long (jL cei)), none, some (.int bx), some (.int (nI g)), some (.int (nI lit)), o10, o11]) (st' := [.int (nI g), .ref 123]) (h' := (n, sl, wKK kk, (mgI J r123 r124), K, wQQ q)) 4 rfl ?_
  refine tv_ialN (k := g) rfl (rfl) (⟨by omega, by omega⟩) ?_
  refine tv_top (h4) ?_
  refine tv_b (pc' := 171) (ls' := [some (.ref 80), some (.int (nI D)), some (.int (nI N)), some (.int a), some (.int sc), some (.long (jL cei)), none, some (.int bx), some (.int (nI g)), some (.int (nI lit)), o10, o11]) (st' := [.int (nI g), .ref 123]) (h' := (n, sl, wKK kk, (mgI J r123 r124), K, wQQ q)) 5 rfl ?_
  refine tv_ialN (k := g) rfl (rfl) (⟨by omega, by omega⟩) ?_
  refine tv_top (h4) ?_
  refine tv_b (pc' := 73) (ls' := [some (.ref 80), some (.int (nI D)), some (.int (nI N)), some (.int a), some (.int sc), some (.long (jL cei)), none, some (.int bx), some (.int ((nI g) + Int32.ofInt (-1))), some (.int (nI lit)), o10, o11]) (st' := []) (h' := (n, sl, wKK kk, (mgI J r123 r124), K, wQQ q)) 4 rfl ?_
  exact k
theorem tv_m_in {n sl : Nat} {kk : Nat → Nat × Nat} {q : Nat → Nat → Option Nat} {J : Nat → Nat → Int32} {K : Nat → Nat → Int64} {D N g : Nat} {a sc bx : Int32} {cei : Int} {o10 o11 : Option Value} {r123 r124 : Nat → Int32} {Q : Option Value → am_H → Prop} {lit : Nat} (hg : g < 8) (h4 : r123 g = -2) (k : am_T 5 233 115 [some (.ref 80), some (.int (nI D)), some (.int (nI N)), some (.int a), some (.int sc), some (.long (jL cei)), none, some (.int bx), some (.int (nI g)), some (.int (nI lit)), o10, o11] [] (n, sl, wKK kk, (mgI J (upd r123 g (-1)) r124), K, wQQ q) Q) : am_T 5 233 73 [some (.ref 80), some (.int (nI D)), some (.int (nI N)), some (.int a), some (.int sc), some (.long (jL cei)), none, some (.int bx), some (.int (nI g)), some (.int (nI lit)), o10, o11] [] (n, sl, wKK kk, (mgI J r123 r124), K, wQQ q) Q := by
  refine tv_b (pc' := (if (nI g) < 0 then 359 else 78)) (ls' := [some (.ref 80), some (.int (nI D)), some (.int (nI N)), some (.int a), some (.int sc), some (.long (jL cei)), none, some (.int bx), some (.int (nI g)), some (.int (nI lit)), o10, o11]) (st' := []) (h' := (n, sl, wKK kk, (mgI J r123 r124), K, wQQ q)) 2 rfl ?_
  refine tv_f (fun hq => absurd ((nI_ltI (a := g) (b := 0) (by omega) (by omega)).mp hq) (by omega)) ?_
  refine tv_b (pc' := 84) (ls' := [some (.ref 80), some (.int (nI D)), some (.int (nI N)), some (.int a), some (.int sc), some (.long (jL cei)), none, some (.int bx), some (.int (nI g)), some (.int (nI lit)), o10, o11]) (st' := [.int (nI g), .ref 123]) (h' := (n, sl, wKK kk, (mgI J r123 r124), K, wQQ q)) 3 rfl ?_
  refine tv_ialN (k := g) rfl (rfl) (⟨by omega, by omega⟩) ?_
  refine tv_top (h4) ?_
  refine tv_b (pc' := 111) (ls' := [some (.ref 80), some (.int (nI D)), some (.int (nI N)), some (.int a), some (.int sc), some (.long (jL cei)), none, some (.int bx), some (.int (nI g)), some (.int (nI lit)), o10, o11]) (st' := [.int (nI g), .ref 123, .int (nI g), .ref 123]) (h' := (n, sl, wKK kk, (mgI J r123 r124), K, wQQ q)) 5 rfl ?_
  refine tv_ialN (k := g) rfl (rfl) (⟨by omega, by omega⟩) ?_
  refine tv_top (h4) ?_
  refine tv_b (pc' := 114) (ls' := [some (.ref 80), some (.int (nI D)), some (.int (nI N)), some (.int a), some (.int sc), some (.long (jL cei)), none, some (.int bx), some (.int (nI g)), some (.int (nI lit)), o10, o11]) (st' := [.int ((-2) + 1), .int (nI g), .ref 123]) (h' := (n, sl, wKK kk, (mgI J r123 r124), K, wQQ q)) 2 rfl ?_
  refine tv_iasN (k := g) rfl (rfl) (⟨by omega, by omega⟩) ?_
  refine tv_hI mgI_w_r123 ?_
  exact k
theorem tv_m_nx0 {n sl : Nat} {kk : Nat → Nat × Nat} {q : Nat → Nat → Option Nat} {J : Nat → Nat → Int32} {K : Nat → Nat → Int64} {D N g : Nat} {a sc bx : Int32} {cei : Int} {o10 o11 : Option Value} {r123 r124 : Nat → Int32} {Q : Option Value → am_H → Prop} {lit : Nat} (hg : g < 8) (h4 : r123 g = -1) (k : am_T 5 233 115 [some (.ref 80), some (.int (nI D)), some (.int (nI N)), some (.int a), some (.int sc), some (.long (jL cei)), none, some (.int bx), some (.int (nI g)), some (.int (nI lit)), o10, o11] [] (n, sl, wKK kk, (mgI J (upd r123 g (nI 0)) r124), K, wQQ q) Q) : am_T 5 233 73 [some (.ref 80), some (.int (nI D)), some (.int (nI N)), some (.int a), some (.int sc), some (.long (jL cei)), none, some (.int bx), some (.int (nI g)), some (.int (nI lit)), o10, o11] [] (n, sl, wKK kk, (mgI J r123 r124), K, wQQ q) Q := by
  refine tv_b (pc' := (if (nI g) < 0 then 359 else 78)) (ls' := [some (.ref 80), some (.int (nI D)), some (.int (nI N)), some (.int a), some (.int sc), some (.long (jL cei)), none, some (.int bx), some (.int (nI g)), some (.int (nI lit)), o10, o11]) (st' := []) (h' := (n, sl, wKK kk, (mgI J r123 r124), K, wQQ q)) 2 rfl ?_
  refine tv_f (fun hq => absurd ((nI_ltI (a := g) (b := 0) (by omega) (by omega)).mp hq) (by omega)) ?_
  refine tv_b (pc' := 84) (ls' := [some (.ref 80), some (.int (nI D)), some (.int (nI N)), some (.int a), some (.int sc), some (.long (jL cei)), none, some (.int bx), some (.int (nI g)), some (.int (nI lit)), o10, o11]) (st' := [.int (nI g), .ref 123]) (h' := (n, sl, wKK kk, (mgI J r123 r124), K, wQQ q)) 3 rfl ?_
  refine tv_ialN (k := g) rfl (rfl) (⟨by omega, by omega⟩) ?_
  refine tv_top (h4) ?_
  refine tv_b (pc' := 111) (ls' := [some (.ref 80), some (.int (nI D)), some (.int (nI N)), some (.int a), some (.int sc), some (.long (jL cei)), none, some (.int bx), some (.int (nI g)), some (.int (nI lit)), o10, o11]) (st' := [.int (nI g), .ref 123, .int (nI g), .ref 123]) (h' := (n, sl, wKK kk, (mgI J r123 r124), K, wQQ q)) 5 rfl ?_
  refine tv_ialN (k := g) rfl (rfl) (⟨by omega, by omega⟩) ?_
  refine tv_top (h4) ?_
  refine tv_b (pc' := 114) (ls' := [some (.ref 80), some (.int (nI D)), some (.int (nI N)), some (.int a), some (.int sc), some (.long (jL cei)), none, some (.int bx), some (.int (nI g)), some (.int (nI lit)), o10, o11]) (st' := [.int ((-1) + 1), .int (nI g), .ref 123]) (h' := (n, sl, wKK kk, (mgI J r123 r124), K, wQQ q)) 2 rfl ?_
  refine tv_iasN (k := g) rfl (rfl) (⟨by omega, by omega⟩) ?_
  refine tv_hI mgI_w_r123 ?_
  exact k
theorem ev_m_litN {d : Nat} {h : am_H} : am_Ev d 232 0 (am_ent 2 [.ref 80, .int (-1)]) [] h (some (.int 0), h) := by
  obtain ⟨n, sl, K, I, L, Q⟩ := h
  refine tv_ev ?_
  show am_T _ _ 0 [some (.ref 80), some (.int (-1))] _ _ _
  refine tv_b (pc' := 14) (ls' := [some (.ref 80), some (.int (-1))]) (st' := [.int 0]) (h' := (n, sl, K, I, L, Q)) 4 rfl ?_
  exact tv_ri rfl ⟨rfl, rfl⟩
theorem ev_m_litP {d n sl : Nat} {kk : Nat → Nat × Nat} {q : Nat → Nat → Option Nat} {I : Nat → Nat → Int32} {L : Nat → Nat → Int64} {p : Nat} (hp : p < 3) : am_Ev d 232 0 (am_ent 2 [.ref 80, .int (nI p)]) [] (n, sl, wKK kk, I, L, wQQ q) (some (.int (I 122 p)), (n, sl, wKK kk, I, L, wQQ q)) := by
  refine tv_ev ?_
  show am_T _ _ 0 [some (.ref 80), some (.int (nI p))] _ _ _
  refine tv_b (pc' := (if 0 ≤ (nI p) then 8 else 4)) (ls' := [some (.ref 80), some (.int (nI p))]) (st' := []) (h' := (n, sl, wKK kk, I, L, wQQ q)) 2 rfl ?_
  refine tv_t ((nI_leI (a := 0) (b := p) (by omega) (by omega)).mpr (by omega)) ?_
  refine tv_b (pc' := 13) (ls' := [some (.ref 80), some (.int (nI p))]) (st' := [.int (nI p), .ref 122]) (h' := (n, sl, wKK kk, I, L, wQQ q)) 3 rfl ?_
  refine tv_ialN (k := p) rfl (rfl) (⟨by omega, by omega⟩) ?_
  exact tv_ri rfl ⟨rfl, rfl⟩
theorem tv_m_nx {n sl : Nat} {kk : Nat → Nat × Nat} {q : Nat → Nat → Option Nat} {J : Nat → Nat → Int32} {K : Nat → Nat → Int64} {D N g : Nat} {a sc bx : Int32} {cei : Int} {o10 o11 : Option Value} {r123 r124 : Nat → Int32} {Q : Option Value → am_H → Prop} {lit p : Nat} {lc : Nat → Nat} (hg : g < 8) (hp : p < 3) (hlp : J 122 p = nI (lc p)) (h4 : r123 g = nI p) (k : am_T 5 233 115 [some (.ref 80), some (.int (nI D)), some (.int (nI N)), some (.int a), some (.int sc), some (.long (jL cei)), none, some (.int bx), some (.int (nI g)), some (.int (nI lit)), o10, o11] [] (n, sl, wKK kk, (mgI J (upd r123 g (nI (p + 1))) r124), K, wQQ q) Q) : am_T 5 233 73 [some (.ref 80), some (.int (nI D)), some (.int (nI N)), some (.int a), some (.int sc), some (.long (jL cei)), none, some (.int bx), some (.int (nI g)), some (.int (nI (lit + lc p))), o10, o11] [] (n, sl, wKK kk, (mgI J r123 r124), K, wQQ q) Q := by
  refine tv_b (pc' := (if (nI g) < 0 then 359 else 78)) (ls' := [some (.ref 80), some (.int (nI D)), some (.int (nI N)), some (.int a), some (.int sc), some (.long (jL cei)), none, some (.int bx), some (.int (nI g)), some (.int (nI (lit + lc p))), o10, o11]) (st' := []) (h' := (n, sl, wKK kk, (mgI J r123 r124), K, wQQ q)) 2 rfl ?_
  refine tv_f (fun hq => absurd ((nI_ltI (a := g) (b := 0) (by omega) (by omega)).mp hq) (by omega)) ?_
  refine tv_b (pc' := 84) (ls' := [some (.ref 80), some (.int (nI D)), some (.int (nI N)), some (.int a), some (.int sc), some (.long (jL cei)), none, some (.int bx), some (.int (nI g)), some (.int (nI (lit + lc p))), o10, o11]) (st' := [.int (nI g), .ref 123]) (h' := (n, sl, wKK kk, (mgI J r123 r124), K, wQQ q)) 3 rfl ?_
  refine tv_ialN (k := g) rfl (rfl) (⟨by omega, by omega⟩) ?_
  refine tv_top (h4) ?_
  refine tv_b (pc' := (if (nI p) < 0 then 104 else 88)) (ls' := [some (.ref 80), some (.int (nI D)), some (.int (nI N)), some (.int a), some (.int sc), some (.long (jL cei)), none, some (.int bx), some (.int (nI g)), some (.int (nI (lit + lc p))), o10, o11]) (st' := []) (h' := (n, sl, wKK kk, (mgI J r123 r124), K, wQQ q)) 1 rfl ?_
  refine tv_f (fun hq => absurd ((nI_ltI (a := p) (b := 0) (by omega) (by omega)).mp hq) (by omega)) ?_
  refine tv_b (pc' := 97) (ls' := [some (.ref 80), some (.int (nI D)), some (.int (nI N)), some (.int a), some (.int sc), some (.long (jL cei)), none, some (.int bx), some (.int (nI g)), some (.int (nI (lit + lc p))), o10, o11]) (st' := [.int (nI g), .ref 123, .ref 80, .int (nI (lit + lc p))]) (h' := (n, sl, wKK kk, (mgI J r123 r124), K, wQQ q)) 5 rfl ?_
  refine tv_ialN (k := g) rfl (rfl) (⟨by omega, by omega⟩) ?_
  refine tv_top (h4) ?_
  refine tv_cvE [.int (nI p)] [.int (nI (lit + lc p))] rfl rfl (by omega) rfl (Nat.le_of_ble_eq_true rfl) (Nat.le_of_ble_eq_true rfl) (Or.inr (Or.inr rfl)) ((show am_Ev 4 232 0 (am_ent 2 [.ref 80, .int (nI p)]) [] (n, sl, wKK kk, (mgI J r123 r124), K, wQQ q) (some (.int (nI (lc p))), (n, sl, wKK kk, (mgI J r123 r124), K, wQQ q)) from hlp ▸ ev_m_litP hp)) ?_
  refine tv_b (pc' := 102) (ls' := [some (.ref 80), some (.int (nI D)), some (.int (nI N)), some (.int a), some (.int sc), some (.long (jL cei)), none, some (.int bx), some (.int (nI g)), some (.int (nI (lit + lc p))), o10, o11]) (st' := [.int ((nI (lit + lc p)) - (nI (lc p)))]) (h' := (n, sl, wKK kk, (mgI J r123 r124), K, wQQ q)) 1 rfl ?_
  refine tv_top (show (nI (lit + lc p)) - (nI (lc p)) = nI ((lit + lc p) - (lc p)) from nI_sub (a := (lit + lc p)) (b := (lc p)) (by omega)) ?_
  rw [show lit + lc p - lc p = lit by omega]
  refine tv_b (pc' := 111) (ls' := [some (.ref 80), some (.int (nI D)), some (.int (nI N)), some (.int a), some (.int sc), some (.long (jL cei)), none, some (.int bx), some (.int (nI g)), some (.int (nI lit)), o10, o11]) (st' := [.int (nI g), .ref 123, .int (nI g), .ref 123]) (h' := (n, sl, wKK kk, (mgI J r123 r124), K, wQQ q)) 5 rfl ?_
  refine tv_ialN (k := g) rfl (rfl) (⟨by omega, by omega⟩) ?_
  refine tv_top (h4) ?_
  refine tv_b (pc' := 113) (ls' := [some (.ref 80), some (.int (nI D)), some (.int (nI N)), some (.int a), some (.int sc), some (.long (jL cei)), none, some (.int bx), some (.int (nI g)), some (.int (nI lit)), o10, o11]) (st' := [.int 1, .int (nI p), .int (nI g), .ref 123]) (h' := (n, sl, wKK kk, (mgI J r123 r124), K, wQQ q)) 1 rfl ?_
  refine tv_b (pc' := 114) (ls' := [some (.ref 80), some (.int (nI D)), some (.int (nI N)), some (.int a), some (.int sc), some (.long (jL cei)), none, some (.int bx), some (.int (nI g)), some (.int (nI lit)), o10, o11]) (st' := [.int ((nI p) + 1), .int (nI g), .ref 123]) (h' := (n, sl, wKK kk, (mgI J r123 r124), K, wQQ q)) 1 rfl ?_
  refine tv_top (show (nI p) + 1 = nI (p + 1) from nI_add p 1) ?_
  refine tv_iasN (k := g) rfl (rfl) (⟨by omega, by omega⟩) ?_
  refine tv_hI mgI_w_r123 ?_
  exact k
theorem tv_m_skp {n sl : Nat} {kk : Nat → Nat × Nat} {q : Nat → Nat → Option Nat} {J : Nat → Nat → Int32} {K : Nat → Nat → Int64} {D N g : Nat} {a sc bx : Int32} {cei : Int} {o10 o11 : Option Value} {r123 r124 : Nat → Int32} {Q : Option Value → am_H → Prop} {lit p : Nat} (hg : g < 8) (hp : p < 3) (hlp : J 122 p = 0) (h4 : r123 g = nI p) (k : am_T 5 233 115 [some (.ref 80), some (.int (nI D)), some (.int (nI N)), some (.int a), some (.int sc), some (.long (jL cei)), none, some (.int bx), some (.int (nI g)), some (.int (nI lit)), o10, o11] [] (n, sl, wKK kk, (mgI J (upd r123 g (nI (p + 1))) r124), K, wQQ q) Q) : am_T 5 233 115 [some (.ref 80), some (.int (nI D)), some (.int (nI N)), some (.int a), some (.int sc), some (.long (jL cei)), none, some (.int bx), some (.int (nI g)), some (.int (nI lit)), o10, o11] [] (n, sl, wKK kk, (mgI J r123 r124), K, wQQ q) Q := by
  refine tv_b (pc' := 121) (ls' := [some (.ref 80), some (.int (nI D)), some (.int (nI N)), some (.int a), some (.int sc), some (.long (jL cei)), none, some (.int bx), some (.int (nI g)), some (.int (nI lit)), o10, o11]) (st' := [.int (nI g), .ref 123]) (h' := (n, sl, wKK kk, (mgI J r123 r124), K, wQQ q)) 3 rfl ?_
  refine tv_ialN (k := g) rfl (rfl) (⟨by omega, by omega⟩) ?_
  refine tv_top (h4) ?_
  refine tv_b (pc' := (if (nI p) < 0 then 165 else 125)) (ls' := [some (.ref 80), some (.int (nI D)), some (.int (nI N)), some (.int a), some (.int sc), some (.long (jL cei)), none, some (.int bx), some (.int (nI g)), some (.int (nI lit)), o10, o11]) (st' := []) (h' := (n, sl, wKK kk, (mgI J r123 r124), K, wQQ q)) 1 rfl ?_
  refine tv_f (fun hq => absurd ((nI_ltI (a := p) (b := 0) (by omega) (by omega)).mp hq) (by omega)) ?_
  refine tv_b (pc' := 131) (ls' := [some (.ref 80), some (.int (nI D)), some (.int (nI N)), some (.int a), some (.int sc), some (.long (jL cei)), none, some (.int bx), some (.int (nI g)), some (.int (nI lit)), o10, o11]) (st' := [.int (nI g), .ref 123]) (h' := (n, sl, wKK kk, (mgI J r123 r124), K, wQQ q)) 3 rfl ?_
  refine tv_ialN (k := g) rfl (rfl) (⟨by omega, by omega⟩) ?_
  refine tv_top (h4) ?_
  refine tv_b (pc' := (if 3 ≤ (nI p) then 165 else 136)) (ls' := [some (.ref 80), some (.int (nI D)), some (.int (nI N)), some (.int a), some (.int sc), some (.long (jL cei)), none, some (.int bx), some (.int (nI g)), some (.int (nI lit)), o10, o11]) (st' := []) (h' := (n, sl, wKK kk, (mgI J r123 r124), K, wQQ q)) 2 rfl ?_
  refine tv_f (fun hq => absurd ((nI_leI (a := 3) (b := p) (by omega) (by omega)).mp hq) (by omega)) ?_
  refine tv_b (pc' := 146) (ls' := [some (.ref 80), some (.int (nI D)), some (.int (nI N)), some (.int a), some (.int sc), some (.long (jL cei)), none, some (.int bx), some (.int (nI g)), some (.int (nI lit)), o10, o11]) (st' := [.int (nI g), .ref 123, .ref 122]) (h' := (n, sl, wKK kk, (mgI J r123 r124), K, wQQ q)) 5 rfl ?_
  refine tv_ialN (k := g) rfl (rfl) (⟨by omega, by omega⟩) ?_
  refine tv_top (h4) ?_
  refine tv_ialN (k := p) rfl (rfl) (⟨by omega, by omega⟩) ?_
  refine tv_top (hlp) ?_
  refine tv_b (pc' := 158) (ls' := [some (.ref 80), some (.int (nI D)), some (.int (nI N)), some (.int a), some (.int sc), some (.long (jL cei)), none, some (.int bx), some (.int (nI g)), some (.int (nI lit)), o10, o11]) (st' := [.int (nI g), .ref 123, .int (nI g), .ref 123]) (h' := (n, sl, wKK kk, (mgI J r123 r124), K, wQQ q)) 5 rfl ?_
  refine tv_ialN (k := g) rfl (rfl) (⟨by omega, by omega⟩) ?_
  refine tv_top (h4) ?_
  refine tv_b (pc' := 160) (ls' := [some (.ref 80), some (.int (nI D)), some (.int (nI N)), some (.int a), some (.int sc), some (.long (jL cei)), none, some (.int bx), some (.int (nI g)), some (.int (nI lit)), o10, o11]) (st' := [.int 1, .int (nI p), .int (nI g), .ref 123]) (h' := (n, sl, wKK kk, (mgI J r123 r124), K, wQQ q)) 1 rfl ?_
  refine tv_b (pc' := 161) (ls' := [some (.ref 80), some (.int (nI D)), some (.int (nI N)), some (.int a), some (.int sc), some (.long (jL cei)), none, some (.int bx), some (.int (nI g)), some (.int (nI lit)), o10, o11]) (st' := [.int ((nI p) + 1), .int (nI g), .ref 123]) (h' := (n, sl, wKK kk, (mgI J r123 r124), K, wQQ q)) 1 rfl ?_
  refine tv_top (show (nI p) + 1 = nI (p + 1) from nI_add p 1) ?_
  refine tv_iasN (k := g) rfl (rfl) (⟨by omega, by omega⟩) ?_
  refine tv_hI mgI_w_r123 ?_
  refine tv_b (pc' := 115) (ls' := [some (.ref 80), some (.int (nI D)), some (.int (nI N)), some (.int a), some (.int sc), some (.long (jL cei)), none, some (.int bx), some (.int (nI g)), some (.int (nI lit)), o10, o11]) (st' := []) (h' := (n, sl, wKK kk, (mgI J (upd r123 g (nI (p + 1))) r124), K, wQQ q)) 1 rfl ?_
  exact k
theorem tv_m_gN {n sl : Nat} {kk : Nat → Nat × Nat} {q : Nat → Nat → Option Nat} {J : Nat → Nat → Int32} {K : Nat → Nat → Int64} {D N g : Nat} {a sc bx : Int32} {cei : Int} {o10 o11 : Option Value} {r123 r124 : Nat → Int32} {Q : Option Value → am_H → Prop} {lit : Nat} (hg : g < 8) (h4 : r123 g = -1) (k : am_T 5 233 202 [some (.ref 80), some (.int (nI D)), some (.int (nI N)), some (.int a), some (.int sc), some (.long (jL cei)), none, some (.int bx), some (.int (nI g)), some (.int (nI (lit + 0))), some (.int (-1)), o11] [] (n, sl, wKK kk, (mgI J r123 r124), K, wQQ q) Q) : am_T 5 233 115 [some (.ref 80), some (.int (nI D)), some (.int (nI N)), some (.int a), some (.int sc), some (.long (jL cei)), none, some (.int bx), some (.int (nI g)), some (.int (nI lit)), o10, o11] [] (n, sl, wKK kk, (mgI J r123 r124), K, wQQ q) Q := by
  refine tv_b (pc' := 121) (ls' := [some (.ref 80), some (.int (nI D)), some (.int (nI N)), some (.int a), some (.int sc), some (.long (jL cei)), none, some (.int bx), some (.int (nI g)), some (.int (nI lit)), o10, o11]) (st' := [.int (nI g), .ref 123]) (h' := (n, sl, wKK kk, (mgI J r123 r124), K, wQQ q)) 3 rfl ?_
  refine tv_ialN (k := g) rfl (rfl) (⟨by omega, by omega⟩) ?_
  refine tv_top (h4) ?_
  refine tv_b (pc' := 171) (ls' := [some (.ref 80), some (.int (nI D)), some (.int (nI N)), some (.int a), some (.int sc), some (.long (jL cei)), none, some (.int bx), some (.int (nI g)), some (.int (nI lit)), o10, o11]) (st' := [.int (nI g), .ref 123]) (h' := (n, sl, wKK kk, (mgI J r123 r124), K, wQQ q)) 4 rfl ?_
  refine tv_ialN (k := g) rfl (rfl) (⟨by omega, by omega⟩) ?_
  refine tv_top (h4) ?_
  refine tv_b (pc' := 188) (ls' := [some (.ref 80), some (.int (nI D)), some (.int (nI N)), some (.int a), some (.int sc), some (.long (jL cei)), none, some (.int bx), some (.int (nI g)), some (.int (nI lit)), o10, o11]) (st' := [.int (nI g), .ref 123]) (h' := (n, sl, wKK kk, (mgI J r123 r124), K, wQQ q)) 5 rfl ?_
  refine tv_ialN (k := g) rfl (rfl) (⟨by omega, by omega⟩) ?_
  refine tv_top (h4) ?_
  refine tv_b (pc' := 196) (ls' := [some (.ref 80), some (.int (nI D)), some (.int (nI N)), some (.int a), some (.int sc), some (.long (jL cei)), none, some (.int bx), some (.int (nI g)), some (.int (nI lit)), some (.int (-1)), o11]) (st' := [.int (-1), .ref 80, .int (nI lit)]) (h' := (n, sl, wKK kk, (mgI J r123 r124), K, wQQ q)) 4 rfl ?_
  refine tv_cvE [.int (-1)] [.int (nI lit)] rfl rfl (by omega) rfl (Nat.le_of_ble_eq_true rfl) (Nat.le_of_ble_eq_true rfl) (Or.inr (Or.inr rfl)) (ev_m_litN) ?_
  refine tv_b (pc' := 200) (ls' := [some (.ref 80), some (.int (nI D)), some (.int (nI N)), some (.int a), some (.int sc), some (.long (jL cei)), none, some (.int bx), some (.int (nI g)), some (.int (nI lit)), some (.int (-1)), o11]) (st' := [.int ((nI lit) + 0)]) (h' := (n, sl, wKK kk, (mgI J r123 r124), K, wQQ q)) 1 rfl ?_
  refine tv_top (show (nI lit) + 0 = nI (lit + 0) from nI_add lit 0) ?_
  refine tv_b (pc' := 202) (ls' := [some (.ref 80), some (.int (nI D)), some (.int (nI N)), some (.int a), some (.int sc), some (.long (jL cei)), none, some (.int bx), some (.int (nI g)), some (.int (nI (lit + 0))), some (.int (-1)), o11]) (st' := []) (h' := (n, sl, wKK kk, (mgI J r123 r124), K, wQQ q)) 1 rfl ?_
  exact k
theorem tv_m_gP {n sl : Nat} {kk : Nat → Nat × Nat} {q : Nat → Nat → Option Nat} {J : Nat → Nat → Int32} {K : Nat → Nat → Int64} {D N g : Nat} {a sc bx : Int32} {cei : Int} {o10 o11 : Option Value} {r123 r124 : Nat → Int32} {Q : Option Value → am_H → Prop} {lit p : Nat} {lc : Nat → Nat} (hg : g < 8) (hp : p < 3) (hlp : J 122 p = nI (lc p)) (h0 : ¬ lc p = 0) (hl1 : lc p ≤ 1000) (h4 : r123 g = nI p) (k : am_T 5 233 202 [some (.ref 80), some (.int (nI D)), some (.int (nI N)), some (.int a), some (.int sc), some (.long (jL cei)), none, some (.int bx), some (.int (nI g)), some (.int (nI (lit + lc p))), some (.int (nI p)), o11] [] (n, sl, wKK kk, (mgI J r123 r124), K, wQQ q) Q) : am_T 5 233 115 [some (.ref 80), some (.int (nI D)), some (.int (nI N)), some (.int a), some (.int sc), some (.long (jL cei)), none, some (.int bx), some (.int (nI g)), some (.int (nI lit)), o10, o11] [] (n, sl, wKK kk, (mgI J r123 r124), K, wQQ q) Q := by
  refine tv_b (pc' := 121) (ls' := [some (.ref 80), some (.int (nI D)), some (.int (nI N)), some (.int a), some (.int sc), some (.long (jL cei)), none, some (.int bx), some (.int (nI g)), some (.int (nI lit)), o10, o11]) (st' := [.int (nI g), .ref 123]) (h' := (n, sl, wKK kk, (mgI J r123 r124), K, wQQ q)) 3 rfl ?_
  refine tv_ialN (k := g) rfl (rfl) (⟨by omega, by omega⟩) ?_
  refine tv_top (h4) ?_
  refine tv_b (pc' := (if (nI p) < 0 then 165 else 125)) (ls' := [some (.ref 80), some (.int (nI D)), some (.int (nI N)), some (.int a), some (.int sc), some (.long (jL cei)), none, some (.int bx), some (.int (nI g)), some (.int (nI lit)), o10, o11]) (st' := []) (h' := (n, sl, wKK kk, (mgI J r123 r124), K, wQQ q)) 1 rfl ?_
  refine tv_f (fun hq => absurd ((nI_ltI (a := p) (b := 0) (by omega) (by omega)).mp hq) (by omega)) ?_
  refine tv_b (pc' := 131) (ls' := [some (.ref 80), some (.int (nI D)), some (.int (nI N)), some (.int a), some (.int sc), some (.long (jL cei)), none, some (.int bx), some (.int (nI g)), some (.int (nI lit)), o10, o11]) (st' := [.int (nI g), .ref 123]) (h' := (n, sl, wKK kk, (mgI J r123 r124), K, wQQ q)) 3 rfl ?_
  refine tv_ialN (k := g) rfl (rfl) (⟨by omega, by omega⟩) ?_
  refine tv_top (h4) ?_
  refine tv_b (pc' := (if 3 ≤ (nI p) then 165 else 136)) (ls' := [some (.ref 80), some (.int (nI D)), some (.int (nI N)), some (.int a), some (.int sc), some (.long (jL cei)), none, some (.int bx), some (.int (nI g)), some (.int (nI lit)), o10, o11]) (st' := []) (h' := (n, sl, wKK kk, (mgI J r123 r124), K, wQQ q)) 2 rfl ?_
  refine tv_f (fun hq => absurd ((nI_leI (a := 3) (b := p) (by omega) (by omega)).mp hq) (by omega)) ?_
  refine tv_b (pc' := 146) (ls' := [some (.ref 80), some (.int (nI D)), some (.int (nI N)), some (.int a), some (.int sc), some (.long (jL cei)), none, some (.int bx), some (.int (nI g)), some (.int (nI lit)), o10, o11]) (st' := [.int (nI g), .ref 123, .ref 122]) (h' := (n, sl, wKK kk, (mgI J r123 r124), K, wQQ q)) 5 rfl ?_
  refine tv_ialN (k := g) rfl (rfl) (⟨by omega, by omega⟩) ?_
  refine tv_top (h4) ?_
  refine tv_ialN (k := p) rfl (rfl) (⟨by omega, by omega⟩) ?_
  refine tv_top (hlp) ?_
  refine tv_b (pc' := (if (nI (lc p)) = 0 then 151 else 165)) (ls' := [some (.ref 80), some (.int (nI D)), some (.int (nI N)), some (.int a), some (.int sc), some (.long (jL cei)), none, some (.int bx), some (.int (nI g)), some (.int (nI lit)), o10, o11]) (st' := []) (h' := (n, sl, wKK kk, (mgI J r123 r124), K, wQQ q)) 1 rfl ?_
  refine tv_f (fun hq => absurd ((nI_eq (a := (lc p)) (b := 0) (by omega) (by omega)).mp hq) (by omega)) ?_
  refine tv_b (pc' := 171) (ls' := [some (.ref 80), some (.int (nI D)), some (.int (nI N)), some (.int a), some (.int sc), some (.long (jL cei)), none, some (.int bx), some (.int (nI g)), some (.int (nI lit)), o10, o11]) (st' := [.int (nI g), .ref 123]) (h' := (n, sl, wKK kk, (mgI J r123 r124), K, wQQ q)) 3 rfl ?_
  refine tv_ialN (k := g) rfl (rfl) (⟨by omega, by omega⟩) ?_
  refine tv_top (h4) ?_
  refine tv_b (pc' := (if (nI p) ≤ 2 then 182 else 176)) (ls' := [some (.ref 80), some (.int (nI D)), some (.int (nI N)), some (.int a), some (.int sc), some (.long (jL cei)), none, some (.int bx), some (.int (nI g)), some (.int (nI lit)), o10, o11]) (st' := []) (h' := (n, sl, wKK kk, (mgI J r123 r124), K, wQQ q)) 2 rfl ?_
  refine tv_t ((nI_leI (a := p) (b := 2) (by omega) (by omega)).mpr (by omega)) ?_
  refine tv_b (pc' := 188) (ls' := [some (.ref 80), some (.int (nI D)), some (.int (nI N)), some (.int a), some (.int sc), some (.long (jL cei)), none, some (.int bx), some (.int (nI g)), some (.int (nI lit)), o10, o11]) (st' := [.int (nI g), .ref 123]) (h' := (n, sl, wKK kk, (mgI J r123 r124), K, wQQ q)) 3 rfl ?_
  refine tv_ialN (k := g) rfl (rfl) (⟨by omega, by omega⟩) ?_
  refine tv_top (h4) ?_
  refine tv_b (pc' := 196) (ls' := [some (.ref 80), some (.int (nI D)), some (.int (nI N)), some (.int a), some (.int sc), some (.long (jL cei)), none, some (.int bx), some (.int (nI g)), some (.int (nI lit)), some (.int (nI p)), o11]) (st' := [.int (nI p), .ref 80, .int (nI lit)]) (h' := (n, sl, wKK kk, (mgI J r123 r124), K, wQQ q)) 4 rfl ?_
  refine tv_cvE [.int (nI p)] [.int (nI lit)] rfl rfl (by omega) rfl (Nat.le_of_ble_eq_true rfl) (Nat.le_of_ble_eq_true rfl) (Or.inr (Or.inr rfl)) ((show am_Ev 4 232 0 (am_ent 2 [.ref 80, .int (nI p)]) [] (n, sl, wKK kk, (mgI J r123 r124), K, wQQ q) (some (.int (nI (lc p))), (n, sl, wKK kk, (mgI J r123 r124), K, wQQ q)) from hlp ▸ ev_m_litP hp)) ?_
  refine tv_b (pc' := 200) (ls' := [some (.ref 80), some (.int (nI D)), some (.int (nI N)), some (.int a), some (.int sc), some (.long (jL cei)), none, some (.int bx), some (.int (nI g)), some (.int (nI lit)), some (.int (nI p)), o11]) (st' := [.int ((nI lit) + (nI (lc p)))]) (h' := (n, sl, wKK kk, (mgI J r123 r124), K, wQQ q)) 1 rfl ?_
  refine tv_top (show (nI lit) + (nI (lc p)) = nI (lit + (lc p)) from nI_add lit (lc p)) ?_
  refine tv_b (pc' := 202) (ls' := [some (.ref 80), some (.int (nI D)), some (.int (nI N)), some (.int a), some (.int sc), some (.long (jL cei)), none, some (.int bx), some (.int (nI g)), some (.int (nI (lit + (lc p)))), some (.int (nI p)), o11]) (st' := []) (h' := (n, sl, wKK kk, (mgI J r123 r124), K, wQQ q)) 1 rfl ?_
  exact k
theorem tv_m_pr {n sl : Nat} {kk : Nat → Nat × Nat} {q : Nat → Nat → Option Nat} {J : Nat → Nat → Int32} {K : Nat → Nat → Int64} {D N g : Nat} {a sc : Int32} {cei : Int} {o10 o11 : Option Value} {r123 r124 : Nat → Int32} {Q : Option Value → am_H → Prop} {b : bst} {v : Nat} (hb : bstB b) (hv : v ≤ 9000) (k1 : okB b v = true → am_T 5 233 218 [some (.ref 80), some (.int (nI D)), some (.int (nI N)), some (.int a), some (.int sc), some (.long (jL cei)), none, some (.int (bsI b)), some (.int (nI g)), some (.int (nI v)), o10, o11] [] (n, sl, wKK kk, (mgI J r123 r124), K, wQQ q) Q) (k2 : ¬ okB b v = true → am_T 5 233 73 [some (.ref 80), some (.int (nI D)), some (.int (nI N)), some (.int a), some (.int sc), some (.long (jL cei)), none, some (.int (bsI b)), some (.int (nI g)), some (.int (nI v)), o10, o11] [] (n, sl, wKK kk, (mgI J r123 r124), K, wQQ q) Q) : am_T 5 233 202 [some (.ref 80), some (.int (nI D)), some (.int (nI N)), some (.int a), some (.int sc), some (.long (jL cei)), none, some (.int (bsI b)), some (.int (nI g)), some (.int (nI v)), o10, o11] [] (n, sl, wKK kk, (mgI J r123 r124), K, wQQ q) Q := by
  cases b with
  | none =>
    show am_T 5 233 202 [some (.ref 80), some (.int (nI D)), some (.int (nI N)), some (.int a), some (.int sc), some (.long (jL cei)), none, some (.int (-1)), some (.int (nI g)), some (.int (nI v)), o10, o11] [] (n, sl, wKK kk, (mgI J r123 r124), K, wQQ q) Q
    refine tv_b (pc' := 218) (ls' := [some (.ref 80), some (.int (nI D)), some (.int (nI N)), some (.int a), some (.int sc), some (.long (jL cei)), none, some (.int (-1)), some (.int (nI g)), some (.int (nI v)), o10, o11]) (st' := []) (h' := (n, sl, wKK kk, (mgI J r123 r124), K, wQQ q)) 3 rfl ?_
    exact k1 rfl
  | some w =>
    have hw : w.1 ≤ 8000 := hb
    have hne : ¬ nI w.1 = -1 := fun z => by
      have h1 := congrArg Int32.toInt z
      rw [nI_j, jI_toInt ⟨by omega, by omega⟩] at h1
      have h2 : (-1 : Int32).toInt = -1 := rfl
      omega
    show am_T 5 233 202 [some (.ref 80), some (.int (nI D)), some (.int (nI N)), some (.int a), some (.int sc), some (.long (jL cei)), none, some (.int (nI w.1)), some (.int (nI g)), some (.int (nI v)), o10, o11] [] (n, sl, wKK kk, (mgI J r123 r124), K, wQQ q) Q
    refine tv_b (pc' := (if (nI w.1) = (-1) then 218 else 208)) (ls' := [some (.ref 80), some (.int (nI D)), some (.int (nI N)), some (.int a), some (.int sc), some (.long (jL cei)), none, some (.int (nI w.1)), some (.int (nI g)), some (.int (nI v)), o10, o11]) (st' := []) (h' := (n, sl, wKK kk, (mgI J r123 r124), K, wQQ q)) 3 rfl ?_
    refine tv_f (hne) ?_
    refine tv_b (pc' := (if (nI v) < (nI w.1) then 218 else 215)) (ls' := [some (.ref 80), some (.int (nI D)), some (.int (nI N)), some (.int a), some (.int sc), some (.long (jL cei)), none, some (.int (nI w.1)), some (.int (nI g)), some (.int (nI v)), o10, o11]) (st' := []) (h' := (n, sl, wKK kk, (mgI J r123 r124), K, wQQ q)) 3 rfl ?_
    refine tv_ifq (nI_ltI (a := v) (b := w.1) (by omega) (by omega)) (fun c212 => ?_) (fun c212 => ?_)
    · exact k1 (decide_eq_true c212)
    · refine tv_b (pc' := 73) (ls' := [some (.ref 80), some (.int (nI D)), some (.int (nI N)), some (.int a), some (.int sc), some (.long (jL cei)), none, some (.int (nI w.1)), some (.int (nI g)), some (.int (nI v)), o10, o11]) (st' := []) (h' := (n, sl, wKK kk, (mgI J r123 r124), K, wQQ q)) 1 rfl ?_
      exact k2 (fun z => c212 (of_decide_eq_true z))
theorem tv_m_ce {n sl : Nat} {kk : Nat → Nat × Nat} {q : Nat → Nat → Option Nat} {J : Nat → Nat → Int32} {K : Nat → Nat → Int64} {D N g : Nat} {a sc bx : Int32} {cei : Int} {o10 o11 : Option Value} {r123 r124 : Nat → Int32} {Q : Option Value → am_H → Prop} {lit : Nat} {z : Int} (hg : g < 8) (hD : D + g < 400) (hz : bM z) (hc : bM cei) (hK : K 114 (D + g + 1) = jL z) (k1 : cei < z → am_T 5 233 73 [some (.ref 80), some (.int (nI D)), some (.int (nI N)), some (.int a), some (.int sc), some (.long (jL cei)), none, some (.int bx), some (.int (nI g)), some (.int (nI lit)), o10, o11] [] (n, sl, wKK kk, (mgI J r123 r124), K, wQQ q) Q) (k2 : ¬ cei < z → am_T 5 233 268 [some (.ref 80), some (.int (nI D)), some (.int (nI N)), some (.int a), some (.int sc), some (.long (jL cei)), none, some (.int bx), some (.int (nI g)), some (.int (nI lit)), o10, o11] [] (n, sl, wKK kk, (mgI J r123 r124), K, wQQ q) Q) : am_T 5 233 248 [some (.ref 80), some (.int (nI D)), some (.int (nI N)), some (.int a), some (.int sc), some (.long (jL cei)), none, some (.int bx), some (.int (nI g)), some (.int (nI lit)), o10, o11] [] (n, sl, wKK kk, (mgI J r123 r124), K, wQQ q) Q := by
  refine tv_b (pc' := 255) (ls' := [some (.ref 80), some (.int (nI D)), some (.int (nI N)), some (.int a), some (.int sc), some (.long (jL cei)), none, some (.int bx), some (.int (nI g)), some (.int (nI lit)), o10, o11]) (st' := [.int (nI g), .int (nI D), .ref 114]) (h' := (n, sl, wKK kk, (mgI J r123 r124), K, wQQ q)) 4 rfl ?_
  refine tv_b (pc' := 256) (ls' := [some (.ref 80), some (.int (nI D)), some (.int (nI N)), some (.int a), some (.int sc), some (.long (jL cei)), none, some (.int bx), some (.int (nI g)), some (.int (nI lit)), o10, o11]) (st' := [.int ((nI D) + (nI g)), .ref 114]) (h' := (n, sl, wKK kk, (mgI J r123 r124), K, wQQ q)) 1 rfl ?_
  refine tv_top (show (nI D) + (nI g) = nI (D + g) from nI_add D g) ?_
  refine tv_b (pc' := 257) (ls' := [some (.ref 80), some (.int (nI D)), some (.int (nI N)), some (.int a), some (.int sc), some (.long (jL cei)), none, some (.int bx), some (.int (nI g)), some (.int (nI lit)), o10, o11]) (st' := [.int 1, .int (nI (D + g)), .ref 114]) (h' := (n, sl, wKK kk, (mgI J r123 r124), K, wQQ q)) 1 rfl ?_
  refine tv_b (pc' := 258) (ls' := [some (.ref 80), some (.int (nI D)), some (.int (nI N)), some (.int a), some (.int sc), some (.long (jL cei)), none, some (.int bx), some (.int (nI g)), some (.int (nI lit)), o10, o11]) (st' := [.int ((nI (D + g)) + 1), .ref 114]) (h' := (n, sl, wKK kk, (mgI J r123 r124), K, wQQ q)) 1 rfl ?_
  refine tv_top (show (nI (D + g)) + 1 = nI ((D + g) + 1) from nI_add (D + g) 1) ?_
  refine tv_lalN (k := ((D + g) + 1)) rfl (rfl) (⟨by omega, by omega⟩) ?_
  rw [hK]
  refine tv_b (pc' := (if (lg_cmp (jL z) (jL cei)) ≤ 0 then 268 else 265)) (ls' := [some (.ref 80), some (.int (nI D)), some (.int (nI N)), some (.int a), some (.int sc), some (.long (jL cei)), none, some (.int bx), some (.int (nI g)), some (.int (nI lit)), o10, o11]) (st' := []) (h' := (n, sl, wKK kk, (mgI J r123 r124), K, wQQ q)) 3 rfl ?_
  refine tv_if (fun c262 => ?_) (fun c262 => ?_)
  · exact k2 ((le_i hz hc).mp c262)
  · refine tv_b (pc' := 73) (ls' := [some (.ref 80), some (.int (nI D)), some (.int (nI N)), some (.int a), some (.int sc), some (.long (jL cei)), none, some (.int bx), some (.int (nI g)), some (.int (nI lit)), o10, o11]) (st' := []) (h' := (n, sl, wKK kk, (mgI J r123 r124), K, wQQ q)) 1 rfl ?_
    exact k1 (Classical.not_not.mp (fun w => c262 ((le_i hz hc).mpr w)))
theorem tv_m_dn {n sl : Nat} {kk : Nat → Nat × Nat} {q : Nat → Nat → Option Nat} {J : Nat → Nat → Int32} {K : Nat → Nat → Int64} {D N g : Nat} {a sc bx : Int32} {cei : Int} {o10 o11 : Option Value} {r123 r124 : Nat → Int32} {Q : Option Value → am_H → Prop} {lit : Nat} (hg : g + 1 < N) (hN : N ≤ 8) (k : am_T 5 233 73 [some (.ref 80), some (.int (nI D)), some (.int (nI N)), some (.int a), some (.int sc), some (.long (jL cei)), none, some (.int bx), some (.int (nI (g + 1))), some (.int (nI lit)), o10, o11] [] (n, sl, wKK kk, (mgI J (upd r123 (g + 1) (-2)) r124), K, wQQ q) Q) : am_T 5 233 268 [some (.ref 80), some (.int (nI D)), some (.int (nI N)), some (.int a), some (.int sc), some (.long (jL cei)), none, some (.int bx), some (.int (nI g)), some (.int (nI lit)), o10, o11] [] (n, sl, wKK kk, (mgI J r123 r124), K, wQQ q) Q := by
  refine tv_b (pc' := 272) (ls' := [some (.ref 80), some (.int (nI D)), some (.int (nI N)), some (.int a), some (.int sc), some (.long (jL cei)), none, some (.int bx), some (.int (nI g)), some (.int (nI lit)), o10, o11]) (st' := [.int 1, .int (nI N), .int (nI g)]) (h' := (n, sl, wKK kk, (mgI J r123 r124), K, wQQ q)) 3 rfl ?_
  refine tv_b (pc' := 273) (ls' := [some (.ref 80), some (.int (nI D)), some (.int (nI N)), some (.int a), some (.int sc), some (.long (jL cei)), none, some (.int bx), some (.int (nI g)), some (.int (nI lit)), o10, o11]) (st' := [.int ((nI N) - 1), .int (nI g)]) (h' := (n, sl, wKK kk, (mgI J r123 r124), K, wQQ q)) 1 rfl ?_
  refine tv_top (show (nI N) - 1 = nI (N - 1) from nI_sub (a := N) (b := 1) (by omega)) ?_
  refine tv_b (pc' := (if (nI (N - 1)) ≤ (nI g) then 291 else 276)) (ls' := [some (.ref 80), some (.int (nI D)), some (.int (nI N)), some (.int a), some (.int sc), some (.long (jL cei)), none, some (.int bx), some (.int (nI g)), some (.int (nI lit)), o10, o11]) (st' := []) (h' := (n, sl, wKK kk, (mgI J r123 r124), K, wQQ q)) 1 rfl ?_
  refine tv_f (fun hq => absurd ((nI_leI (a := N - 1) (b := g) (by omega) (by omega)).mp hq) (by omega)) ?_
  refine tv_iincN (k := g) (ls' := [some (.ref 80), some (.int (nI D)), some (.int (nI N)), some (.int a), some (.int sc), some (.long (jL cei)), none, some (.int bx), some (.int (nI (g + 1))), some (.int (nI lit)), o10, o11]) rfl rfl rfl ?_
  refine tv_b (pc' := 287) (ls' := [some (.ref 80), some (.int (nI D)), some (.int (nI N)), some (.int a), some (.int sc), some (.long (jL cei)), none, some (.int bx), some (.int (nI (g + 1))), some (.int (nI lit)), o10, o11]) (st' := [.int (-2), .int (nI (g + 1)), .ref 123]) (h' := (n, sl, wKK kk, (mgI J r123 r124), K, wQQ q)) 4 rfl ?_
  refine tv_iasN (k := (g + 1)) rfl (rfl) (⟨by omega, by omega⟩) ?_
  refine tv_hI mgI_w_r123 ?_
  refine tv_b (pc' := 73) (ls' := [some (.ref 80), some (.int (nI D)), some (.int (nI N)), some (.int a), some (.int sc), some (.long (jL cei)), none, some (.int bx), some (.int (nI (g + 1))), some (.int (nI lit)), o10, o11]) (st' := []) (h' := (n, sl, wKK kk, (mgI J (upd r123 (g + 1) (-2)) r124), K, wQQ q)) 1 rfl ?_
  exact k
theorem tv_m_cp {n sl : Nat} {kk : Nat → Nat × Nat} {q : Nat → Nat → Option Nat} {J : Nat → Nat → Int32} {K : Nat → Nat → Int64} {D N g : Nat} {a sc bx : Int32} {cei : Int} {y : Int32} {r123 : Nat → Int32} {Q : Option Value → am_H → Prop} {lit : Nat} (hN : N ≤ 8) (k : ∀ r124 o11, (∀ x, x < N → r124 x = if 0 ≤ r123 x then r123 x else -2) → am_T 5 233 73 [some (.ref 80), some (.int (nI D)), some (.int (nI N)), some (.int a), some (.int sc), some (.long (jL cei)), none, some (.int bx), some (.int (nI g)), some (.int (nI lit)), some (.int y), o11] [] (n, sl, wKK kk, (mgI J r123 r124), K, wQQ q) Q) : ∀ m i : Nat, i + m = N → ∀ r124 : Nat → Int32, (∀ x, x < i → r124 x = if 0 ≤ r123 x then r123 x else -2) → am_T 5 233 315 [some (.ref 80), some (.int (nI D)), some (.int (nI N)), some (.int a), some (.int sc), some (.long (jL cei)), none, some (.int bx), some (.int (nI g)), some (.int (nI lit)), some (.int y), some (.int (nI i))] [] (n, sl, wKK kk, (mgI J r123 r124), K, wQQ q) Q := by
  intro m
  induction m with
  | zero =>
    intro i hi r124 hr
    have hi2 : i = N := by omega
    refine tv_b (pc' := (if (nI N) ≤ (nI i) then 356 else 321)) (ls' := [some (.ref 80), some (.int (nI D)), some (.int (nI N)), some (.int a), some (.int sc), some (.long (jL cei)), none, some (.int bx), some (.int (nI g)), some (.int (nI lit)), some (.int y), some (.int (nI i))]) (st' := []) (h' := (n, sl, wKK kk, (mgI J r123 r124), K, wQQ q)) 3 rfl ?_
    refine tv_t ((nI_leI (a := N) (b := i) (by omega) (by omega)).mpr (by omega)) ?_
    refine tv_b (pc' := 73) (ls' := [some (.ref 80), some (.int (nI D)), some (.int (nI N)), some (.int a), some (.int sc), some (.long (jL cei)), none, some (.int bx), some (.int (nI g)), some (.int (nI lit)), some (.int y), some (.int (nI i))]) (st' := []) (h' := (n, sl, wKK kk, (mgI J r123 r124), K, wQQ q)) 1 rfl ?_
    exact k r124 _ (fun j hj => hr j (by omega))
  | succ m ih =>
    intro i hi r124 hr
    refine tv_b (pc' := (if (nI N) ≤ (nI i) then 356 else 321)) (ls' := [some (.ref 80), some (.int (nI D)), some (.int (nI N)), some (.int a), some (.int sc), some (.long (jL cei)), none, some (.int bx), some (.int (nI g)), some (.int (nI lit)), some (.int y), some (.int (nI i))]) (st' := []) (h' := (n, sl, wKK kk, (mgI J r123 r124), K, wQQ q)) 3 rfl ?_
    refine tv_f (fun hq => absurd ((nI_leI (a := N) (b := i) (by omega) (by omega)).mp hq) (by omega)) ?_
    refine tv_b (pc' := 333) (ls' := [some (.ref 80), some (.int (nI D)), some (.int (nI N)), some (.int a), some (.int sc), some (.long (jL cei)), none, some (.int bx), some (.int (nI g)), some (.int (nI lit)), some (.int y), some (.int (nI i))]) (st' := [.int (nI i), .ref 123, .int (nI i), .ref 124]) (h' := (n, sl, wKK kk, (mgI J r123 r124), K, wQQ q)) 6 rfl ?_
    refine tv_ialN (k := i) rfl (rfl) (⟨by omega, by omega⟩) ?_
    refine tv_b (pc' := (if 0 ≤ (r123 i) then 342 else 337)) (ls' := [some (.ref 80), some (.int (nI D)), some (.int (nI N)), some (.int a), some (.int sc), some (.long (jL cei)), none, some (.int bx), some (.int (nI g)), some (.int (nI lit)), some (.int y), some (.int (nI i))]) (st' := [.int (nI i), .ref 124]) (h' := (n, sl, wKK kk, (mgI J r123 r124), K, wQQ q)) 1 rfl ?_
    refine tv_if (fun c334 => ?_) (fun c334 => ?_)
    · refine tv_b (pc' := 348) (ls' := [some (.ref 80), some (.int (nI D)), some (.int (nI N)), some (.int a), some (.int sc), some (.long (jL cei)), none, some (.int bx), some (.int (nI g)), some (.int (nI lit)), some (.int y), some (.int (nI i))]) (st' := [.int (nI i), .ref 123, .int (nI i), .ref 124]) (h' := (n, sl, wKK kk, (mgI J r123 r124), K, wQQ q)) 3 rfl ?_
      refine tv_ialN (k := i) rfl (rfl) (⟨by omega, by omega⟩) ?_
      refine tv_iasN (k := i) rfl (rfl) (⟨by omega, by omega⟩) ?_
      refine tv_hI mgI_w_r124 ?_
      refine tv_iincN (k := i) (ls' := [some (.ref 80), some (.int (nI D)), some (.int (nI N)), some (.int a), some (.int sc), some (.long (jL cei)), none, some (.int bx), some (.int (nI g)), some (.int (nI lit)), some (.int y), some (.int (nI (i + 1)))]) rfl rfl rfl ?_
      refine tv_b (pc' := 315) (ls' := [some (.ref 80), some (.int (nI D)), some (.int (nI N)), some (.int a), some (.int sc), some (.long (jL cei)), none, some (.int bx), some (.int (nI g)), some (.int (nI lit)), some (.int y), some (.int (nI (i + 1)))]) (st' := []) (h' := (n, sl, wKK kk, (mgI J r123 (upd r124 i (r123 i))), K, wQQ q)) 1 rfl ?_
      refine ih (i + 1) (by omega) _ (fun j hj => ?_)
      by_cases z : j = i
      · subst z; rw [upd_e, if_pos c334]
      · rw [upd_n z]; exact hr j (by omega)
    · refine tv_b (pc' := 349) (ls' := [some (.ref 80), some (.int (nI D)), some (.int (nI N)), some (.int a), some (.int sc), some (.long (jL cei)), none, some (.int bx), some (.int (nI g)), some (.int (nI lit)), some (.int y), some (.int (nI i))]) (st' := [.int (-2), .int (nI i), .ref 124]) (h' := (n, sl, wKK kk, (mgI J r123 r124), K, wQQ q)) 2 rfl ?_
      refine tv_iasN (k := i) rfl (rfl) (⟨by omega, by omega⟩) ?_
      refine tv_hI mgI_w_r124 ?_
      refine tv_iincN (k := i) (ls' := [some (.ref 80), some (.int (nI D)), some (.int (nI N)), some (.int a), some (.int sc), some (.long (jL cei)), none, some (.int bx), some (.int (nI g)), some (.int (nI lit)), some (.int y), some (.int (nI (i + 1)))]) rfl rfl rfl ?_
      refine tv_b (pc' := 315) (ls' := [some (.ref 80), some (.int (nI D)), some (.int (nI N)), some (.int a), some (.int sc), some (.long (jL cei)), none, some (.int bx), some (.int (nI g)), some (.int (nI lit)), some (.int y), some (.int (nI (i + 1)))]) (st' := []) (h' := (n, sl, wKK kk, (mgI J r123 (upd r124 i (-2))), K, wQQ q)) 1 rfl ?_
      refine ih (i + 1) (by omega) _ (fun j hj => ?_)
      by_cases z : j = i
      · subst z; rw [upd_e, if_neg c334]
      · rw [upd_n z]; exact hr j (by omega)
theorem tv_m_lf {n sl : Nat} {kk : Nat → Nat × Nat} {q : Nat → Nat → Option Nat} {J : Nat → Nat → Int32} {K : Nat → Nat → Int64} {D N g : Nat} {a sc bx : Int32} {cei : Int} {o11 : Option Value} {y : Int32} {r123 r124 : Nat → Int32} {Q : Option Value → am_H → Prop} {lit : Nat} {z : Int} (hg : g + 1 = N) (hN : N ≤ 8) (hD : D + N ≤ 400) (hz : bM z) (hK : K 114 (D + N) = jL z) (k1 : a.toInt < z → am_T 5 233 73 [some (.ref 80), some (.int (nI D)), some (.int (nI N)), some (.int a), some (.int sc), some (.long (jL cei)), none, some (.int bx), some (.int (nI g)), some (.int (nI lit)), some (.int y), o11] [] (n, sl, wKK kk, (mgI J r123 r124), K, wQQ q) Q) (k2 : ¬ a.toInt < z → ∀ r124 o11, (∀ x, x < N → r124 x = if 0 ≤ r123 x then r123 x else -2) → am_T 5 233 73 [some (.ref 80), some (.int (nI D)), some (.int (nI N)), some (.int a), some (.int sc), some (.long (jL cei)), none, some (.int (nI lit)), some (.int (nI g)), some (.int (nI lit)), some (.int y), o11] [] (n, sl, wKK kk, (mgI J r123 r124), K, wQQ q) Q) : am_T 5 233 268 [some (.ref 80), some (.int (nI D)), some (.int (nI N)), some (.int a), some (.int sc), some (.long (jL cei)), none, some (.int bx), some (.int (nI g)), some (.int (nI lit)), some (.int y), o11] [] (n, sl, wKK kk, (mgI J r123 r124), K, wQQ q) Q := by
  have ha := Int32.le_toInt a
  have ha2 := Int32.toInt_le a
  have hx1 : Int32.maxValue.toInt = 2147483647 := rfl
  have hx2 : Int32.minValue.toInt = -2147483648 := rfl
  have ea : a.toInt64 = jL a.toInt := by rw [← jI_self a, jI_64 ⟨by omega, by omega⟩, jI_self]
  have hab : bM a.toInt := ⟨by omega, by omega⟩
  refine tv_b (pc' := 272) (ls' := [some (.ref 80), some (.int (nI D)), some (.int (nI N)), some (.int a), some (.int sc), some (.long (jL cei)), none, some (.int bx), some (.int (nI g)), some (.int (nI lit)), some (.int y), o11]) (st' := [.int 1, .int (nI N), .int (nI g)]) (h' := (n, sl, wKK kk, (mgI J r123 r124), K, wQQ q)) 3 rfl ?_
  refine tv_b (pc' := 273) (ls' := [some (.ref 80), some (.int (nI D)), some (.int (nI N)), some (.int a), some (.int sc), some (.long (jL cei)), none, some (.int bx), some (.int (nI g)), some (.int (nI lit)), some (.int y), o11]) (st' := [.int ((nI N) - 1), .int (nI g)]) (h' := (n, sl, wKK kk, (mgI J r123 r124), K, wQQ q)) 1 rfl ?_
  refine tv_top (show (nI N) - 1 = nI (N - 1) from nI_sub (a := N) (b := 1) (by omega)) ?_
  refine tv_b (pc' := (if (nI (N - 1)) ≤ (nI g) then 291 else 276)) (ls' := [some (.ref 80), some (.int (nI D)), some (.int (nI N)), some (.int a), some (.int sc), some (.long (jL cei)), none, some (.int bx), some (.int (nI g)), some (.int (nI lit)), some (.int y), o11]) (st' := []) (h' := (n, sl, wKK kk, (mgI J r123 r124), K, wQQ q)) 1 rfl ?_
  refine tv_t ((nI_leI (a := N - 1) (b := g) (by omega) (by omega)).mpr (by omega)) ?_
  refine tv_b (pc' := 297) (ls' := [some (.ref 80), some (.int (nI D)), some (.int (nI N)), some (.int a), some (.int sc), some (.long (jL cei)), none, some (.int bx), some (.int (nI g)), some (.int (nI lit)), some (.int y), o11]) (st' := [.int (nI N), .int (nI D), .ref 114]) (h' := (n, sl, wKK kk, (mgI J r123 r124), K, wQQ q)) 4 rfl ?_
  refine tv_b (pc' := 298) (ls' := [some (.ref 80), some (.int (nI D)), some (.int (nI N)), some (.int a), some (.int sc), some (.long (jL cei)), none, some (.int bx), some (.int (nI g)), some (.int (nI lit)), some (.int y), o11]) (st' := [.int ((nI D) + (nI N)), .ref 114]) (h' := (n, sl, wKK kk, (mgI J r123 r124), K, wQQ q)) 1 rfl ?_
  refine tv_top (show (nI D) + (nI N) = nI (D + N) from nI_add D N) ?_
  refine tv_lalN (k := (D + N)) rfl (rfl) (⟨by omega, by omega⟩) ?_
  refine tv_b (pc' := 301) (ls' := [some (.ref 80), some (.int (nI D)), some (.int (nI N)), some (.int a), some (.int sc), some (.long (jL cei)), none, some (.int bx), some (.int (nI g)), some (.int (nI lit)), some (.int y), o11]) (st' := [.long a.toInt64, .long (K 114 (D + N))]) (h' := (n, sl, wKK kk, (mgI J r123 r124), K, wQQ q)) 2 rfl ?_
  rw [hK, ea]
  refine tv_b (pc' := (if (lg_cmp (jL z) (jL a.toInt)) ≤ 0 then 308 else 305)) (ls' := [some (.ref 80), some (.int (nI D)), some (.int (nI N)), some (.int a), some (.int sc), some (.long (jL cei)), none, some (.int bx), some (.int (nI g)), some (.int (nI lit)), some (.int y), o11]) (st' := []) (h' := (n, sl, wKK kk, (mgI J r123 r124), K, wQQ q)) 2 rfl ?_
  refine tv_if (fun c302 => ?_) (fun c302 => ?_)
  · refine tv_b (pc' := 315) (ls' := [some (.ref 80), some (.int (nI D)), some (.int (nI N)), some (.int a), some (.int sc), some (.long (jL cei)), none, some (.int (nI lit)), some (.int (nI g)), some (.int (nI lit)), some (.int y), some (.int 0)]) (st' := []) (h' := (n, sl, wKK kk, (mgI J r123 r124), K, wQQ q)) 4 rfl ?_
    exact tv_m_cp hN (k2 ((le_i hz hab).mp c302)) N 0 (by omega) r124 (fun i hi => absurd hi (by omega))
  · refine tv_b (pc' := 73) (ls' := [some (.ref 80), some (.int (nI D)), some (.int (nI N)), some (.int a), some (.int sc), some (.long (jL cei)), none, some (.int bx), some (.int (nI g)), some (.int (nI lit)), some (.int y), o11]) (st' := []) (h' := (n, sl, wKK kk, (mgI J r123 r124), K, wQQ q)) 1 rfl ?_
    exact k1 (Classical.not_not.mp (fun w => c302 ((le_i hz hab).mpr w)))
