/-! THE CLASS'S READER: pieces of the grammar, their ends -/
def pa_wr (cd : Nat → Int32) (ce : Nat) : List Nat → Nat → Int32
  | [] => cd
  | c :: cs => pa_wr (upd cd ce (nI c)) (ce + 1) cs
theorem pa_wr_app (a c : List Nat) : ∀ (cd : Nat → Int32) (ce : Nat), pa_wr (pa_wr cd ce a) (ce + a.length) c = pa_wr cd ce (a ++ c) := by
  induction a with
  | nil => intro cd ce; rfl
  | cons x a ih =>
    intro cd ce
    show pa_wr (pa_wr (upd cd ce (nI x)) (ce + 1) a) (ce + (a.length + 1)) c = pa_wr (upd cd ce (nI x)) (ce + 1) (a ++ c)
    rw [← ih, show ce + (a.length + 1) = ce + 1 + a.length by omega]
/-- the reader's store at the token behind p -/
def rdT (tx : Nat → Nat) (T : Nat) (I : Nat → Nat → Int32) (p : Nat) (nm : Int32) (ce : Nat) (cd : Nat → Int32) : Nat → Nat → Int32 := rdI I (nI (pa_sk tx T p)) (nI (pa_ed tx T p)) (nI (pa_tk tx T p)) nm 0 (-1) (nI ce) cd
/-- the store behind a piece of the grammar -/
def rdO (tx : Nat → Nat) (T : Nat) (r : pa_E) (ce : Nat) (cd : Nat → Int32) (I I' : Nat → Nat → Int32) : Prop := match r with
  | .inl (k, pl) => k ≠ 0 ∧ k ≤ 5 ∧ rdFs k pl T I I'
  | .inr (p', cs) => p' ≤ T ∧ ce + cs.length ≤ p' ∧ ∃ nm, (pa_tk tx T p' = 21 → nm = nI (pa_nm tx T p')) ∧ I' = rdT tx T I p' nm (ce + cs.length) (pa_wr cd ce cs)
section RO
variable {tx : Nat → Nat} {T ce : Nat} {cd : Nat → Int32} {I I' : Nat → Nat → Int32} {r : pa_E} {f : Nat → pa_E}
theorem rdO_c (h : rdO tx T r ce cd I I') : (∃ k pl s a nm c cd', r = .inl (k, pl) ∧ (k ≠ 0 ∧ k ≤ 5 ∧ a ≤ T ∧ c ≤ 800) ∧ I' = rdI I (nI s) (nI a) 39 nm (nI k) (nI pl) (nI c) cd') ∨ (∃ p' cs nm, r = .inr (p', cs) ∧ (p' ≤ T ∧ ce + cs.length ≤ p') ∧ (pa_tk tx T p' = 21 → nm = nI (pa_nm tx T p')) ∧ I' = rdT tx T I p' nm (ce + cs.length) (pa_wr cd ce cs)) := by
  rcases r with ⟨k, pl⟩ | ⟨p', cs⟩
  · obtain ⟨h1, h2, s, a, nm, c, cd', h4, h5, h6⟩ := h
    exact Or.inl ⟨k, pl, s, a, nm, c, cd', rfl, ⟨h1, h2, h4, h5⟩, h6⟩
  · obtain ⟨h1, h2, nm, h3, h4⟩ := h
    exact Or.inr ⟨p', cs, nm, rfl, ⟨h1, h2⟩, h3, h4⟩
theorem rdO_b {p : Nat} {cs : List Nat} (hr : r = .inr (p, cs)) (h : rdO tx T (f p) (ce + cs.length) (pa_wr cd ce cs) I I') : rdO tx T (pa_bnd r f) ce cd I I' := by
  rcases hf : f p with ⟨k, pl⟩ | ⟨p', ds⟩
  · rw [hf] at h
    have e : pa_bnd r f = .inl (k, pl) := by rw [hr]; show (match f p with
      | .inl e => .inl e
      | .inr (p', ds) => .inr (p', cs ++ ds) : pa_E) = _; rw [hf]
    rw [e]
    exact h
  · rw [hf] at h
    have e : pa_bnd r f = .inr (p', cs ++ ds) := by rw [hr]; show (match f p with
      | .inl e => .inl e
      | .inr (p', ds) => .inr (p', cs ++ ds) : pa_E) = _; rw [hf]
    rw [e]
    obtain ⟨h1, h2, nm, h3, h4⟩ := h
    refine ⟨h1, by rw [List.length_append]; omega, nm, h3, ?_⟩
    rw [h4, pa_wr_app, List.length_append, Nat.add_assoc]
theorem rdO_bl {e : Nat × Nat} (hr : r = .inl e) (h : rdO tx T r ce cd I I') : rdO tx T (pa_bnd r f) ce cd I I' := by
  unfold pa_bnd
  rw [hr] at h ⊢
  exact h
theorem rdO_F {k pl s a nm c : _} {cd' : Nat → Int32} (hr : r = .inl (k, pl)) (hk : k ≠ 0 ∧ k ≤ 5 ∧ a ≤ T ∧ c ≤ 800) (hI : I' = rdI I (nI s) (nI a) 39 nm (nI k) (nI pl) (nI c) cd') : rdO tx T r ce cd I I' := by
  rw [hr]
  exact ⟨hk.1, hk.2.1, s, a, nm, c, cd', hk.2.2.1, hk.2.2.2, hI⟩
theorem rdO_N {p' : Nat} {cs : List Nat} {nm : Int32} (hr : r = .inr (p', cs)) (hp : p' ≤ T ∧ ce + cs.length ≤ p') (hn : pa_tk tx T p' = 21 → nm = nI (pa_nm tx T p')) (hI : I' = rdT tx T I p' nm (ce + cs.length) (pa_wr cd ce cs)) : rdO tx T r ce cd I I' := by
  rw [hr]
  exact ⟨hp.1, hp.2, nm, hn, hI⟩
end RO
theorem pa_tk_lt {b : Nat → Nat} {n : Nat} (p : Nat) : pa_tk b n p < 40 := by
  unfold pa_tk
  simp only
  split
  · split
    · unfold pa_wtk; split <;> omega
    · split
      · omega
      · unfold pa_sgn; split <;> omega
  · omega
theorem pa_ed_le {b : Nat → Nat} {n p : Nat} (h : p ≤ n) : pa_ed b n p ≤ n ∧ p ≤ pa_ed b n p := by
  by_cases e : pa_tk b n p = 38
  · have hs := pa_sk_le (b := b) h
    have hg := pa_sk_ge (b := b) (n := n) p
    unfold pa_ed
    by_cases c : pa_sk b n p < n
    · exfalso
      unfold pa_tk at e
      simp only [if_pos c] at e
      split at e
      · unfold pa_wtk at e; split at e <;> omega
      · split at e
        · omega
        · unfold pa_sgn at e; split at e <;> omega
    · simp only [if_neg c]
      omega
  · have := pa_ed_gt e
    omega
theorem nI_eqI {a b : Nat} (ha : a < 2 ^ 31) (hb : b < 2 ^ 31) : nI a = nI b ↔ a = b := nI_eq0 ha hb
theorem ev_r_emit {d n sl : Nat} {kk : Nat → Nat × Nat} {I : Nat → Nat → Int32} {L : Nat → Nat → Int64} {q : Nat → Nat → Option Nat} {xs xa xt xm xl : Int32} {cd : Nat → Int32} {x : Int32} {ce : Nat} (hc : ce < 800) : am_Ev (d) 81 0 (am_ent 2 [.ref 57, .int x]) [] (n, sl, wKK kk, (rdI I xs xa xt xm 0 xl (nI ce) cd), L, wQQ q) (none, (n, sl, wKK kk, (rdI I xs xa xt xm 0 xl (nI (ce + 1)) (upd cd ce x)), L, wQQ q)) := by
  refine tv_ev ?_
  show am_T _ _ 0 [some (.ref 57), some (.int x)] _ _ _
  refine tv_b (pc' := (if 800 ≤ (nI ce) then 37 else 17)) (ls' := [some (.ref 57), some (.int x)]) (st' := []) (h' := (n, sl, wKK kk, (rdI I xs xa xt xm 0 xl (nI ce) cd), L, wQQ q)) 7 rfl ?_
  refine tv_f (fun hq => absurd ((nI_leI (a := 800) (b := ce) (by omega) (by omega)).mp hq) (by omega)) ?_
  refine tv_b (pc' := 26) (ls' := [some (.ref 57), some (.int x)]) (st' := [.int x, .int (nI ce), .ref 59]) (h' := (n, sl, wKK kk, (rdI I xs xa xt xm 0 xl (nI ce) cd), L, wQQ q)) 5 rfl ?_
  refine tv_iasN (k := ce) rfl (rfl) (⟨by omega, by omega⟩) ?_
  refine tv_hI rdI_w_cd ?_
  refine tv_b (pc' := 33) (ls' := [some (.ref 57), some (.int x)]) (st' := [.int 1, .int (nI ce), .ref 57]) (h' := (n, sl, wKK kk, (rdI I xs xa xt xm 0 xl (nI ce) (upd cd ce x)), L, wQQ q)) 4 rfl ?_
  refine tv_b (pc' := 34) (ls' := [some (.ref 57), some (.int x)]) (st' := [.int ((nI ce) + 1), .ref 57]) (h' := (n, sl, wKK kk, (rdI I xs xa xt xm 0 xl (nI ce) (upd cd ce x)), L, wQQ q)) 1 rfl ?_
  refine tv_top (show (nI ce) + 1 = nI (ce + 1) from nI_add ce 1) ?_
  refine tv_b (pc' := 37) (ls' := [some (.ref 57), some (.int x)]) (st' := []) (h' := (n, sl, wKK kk, va_up (rdI I xs xa xt xm 0 xl (nI ce) (upd cd ce x)) 57 (upd ((rdI I xs xa xt xm 0 xl (nI ce) (upd cd ce x)) 57) 9 (nI (ce + 1))), L, wQQ q)) 1 rfl ?_
  refine tv_hI rdI_w_xc ?_
  exact tv_rv rfl ⟨rfl, rfl⟩
theorem ev_r_emitF {d n sl : Nat} {kk : Nat → Nat × Nat} {I : Nat → Nat → Int32} {L : Nat → Nat → Int64} {q : Nat → Nat → Option Nat} {xs xa xt xm xf xl xc : Int32} {cd : Nat → Int32} {x : Int32} (hf : ¬ xf = 0) : am_Ev (d) 81 0 (am_ent 2 [.ref 57, .int x]) [] (n, sl, wKK kk, (rdI I xs xa xt xm xf xl xc cd), L, wQQ q) (none, (n, sl, wKK kk, (rdI I xs xa xt xm xf xl xc cd), L, wQQ q)) := by
  refine tv_ev ?_
  show am_T _ _ 0 [some (.ref 57), some (.int x)] _ _ _
  refine tv_b (pc' := (if xf = 0 then 7 else 37)) (ls' := [some (.ref 57), some (.int x)]) (st' := []) (h' := (n, sl, wKK kk, (rdI I xs xa xt xm xf xl xc cd), L, wQQ q)) 3 rfl ?_
  refine tv_f (hf) ?_
  exact tv_rv rfl ⟨rfl, rfl⟩
theorem ev_r_expectF0 {d n sl : Nat} {kk : Nat → Nat × Nat} {I : Nat → Nat → Int32} {L : Nat → Nat → Int64} {q : Nat → Nat → Option Nat} {xs xa xm xf xl xc : Int32} {cd : Nat → Int32} (hf : ¬ xf = 0) : am_Ev (d + 1) 79 0 (am_ent 2 [.ref 57, .int 0]) [] (n, sl, wKK kk, (rdI I xs xa 39 xm xf xl xc cd), L, wQQ q) (none, (n, sl, wKK kk, (rdI I xs xa 39 xm xf xl xc cd), L, wQQ q)) := by
  refine tv_ev ?_
  show am_T _ _ 0 [some (.ref 57), some (.int 0)] _ _ _
  refine tv_b (pc' := 10) (ls' := [some (.ref 57), some (.int 0)]) (st' := [.int xs, .int 1, .ref 57]) (h' := (n, sl, wKK kk, (rdI I xs xa 39 xm xf xl xc cd), L, wQQ q)) 6 rfl ?_
  refine tv_cvE [.int 1, .int xs] [] rfl rfl (by omega) rfl (Nat.le_of_ble_eq_true rfl) (Nat.le_of_ble_eq_true rfl) (Or.inr (Or.inr rfl)) (ev_r_failF hf) ?_
  refine tv_b (pc' := 14) (ls' := [some (.ref 57), some (.int 0)]) (st' := [.ref 57]) (h' := (n, sl, wKK kk, (rdI I xs xa 39 xm xf xl xc cd), L, wQQ q)) 1 rfl ?_
  refine tv_cvE [] [] rfl rfl (by omega) rfl (Nat.le_of_ble_eq_true rfl) (Nat.le_of_ble_eq_true rfl) (Or.inr (Or.inr rfl)) (ev_r_nextF hf) ?_
  exact tv_rv rfl ⟨rfl, rfl⟩
theorem ev_r_expectF1 {d n sl : Nat} {kk : Nat → Nat × Nat} {I : Nat → Nat → Int32} {L : Nat → Nat → Int64} {q : Nat → Nat → Option Nat} {xs xa xm xf xl xc : Int32} {cd : Nat → Int32} (hf : ¬ xf = 0) : am_Ev (d + 1) 79 0 (am_ent 2 [.ref 57, .int 1]) [] (n, sl, wKK kk, (rdI I xs xa 39 xm xf xl xc cd), L, wQQ q) (none, (n, sl, wKK kk, (rdI I xs xa 39 xm xf xl xc cd), L, wQQ q)) := by
  refine tv_ev ?_
  show am_T _ _ 0 [some (.ref 57), some (.int 1)] _ _ _
  refine tv_b (pc' := 14) (ls' := [some (.ref 57), some (.int 1)]) (st' := [.ref 57]) (h' := (n, sl, wKK kk, (rdI I xs xa 39 xm xf xl xc cd), L, wQQ q)) 3 rfl ?_
  refine tv_cvE [] [] rfl rfl (by omega) rfl (Nat.le_of_ble_eq_true rfl) (Nat.le_of_ble_eq_true rfl) (Or.inr (Or.inr rfl)) (ev_r_nextF hf) ?_
  exact tv_rv rfl ⟨rfl, rfl⟩
theorem ev_r_opensF {d n sl : Nat} {kk : Nat → Nat × Nat} {I : Nat → Nat → Int32} {L : Nat → Nat → Int64} {q : Nat → Nat → Option Nat} {xs xa xm xf xl xc : Int32} {cd : Nat → Int32} {x : Int32} (hf : ¬ xf = 0) : am_Ev (d + 1) 78 0 (am_ent 3 [.ref 57, .int 32, .int x]) [] (n, sl, wKK kk, (rdI I xs xa 39 xm xf xl xc cd), L, wQQ q) (some (.int 0), (n, sl, wKK kk, (rdI I xs xa 39 xm xf xl xc cd), L, wQQ q)) := by
  refine tv_ev ?_
  show am_T _ _ 0 [some (.ref 57), some (.int 32), some (.int x)] _ _ _
  refine tv_b (pc' := 14) (ls' := [some (.ref 57), some (.int 32), some (.int x)]) (st' := [.int xs, .int 1, .ref 57]) (h' := (n, sl, wKK kk, (rdI I xs xa 39 xm xf xl xc cd), L, wQQ q)) 8 rfl ?_
  refine tv_cvE [.int 1, .int xs] [] rfl rfl (by omega) rfl (Nat.le_of_ble_eq_true rfl) (Nat.le_of_ble_eq_true rfl) (Or.inr (Or.inr rfl)) (ev_r_failF hf) ?_
  refine tv_b (pc' := 36) (ls' := [some (.ref 57), some (.int 32), some (.int x)]) (st' := [.ref 57]) (h' := (n, sl, wKK kk, (rdI I xs xa 39 xm xf xl xc cd), L, wQQ q)) 2 rfl ?_
  refine tv_cvE [] [] rfl rfl (by omega) rfl (Nat.le_of_ble_eq_true rfl) (Nat.le_of_ble_eq_true rfl) (Or.inr (Or.inr rfl)) (ev_r_nextF hf) ?_
  refine tv_b (pc' := (if xf = 0 then 46 else 50)) (ls' := [some (.ref 57), some (.int 32), some (.int x)]) (st' := []) (h' := (n, sl, wKK kk, (rdI I xs xa 39 xm xf xl xc cd), L, wQQ q)) 3 rfl ?_
  refine tv_f (hf) ?_
  refine tv_b (pc' := 51) (ls' := [some (.ref 57), some (.int 32), some (.int x)]) (st' := [.int 0]) (h' := (n, sl, wKK kk, (rdI I xs xa 39 xm xf xl xc cd), L, wQQ q)) 1 rfl ?_
  exact tv_rz rfl (Or.inl rfl) ⟨rfl, rfl⟩
theorem ev_r_partF {d n sl : Nat} {kk : Nat → Nat × Nat} {I : Nat → Nat → Int32} {L : Nat → Nat → Int64} {q : Nat → Nat → Option Nat} {xs xa xm xf xl xc : Int32} {cd : Nat → Int32} {x : Int32} (hf : ¬ xf = 0) : am_Ev (d + 1) 77 0 (am_ent 4 [.ref 57, .int x]) [] (n, sl, wKK kk, (rdI I xs xa 39 xm xf xl xc cd), L, wQQ q) (none, (n, sl, wKK kk, (rdI I xs xa 39 xm xf xl xc cd), L, wQQ q)) := by
  refine tv_ev ?_
  show am_T _ _ 0 [some (.ref 57), some (.int x), none, none] _ _ _
  refine tv_b (pc' := 265) (ls' := [some (.ref 57), some (.int x), some (.int 39), none]) (st' := [.int xs, .int 1, .ref 57]) (h' := (n, sl, wKK kk, (rdI I xs xa 39 xm xf xl xc cd), L, wQQ q)) 28 rfl ?_
  refine tv_cvE [.int 1, .int xs] [] rfl rfl (by omega) rfl (Nat.le_of_ble_eq_true rfl) (Nat.le_of_ble_eq_true rfl) (Or.inr (Or.inr rfl)) (ev_r_failF hf) ?_
  exact tv_rv rfl ⟨rfl, rfl⟩
theorem ev_r_productF {d n sl : Nat} {kk : Nat → Nat × Nat} {I : Nat → Nat → Int32} {L : Nat → Nat → Int64} {q : Nat → Nat → Option Nat} {xs xa xm xf xl xc : Int32} {cd : Nat → Int32} {x : Int32} (hf : ¬ xf = 0) : am_Ev (d + 2) 76 0 (am_ent 4 [.ref 57, .int x]) [] (n, sl, wKK kk, (rdI I xs xa 39 xm xf xl xc cd), L, wQQ q) (none, (n, sl, wKK kk, (rdI I xs xa 39 xm xf xl xc cd), L, wQQ q)) := by
  refine tv_ev ?_
  show am_T _ _ 0 [some (.ref 57), some (.int x), none, none] _ _ _
  refine tv_b (pc' := 2) (ls' := [some (.ref 57), some (.int x), none, none]) (st' := [.int x, .ref 57]) (h' := (n, sl, wKK kk, (rdI I xs xa 39 xm xf xl xc cd), L, wQQ q)) 2 rfl ?_
  refine tv_cvE [.int x] [] rfl rfl (by omega) rfl (Nat.le_of_ble_eq_true rfl) (Nat.le_of_ble_eq_true rfl) (Or.inr (Or.inr rfl)) (ev_r_partF hf) ?_
  refine tv_b (pc' := 57) (ls' := [some (.ref 57), some (.int x), some (.int 0), none]) (st' := []) (h' := (n, sl, wKK kk, (rdI I xs xa 39 xm xf xl xc cd), L, wQQ q)) 13 rfl ?_
  exact tv_rv rfl ⟨rfl, rfl⟩
theorem ev_r_sumF {d n sl : Nat} {kk : Nat → Nat × Nat} {I : Nat → Nat → Int32} {L : Nat → Nat → Int64} {q : Nat → Nat → Option Nat} {xs xa xm xf xl xc : Int32} {cd : Nat → Int32} {x : Int32} (hf : ¬ xf = 0) : am_Ev (d + 3) 75 0 (am_ent 4 [.ref 57, .int x]) [] (n, sl, wKK kk, (rdI I xs xa 39 xm xf xl xc cd), L, wQQ q) (none, (n, sl, wKK kk, (rdI I xs xa 39 xm xf xl xc cd), L, wQQ q)) := by
  refine tv_ev ?_
  show am_T _ _ 0 [some (.ref 57), some (.int x), none, none] _ _ _
  refine tv_b (pc' := 2) (ls' := [some (.ref 57), some (.int x), none, none]) (st' := [.int x, .ref 57]) (h' := (n, sl, wKK kk, (rdI I xs xa 39 xm xf xl xc cd), L, wQQ q)) 2 rfl ?_
  refine tv_cvE [.int x] [] rfl rfl (by omega) rfl (Nat.le_of_ble_eq_true rfl) (Nat.le_of_ble_eq_true rfl) (Or.inr (Or.inr rfl)) (ev_r_productF hf) ?_
  refine tv_b (pc' := 57) (ls' := [some (.ref 57), some (.int x), some (.int 0), none]) (st' := []) (h' := (n, sl, wKK kk, (rdI I xs xa 39 xm xf xl xc cd), L, wQQ q)) 13 rfl ?_
  exact tv_rv rfl ⟨rfl, rfl⟩
theorem ev_r_comparisonF {d n sl : Nat} {kk : Nat → Nat × Nat} {I : Nat → Nat → Int32} {L : Nat → Nat → Int64} {q : Nat → Nat → Option Nat} {xs xa xm xf xl xc : Int32} {cd : Nat → Int32} {x : Int32} (hf : ¬ xf = 0) : am_Ev (d + 4) 74 0 (am_ent 3 [.ref 57, .int x]) [] (n, sl, wKK kk, (rdI I xs xa 39 xm xf xl xc cd), L, wQQ q) (none, (n, sl, wKK kk, (rdI I xs xa 39 xm xf xl xc cd), L, wQQ q)) := by
  refine tv_ev ?_
  show am_T _ _ 0 [some (.ref 57), some (.int x), none] _ _ _
  refine tv_b (pc' := 2) (ls' := [some (.ref 57), some (.int x), none]) (st' := [.int x, .ref 57]) (h' := (n, sl, wKK kk, (rdI I xs xa 39 xm xf xl xc cd), L, wQQ q)) 2 rfl ?_
  refine tv_cvE [.int x] [] rfl rfl (by omega) rfl (Nat.le_of_ble_eq_true rfl) (Nat.le_of_ble_eq_true rfl) (Or.inr (Or.inr rfl)) (ev_r_sumF hf) ?_
  refine tv_b (pc' := 34) (ls' := [some (.ref 57), some (.int x), some (.int 39)]) (st' := [.int 0, .ref 57]) (h' := (n, sl, wKK kk, (rdI I xs xa 39 xm xf xl xc cd), L, wQQ q)) 14 rfl ?_
  refine tv_cvE [.int 0] [] rfl rfl (by omega) rfl (Nat.le_of_ble_eq_true rfl) (Nat.le_of_ble_eq_true rfl) (Or.inr (Or.inr rfl)) (ev_r_expectF0 hf) ?_
  refine tv_b (pc' := (if xf = 0 then 44 else 54)) (ls' := [some (.ref 57), some (.int x), some (.int 39)]) (st' := []) (h' := (n, sl, wKK kk, (rdI I xs xa 39 xm xf xl xc cd), L, wQQ q)) 3 rfl ?_
  refine tv_f (hf) ?_
  exact tv_rv rfl ⟨rfl, rfl⟩
theorem ev_r_factF {d n sl : Nat} {kk : Nat → Nat × Nat} {I : Nat → Nat → Int32} {L : Nat → Nat → Int64} {q : Nat → Nat → Option Nat} {xs xa xm xf xl xc : Int32} {cd : Nat → Int32} {x : Int32} (hf : ¬ xf = 0) : am_Ev (d + 5) 73 0 (am_ent 4 [.ref 57, .int x]) [] (n, sl, wKK kk, (rdI I xs xa 39 xm xf xl xc cd), L, wQQ q) (none, (n, sl, wKK kk, (rdI I xs xa 39 xm xf xl xc cd), L, wQQ q)) := by
  refine tv_ev ?_
  show am_T _ _ 0 [some (.ref 57), some (.int x), none, none] _ _ _
  refine tv_b (pc' := 111) (ls' := [some (.ref 57), some (.int x), some (.int 0), some (.int 0)]) (st' := [.int x, .ref 57]) (h' := (n, sl, wKK kk, (rdI I xs xa 39 xm xf xl xc cd), L, wQQ q)) 21 rfl ?_
  refine tv_cvE [.int x] [] rfl rfl (by omega) rfl (Nat.le_of_ble_eq_true rfl) (Nat.le_of_ble_eq_true rfl) (Or.inr (Or.inr rfl)) (ev_r_comparisonF hf) ?_
  refine tv_b (pc' := 124) (ls' := [some (.ref 57), some (.int x), some (.int 0), some (.int 0)]) (st' := []) (h' := (n, sl, wKK kk, (rdI I xs xa 39 xm xf xl xc cd), L, wQQ q)) 2 rfl ?_
  exact tv_rv rfl ⟨rfl, rfl⟩
theorem ev_r_bothF {d n sl : Nat} {kk : Nat → Nat × Nat} {I : Nat → Nat → Int32} {L : Nat → Nat → Int64} {q : Nat → Nat → Option Nat} {xs xa xm xf xl xc : Int32} {cd : Nat → Int32} {x : Int32} (hf : ¬ xf = 0) : am_Ev (d + 6) 72 0 (am_ent 3 [.ref 57, .int x]) [] (n, sl, wKK kk, (rdI I xs xa 39 xm xf xl xc cd), L, wQQ q) (none, (n, sl, wKK kk, (rdI I xs xa 39 xm xf xl xc cd), L, wQQ q)) := by
  refine tv_ev ?_
  show am_T _ _ 0 [some (.ref 57), some (.int x), none] _ _ _
  refine tv_b (pc' := 2) (ls' := [some (.ref 57), some (.int x), none]) (st' := [.int x, .ref 57]) (h' := (n, sl, wKK kk, (rdI I xs xa 39 xm xf xl xc cd), L, wQQ q)) 2 rfl ?_
  refine tv_cvE [.int x] [] rfl rfl (by omega) rfl (Nat.le_of_ble_eq_true rfl) (Nat.le_of_ble_eq_true rfl) (Or.inr (Or.inr rfl)) (ev_r_factF hf) ?_
  refine tv_b (pc' := 44) (ls' := [some (.ref 57), some (.int x), some (.int 0)]) (st' := []) (h' := (n, sl, wKK kk, (rdI I xs xa 39 xm xf xl xc cd), L, wQQ q)) 9 rfl ?_
  exact tv_rv rfl ⟨rfl, rfl⟩
theorem ev_r_testF {d n sl : Nat} {kk : Nat → Nat × Nat} {I : Nat → Nat → Int32} {L : Nat → Nat → Int64} {q : Nat → Nat → Option Nat} {xs xa xm xf xl xc : Int32} {cd : Nat → Int32} {x : Int32} (hf : ¬ xf = 0) : am_Ev (d + 7) 71 0 (am_ent 3 [.ref 57, .int x]) [] (n, sl, wKK kk, (rdI I xs xa 39 xm xf xl xc cd), L, wQQ q) (none, (n, sl, wKK kk, (rdI I xs xa 39 xm xf xl xc cd), L, wQQ q)) := by
  refine tv_ev ?_
  show am_T _ _ 0 [some (.ref 57), some (.int x), none] _ _ _
  refine tv_b (pc' := 2) (ls' := [some (.ref 57), some (.int x), none]) (st' := [.int x, .ref 57]) (h' := (n, sl, wKK kk, (rdI I xs xa 39 xm xf xl xc cd), L, wQQ q)) 2 rfl ?_
  refine tv_cvE [.int x] [] rfl rfl (by omega) rfl (Nat.le_of_ble_eq_true rfl) (Nat.le_of_ble_eq_true rfl) (Or.inr (Or.inr rfl)) (ev_r_bothF hf) ?_
  refine tv_b (pc' := 44) (ls' := [some (.ref 57), some (.int x), some (.int 0)]) (st' := []) (h' := (n, sl, wKK kk, (rdI I xs xa 39 xm xf xl xc cd), L, wQQ q)) 9 rfl ?_
  exact tv_rv rfl ⟨rfl, rfl⟩
