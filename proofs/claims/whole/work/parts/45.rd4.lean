/-! THE CLASS'S READER: the token at hand, the next one; faults -/
/-- the text is split: G tokens, then the end -/
def rdG (tx : Nat → Nat) (T G : Nat) (I : Nat → Nat → Int32) : Prop := I 57 6 = nI (G + 1) ∧ T ≤ 800 ∧ G ≤ 800 ∧ spR tx T (G + 1) (I 127) (I 128) (I 129) (I 130) ∧ pa_sk tx T (pa_ps tx T G) = T
/-- so many tokens have been at hand when that at p is -/
def rdX (tx : Nat → Nat) (T G p : Nat) (gn : Int32) : Prop := ∃ g, g ≤ G ∧ gn = nI (g + 1) ∧ pa_sk tx T p = pa_sk tx T (pa_ps tx T g)
/-- the reader's store at the token behind p, that stands; that may be at fault -/
def rdT (tx : Nat → Nat) (T : Nat) (I : Nat → Nat → Int32) (p : Nat) (nm gn : Int32) (ce : Nat) (cd : Nat → Int32) : Nat → Nat → Int32 := rdI I (nI (pa_sk tx T p)) (nI (pa_sk tx T p)) (nI (pa_tk tx T p)) nm gn 0 (-1) (nI ce) cd
def rdK (tx : Nat → Nat) (T : Nat) (I : Nat → Nat → Int32) (p : Nat) (nm gn : Int32) (ce : Nat) (cd : Nat → Int32) : Nat → Nat → Int32 := rdI I (nI (pa_sk tx T p)) (nI (pa_wg tx T p)) (nI (pa_kd tx T p)) nm gn 0 (-1) (nI ce) cd
/-- a fault that is told, or one that will be: the token at hand may not stand -/
def rdP (k l : Nat) (w xf xl : Int32) : Prop := (k ≠ 0 ∧ k ≤ 5) ∧ ((xf = nI k ∧ xl = nI l) ∨ (k = 1 ∧ xf = 0 ∧ xl = -1 ∧ w = nI l))
def rdE (k l : Nat) (I I' : Nat → Nat → Int32) : Prop := ∃ s w nm g xf xl c cd, c ≤ 800 ∧ rdP k l w xf xl ∧ I' = rdI I s w 39 nm g xf xl (nI c) cd
section RE
variable {tx : Nat → Nat} {T G k l p p2 : Nat} {w xf xl nm gn : Int32} {I : Nat → Nat → Int32}
theorem rd_F (h : rdP k l w xf xl) : rdP k l w (nI k) (nI l) := ⟨h.1, Or.inl ⟨rfl, rfl⟩⟩
theorem rd_k (h : rdP k l w xf xl) : ¬ nI k = 0 := fun q => h.1.1 ((nI_eq (a := k) (b := 0) (by have := h.1.2; omega) (by omega)).mp q)
theorem pa_tk_c (h : pa_sk tx T p = pa_sk tx T p2) : pa_tk tx T p = pa_tk tx T p2 := by rw [← pa_tk_sk, h, pa_tk_sk]
theorem pa_ed_c (h : pa_sk tx T p = pa_sk tx T p2) : pa_ed tx T p = pa_ed tx T p2 := by rw [← pa_ed_sk, h, pa_ed_sk]
theorem pa_lf_c (h : pa_sk tx T p = pa_sk tx T p2) : pa_lf tx T p = pa_lf tx T p2 := by rw [← pa_lf_sk, h, pa_lf_sk]
theorem pa_nm_c (h : pa_sk tx T p = pa_sk tx T p2) : pa_nm tx T p = pa_nm tx T p2 := by rw [← pa_nm_sk, h, pa_nm_sk]
theorem pa_kd_c (h : pa_sk tx T p = pa_sk tx T p2) : pa_kd tx T p = pa_kd tx T p2 ∧ pa_wg tx T p = pa_wg tx T p2 := by
  unfold pa_kd pa_wg
  rw [pa_lf_c h, pa_tk_c h, h]
  exact ⟨rfl, rfl⟩
theorem rdK_n {ce : Nat} {cd : Nat → Int32} (h : pa_lf tx T p = none) : rdK tx T I p nm gn ce cd = rdT tx T I p nm gn ce cd := by
  unfold rdK rdT
  rw [(pa_kd_n h).1, (pa_kd_n h).2]
theorem rdK_s {ce f : Nat} {cd : Nat → Int32} (h : pa_lf tx T p = some f) (hc : ce ≤ 800) : rdE 1 f I (rdK tx T I p nm gn ce cd) := by
  unfold rdK
  rw [(pa_kd_s h).1, (pa_kd_s h).2]
  exact ⟨_, _, _, _, _, _, _, _, hc, ⟨⟨by decide, by decide⟩, Or.inr ⟨rfl, rfl, rfl, rfl⟩⟩, rfl⟩
end RE
theorem pa_tk_lt {b : Nat → Nat} {n : Nat} (p : Nat) : pa_tk b n p < 40 := by
  unfold pa_tk
  simp only
  split
  · split
    · unfold pa_wtk; split <;> omega
    · split
      · omega
      · unfold pa_sgn; split <;> omega
  · omega
theorem pa_ed_le {b : Nat → Nat} {n p : Nat} (h : p ≤ n) : pa_ed b n p ≤ n ∧ p ≤ pa_ed b n p := by
  by_cases e : pa_tk b n p = 38
  · have hs := pa_sk_le (b := b) h
    have hg := pa_sk_ge (b := b) (n := n) p
    unfold pa_ed
    by_cases c : pa_sk b n p < n
    · exfalso
      unfold pa_tk at e
      simp only [if_pos c] at e
      split at e
      · unfold pa_wtk at e; split at e <;> omega
      · split at e
        · omega
        · unfold pa_sgn at e; split at e <;> omega
    · simp only [if_neg c]
      omega
  · have := pa_ed_gt e
    omega
theorem nI_eqI {a b : Nat} (ha : a < 2 ^ 31) (hb : b < 2 ^ 31) : nI a = nI b ↔ a = b := nI_eq0 ha hb
theorem ev_r_fail0 {d n sl : Nat} {kk : Nat → Nat × Nat} {I : Nat → Nat → Int32} {L : Nat → Nat → Int64} {q : Nat → Nat → Option Nat} {xs xw xt xm xg xl xc : Int32} {cd : Nat → Int32} {x y : Int32}  : am_Ev (d) 80 0 (am_ent 3 [.ref 57, .int x, .int y]) [] (n, sl, wKK kk, (rdI I xs xw xt xm xg 0 xl xc cd), L, wQQ q) (none, (n, sl, wKK kk, (rdI I xs xw 39 xm xg x y xc cd), L, wQQ q)) := by
  refine tv_ev ?_
  show am_T _ _ 0 [some (.ref 57), some (.int x), some (.int y)] _ _ _
  refine tv_b (pc' := 12) (ls' := [some (.ref 57), some (.int x), some (.int y)]) (st' := []) (h' := (n, sl, wKK kk, va_up (rdI I xs xw xt xm xg 0 xl xc cd) 57 (upd ((rdI I xs xw xt xm xg 0 xl xc cd) 57) 12 x), L, wQQ q)) 6 rfl ?_
  refine tv_hI rdI_w_xf ?_
  refine tv_b (pc' := 17) (ls' := [some (.ref 57), some (.int x), some (.int y)]) (st' := []) (h' := (n, sl, wKK kk, va_up (rdI I xs xw xt xm xg x xl xc cd) 57 (upd ((rdI I xs xw xt xm xg x xl xc cd) 57) 13 y), L, wQQ q)) 3 rfl ?_
  refine tv_hI rdI_w_xl ?_
  refine tv_b (pc' := 23) (ls' := [some (.ref 57), some (.int x), some (.int y)]) (st' := []) (h' := (n, sl, wKK kk, va_up (rdI I xs xw xt xm xg x y xc cd) 57 (upd ((rdI I xs xw xt xm xg x y xc cd) 57) 7 39), L, wQQ q)) 3 rfl ?_
  refine tv_hI rdI_w_xt ?_
  exact tv_rv rfl ⟨rfl, rfl⟩
theorem ev_r_failF {d n sl : Nat} {kk : Nat → Nat × Nat} {I : Nat → Nat → Int32} {L : Nat → Nat → Int64} {q : Nat → Nat → Option Nat} {xs xw xt xm xg xf xl xc : Int32} {cd : Nat → Int32} {x y : Int32} (hf : ¬ xf = 0) : am_Ev (d) 80 0 (am_ent 3 [.ref 57, .int x, .int y]) [] (n, sl, wKK kk, (rdI I xs xw xt xm xg xf xl xc cd), L, wQQ q) (none, (n, sl, wKK kk, (rdI I xs xw 39 xm xg xf xl xc cd), L, wQQ q)) := by
  refine tv_ev ?_
  show am_T _ _ 0 [some (.ref 57), some (.int x), some (.int y)] _ _ _
  refine tv_b (pc' := (if xf = 0 then 7 else 17)) (ls' := [some (.ref 57), some (.int x), some (.int y)]) (st' := []) (h' := (n, sl, wKK kk, (rdI I xs xw xt xm xg xf xl xc cd), L, wQQ q)) 3 rfl ?_
  refine tv_f (hf) ?_
  refine tv_b (pc' := 23) (ls' := [some (.ref 57), some (.int x), some (.int y)]) (st' := []) (h' := (n, sl, wKK kk, va_up (rdI I xs xw xt xm xg xf xl xc cd) 57 (upd ((rdI I xs xw xt xm xg xf xl xc cd) 57) 7 39), L, wQQ q)) 3 rfl ?_
  refine tv_hI rdI_w_xt ?_
  exact tv_rv rfl ⟨rfl, rfl⟩
theorem ev_r_nextF {d n sl : Nat} {kk : Nat → Nat × Nat} {I : Nat → Nat → Int32} {L : Nat → Nat → Int64} {q : Nat → Nat → Option Nat} {xs xw xt xm xg xf xl xc : Int32} {cd : Nat → Int32} (hf : ¬ xf = 0) : am_Ev (d) 83 0 (am_ent 1 [.ref 57]) [] (n, sl, wKK kk, (rdI I xs xw xt xm xg xf xl xc cd), L, wQQ q) (none, (n, sl, wKK kk, (rdI I xs xw xt xm xg xf xl xc cd), L, wQQ q)) := by
  refine tv_ev ?_
  show am_T _ _ 0 [some (.ref 57)] _ _ _
  refine tv_b (pc' := (if xf = 0 then 7 else 97)) (ls' := [some (.ref 57)]) (st' := []) (h' := (n, sl, wKK kk, (rdI I xs xw xt xm xg xf xl xc cd), L, wQQ q)) 3 rfl ?_
  refine tv_f (hf) ?_
  exact tv_rv rfl ⟨rfl, rfl⟩
theorem ev_r_nextG {d n sl : Nat} {kk : Nat → Nat × Nat} {I : Nat → Nat → Int32} {L : Nat → Nat → Int64} {q : Nat → Nat → Option Nat} {xs xw xt xm xl xc : Int32} {cd : Nat → Int32} {tx : Nat → Nat} {T G g : Nat} (hG : rdG tx T G I) (hg : g ≤ G) : am_Ev (d) 83 0 (am_ent 1 [.ref 57]) [] (n, sl, wKK kk, (rdI I xs xw xt xm (nI g) 0 xl xc cd), L, wQQ q) (none, (n, sl, wKK kk, (rdI I (I 128 g) (I 129 g) (I 127 g) (I 130 g) (nI (g + 1)) 0 xl xc cd), L, wQQ q)) := by
  have hT := hG.2.2.1
  refine tv_ev ?_
  show am_T _ _ 0 [some (.ref 57)] _ _ _
  refine tv_b (pc' := (if (nI g) < 0 then 97 else 14)) (ls' := [some (.ref 57)]) (st' := []) (h' := (n, sl, wKK kk, (rdI I xs xw xt xm (nI g) 0 xl xc cd), L, wQQ q)) 6 rfl ?_
  refine tv_f (fun hq => absurd ((nI_ltI (a := g) (b := 0) (by omega) (by omega)).mp hq) (by omega)) ?_
  refine tv_b (pc' := 22) (ls' := [some (.ref 57)]) (st' := [.int (I 57 6), .int (nI g)]) (h' := (n, sl, wKK kk, (rdI I xs xw xt xm (nI g) 0 xl xc cd), L, wQQ q)) 4 rfl ?_
  refine tv_top (hG.1) ?_
  refine tv_b (pc' := (if (nI (G + 1)) ≤ (nI g) then 97 else 25)) (ls' := [some (.ref 57)]) (st' := []) (h' := (n, sl, wKK kk, (rdI I xs xw xt xm (nI g) 0 xl xc cd), L, wQQ q)) 1 rfl ?_
  refine tv_f (fun hq => absurd ((nI_leI (a := (G + 1)) (b := g) (by omega) (by omega)).mp hq) (by omega)) ?_
  refine tv_b (pc' := (if 800 < (nI g) then 97 else 35)) (ls' := [some (.ref 57)]) (st' := []) (h' := (n, sl, wKK kk, (rdI I xs xw xt xm (nI g) 0 xl xc cd), L, wQQ q)) 4 rfl ?_
  refine tv_f (fun hq => absurd ((nI_ltI (a := 800) (b := g) (by omega) (by omega)).mp hq) (by omega)) ?_
  refine tv_b (pc' := 44) (ls' := [some (.ref 57)]) (st' := [.int (nI g), .ref 127, .ref 57]) (h' := (n, sl, wKK kk, (rdI I xs xw xt xm (nI g) 0 xl xc cd), L, wQQ q)) 5 rfl ?_
  refine tv_ialN (k := g) rfl (rfl) (⟨by omega, by omega⟩) ?_
  refine tv_b (pc' := 48) (ls' := [some (.ref 57)]) (st' := []) (h' := (n, sl, wKK kk, va_up (rdI I xs xw xt xm (nI g) 0 xl xc cd) 57 (upd ((rdI I xs xw xt xm (nI g) 0 xl xc cd) 57) 7 (I 127 g)), L, wQQ q)) 1 rfl ?_
  refine tv_hI rdI_w_xt ?_
  refine tv_b (pc' := 57) (ls' := [some (.ref 57)]) (st' := [.int (nI g), .ref 128, .ref 57]) (h' := (n, sl, wKK kk, (rdI I xs xw (I 127 g) xm (nI g) 0 xl xc cd), L, wQQ q)) 5 rfl ?_
  refine tv_ialN (k := g) rfl (rfl) (⟨by omega, by omega⟩) ?_
  refine tv_b (pc' := 61) (ls' := [some (.ref 57)]) (st' := []) (h' := (n, sl, wKK kk, va_up (rdI I xs xw (I 127 g) xm (nI g) 0 xl xc cd) 57 (upd ((rdI I xs xw (I 127 g) xm (nI g) 0 xl xc cd) 57) 8 (I 128 g)), L, wQQ q)) 1 rfl ?_
  refine tv_hI rdI_w_xs ?_
  refine tv_b (pc' := 70) (ls' := [some (.ref 57)]) (st' := [.int (nI g), .ref 129, .ref 57]) (h' := (n, sl, wKK kk, (rdI I (I 128 g) xw (I 127 g) xm (nI g) 0 xl xc cd), L, wQQ q)) 5 rfl ?_
  refine tv_ialN (k := g) rfl (rfl) (⟨by omega, by omega⟩) ?_
  refine tv_b (pc' := 74) (ls' := [some (.ref 57)]) (st' := []) (h' := (n, sl, wKK kk, va_up (rdI I (I 128 g) xw (I 127 g) xm (nI g) 0 xl xc cd) 57 (upd ((rdI I (I 128 g) xw (I 127 g) xm (nI g) 0 xl xc cd) 57) 9 (I 129 g)), L, wQQ q)) 1 rfl ?_
  refine tv_hI rdI_w_xw ?_
  refine tv_b (pc' := 83) (ls' := [some (.ref 57)]) (st' := [.int (nI g), .ref 130, .ref 57]) (h' := (n, sl, wKK kk, (rdI I (I 128 g) (I 129 g) (I 127 g) xm (nI g) 0 xl xc cd), L, wQQ q)) 5 rfl ?_
  refine tv_ialN (k := g) rfl (rfl) (⟨by omega, by omega⟩) ?_
  refine tv_b (pc' := 87) (ls' := [some (.ref 57)]) (st' := []) (h' := (n, sl, wKK kk, va_up (rdI I (I 128 g) (I 129 g) (I 127 g) xm (nI g) 0 xl xc cd) 57 (upd ((rdI I (I 128 g) (I 129 g) (I 127 g) xm (nI g) 0 xl xc cd) 57) 10 (I 130 g)), L, wQQ q)) 1 rfl ?_
  refine tv_hI rdI_w_xm ?_
  refine tv_b (pc' := 93) (ls' := [some (.ref 57)]) (st' := [.int 1, .int (nI g), .ref 57]) (h' := (n, sl, wKK kk, (rdI I (I 128 g) (I 129 g) (I 127 g) (I 130 g) (nI g) 0 xl xc cd), L, wQQ q)) 4 rfl ?_
  refine tv_b (pc' := 94) (ls' := [some (.ref 57)]) (st' := [.int ((nI g) + 1), .ref 57]) (h' := (n, sl, wKK kk, (rdI I (I 128 g) (I 129 g) (I 127 g) (I 130 g) (nI g) 0 xl xc cd), L, wQQ q)) 1 rfl ?_
  refine tv_top (show (nI g) + 1 = nI (g + 1) from nI_add g 1) ?_
  refine tv_b (pc' := 97) (ls' := [some (.ref 57)]) (st' := []) (h' := (n, sl, wKK kk, va_up (rdI I (I 128 g) (I 129 g) (I 127 g) (I 130 g) (nI g) 0 xl xc cd) 57 (upd ((rdI I (I 128 g) (I 129 g) (I 127 g) (I 130 g) (nI g) 0 xl xc cd) 57) 11 (nI (g + 1))), L, wQQ q)) 1 rfl ?_
  refine tv_hI rdI_w_xg ?_
  exact tv_rv rfl ⟨rfl, rfl⟩
theorem ev_r_nextX {d n sl : Nat} {kk : Nat → Nat × Nat} {I : Nat → Nat → Int32} {L : Nat → Nat → Int64} {q : Nat → Nat → Option Nat} {xs xw xt xm xl xc : Int32} {cd : Nat → Int32} {tx : Nat → Nat} {T G : Nat} (hG : rdG tx T G I) : am_Ev (d) 83 0 (am_ent 1 [.ref 57]) [] (n, sl, wKK kk, (rdI I xs xw xt xm (nI (G + 1)) 0 xl xc cd), L, wQQ q) (none, (n, sl, wKK kk, (rdI I xs xw xt xm (nI (G + 1)) 0 xl xc cd), L, wQQ q)) := by
  have hT := hG.2.2.1
  refine tv_ev ?_
  show am_T _ _ 0 [some (.ref 57)] _ _ _
  refine tv_b (pc' := (if (nI (G + 1)) < 0 then 97 else 14)) (ls' := [some (.ref 57)]) (st' := []) (h' := (n, sl, wKK kk, (rdI I xs xw xt xm (nI (G + 1)) 0 xl xc cd), L, wQQ q)) 6 rfl ?_
  refine tv_f (fun hq => absurd ((nI_ltI (a := (G + 1)) (b := 0) (by omega) (by omega)).mp hq) (by omega)) ?_
  refine tv_b (pc' := 22) (ls' := [some (.ref 57)]) (st' := [.int (I 57 6), .int (nI (G + 1))]) (h' := (n, sl, wKK kk, (rdI I xs xw xt xm (nI (G + 1)) 0 xl xc cd), L, wQQ q)) 4 rfl ?_
  refine tv_top (hG.1) ?_
  refine tv_b (pc' := (if (nI (G + 1)) ≤ (nI (G + 1)) then 97 else 25)) (ls' := [some (.ref 57)]) (st' := []) (h' := (n, sl, wKK kk, (rdI I xs xw xt xm (nI (G + 1)) 0 xl xc cd), L, wQQ q)) 1 rfl ?_
  refine tv_t ((nI_leI (a := (G + 1)) (b := (G + 1)) (by omega) (by omega)).mpr (by omega)) ?_
  exact tv_rv rfl ⟨rfl, rfl⟩
theorem ev_r_emit {d n sl : Nat} {kk : Nat → Nat × Nat} {I : Nat → Nat → Int32} {L : Nat → Nat → Int64} {q : Nat → Nat → Option Nat} {xs xw xt xm xg xl : Int32} {cd : Nat → Int32} {x : Int32} {ce : Nat} (hc : ce < 800) : am_Ev (d) 81 0 (am_ent 2 [.ref 57, .int x]) [] (n, sl, wKK kk, (rdI I xs xw xt xm xg 0 xl (nI ce) cd), L, wQQ q) (none, (n, sl, wKK kk, (rdI I xs xw xt xm xg 0 xl (nI (ce + 1)) (upd cd ce x)), L, wQQ q)) := by
  refine tv_ev ?_
  show am_T _ _ 0 [some (.ref 57), some (.int x)] _ _ _
  refine tv_b (pc' := (if 800 ≤ (nI ce) then 37 else 17)) (ls' := [some (.ref 57), some (.int x)]) (st' := []) (h' := (n, sl, wKK kk, (rdI I xs xw xt xm xg 0 xl (nI ce) cd), L, wQQ q)) 7 rfl ?_
  refine tv_f (fun hq => absurd ((nI_leI (a := 800) (b := ce) (by omega) (by omega)).mp hq) (by omega)) ?_
  refine tv_b (pc' := 26) (ls' := [some (.ref 57), some (.int x)]) (st' := [.int x, .int (nI ce), .ref 59]) (h' := (n, sl, wKK kk, (rdI I xs xw xt xm xg 0 xl (nI ce) cd), L, wQQ q)) 5 rfl ?_
  refine tv_iasN (k := ce) rfl (rfl) (⟨by omega, by omega⟩) ?_
  refine tv_hI rdI_w_cd ?_
  refine tv_b (pc' := 33) (ls' := [some (.ref 57), some (.int x)]) (st' := [.int 1, .int (nI ce), .ref 57]) (h' := (n, sl, wKK kk, (rdI I xs xw xt xm xg 0 xl (nI ce) (upd cd ce x)), L, wQQ q)) 4 rfl ?_
  refine tv_b (pc' := 34) (ls' := [some (.ref 57), some (.int x)]) (st' := [.int ((nI ce) + 1), .ref 57]) (h' := (n, sl, wKK kk, (rdI I xs xw xt xm xg 0 xl (nI ce) (upd cd ce x)), L, wQQ q)) 1 rfl ?_
  refine tv_top (show (nI ce) + 1 = nI (ce + 1) from nI_add ce 1) ?_
  refine tv_b (pc' := 37) (ls' := [some (.ref 57), some (.int x)]) (st' := []) (h' := (n, sl, wKK kk, va_up (rdI I xs xw xt xm xg 0 xl (nI ce) (upd cd ce x)) 57 (upd ((rdI I xs xw xt xm xg 0 xl (nI ce) (upd cd ce x)) 57) 15 (nI (ce + 1))), L, wQQ q)) 1 rfl ?_
  refine tv_hI rdI_w_xc ?_
  exact tv_rv rfl ⟨rfl, rfl⟩
theorem ev_r_emit8 {d n sl : Nat} {kk : Nat → Nat × Nat} {I : Nat → Nat → Int32} {L : Nat → Nat → Int64} {q : Nat → Nat → Option Nat} {xs xw xt xm xg xl : Int32} {cd : Nat → Int32} {x : Int32} {ce : Nat} (hc : ce = 800) : am_Ev (d) 81 0 (am_ent 2 [.ref 57, .int x]) [] (n, sl, wKK kk, (rdI I xs xw xt xm xg 0 xl (nI ce) cd), L, wQQ q) (none, (n, sl, wKK kk, (rdI I xs xw xt xm xg 0 xl (nI ce) cd), L, wQQ q)) := by
  refine tv_ev ?_
  show am_T _ _ 0 [some (.ref 57), some (.int x)] _ _ _
  refine tv_b (pc' := (if 800 ≤ (nI ce) then 37 else 17)) (ls' := [some (.ref 57), some (.int x)]) (st' := []) (h' := (n, sl, wKK kk, (rdI I xs xw xt xm xg 0 xl (nI ce) cd), L, wQQ q)) 7 rfl ?_
  refine tv_t ((nI_leI (a := 800) (b := ce) (by omega) (by omega)).mpr (by omega)) ?_
  exact tv_rv rfl ⟨rfl, rfl⟩
theorem ev_r_emitF {d n sl : Nat} {kk : Nat → Nat × Nat} {I : Nat → Nat → Int32} {L : Nat → Nat → Int64} {q : Nat → Nat → Option Nat} {xs xw xt xm xg xf xl xc : Int32} {cd : Nat → Int32} {x : Int32} (hf : ¬ xf = 0) : am_Ev (d) 81 0 (am_ent 2 [.ref 57, .int x]) [] (n, sl, wKK kk, (rdI I xs xw xt xm xg xf xl xc cd), L, wQQ q) (none, (n, sl, wKK kk, (rdI I xs xw xt xm xg xf xl xc cd), L, wQQ q)) := by
  refine tv_ev ?_
  show am_T _ _ 0 [some (.ref 57), some (.int x)] _ _ _
  refine tv_b (pc' := (if xf = 0 then 7 else 37)) (ls' := [some (.ref 57), some (.int x)]) (st' := []) (h' := (n, sl, wKK kk, (rdI I xs xw xt xm xg xf xl xc cd), L, wQQ q)) 3 rfl ?_
  refine tv_f (hf) ?_
  exact tv_rv rfl ⟨rfl, rfl⟩
theorem ev_r_failE {d n sl : Nat} {kk : Nat → Nat × Nat} {I : Nat → Nat → Int32} {L : Nat → Nat → Int64} {q : Nat → Nat → Option Nat} {xs xw xm xg xf xl xc : Int32} {cd : Nat → Int32} {k l : Nat} (hk : rdP k l xw xf xl) : am_Ev d 80 0 (am_ent 3 [.ref 57, .int 1, .int xw]) [] (n, sl, wKK kk, (rdI I xs xw 39 xm xg xf xl xc cd), L, wQQ q) (none, (n, sl, wKK kk, (rdI I xs xw 39 xm xg (nI k) (nI l) xc cd), L, wQQ q)) := by
  obtain ⟨h5, ⟨rfl, rfl⟩ | ⟨rfl, rfl, rfl, rfl⟩⟩ := hk
  · exact ev_r_failF (rd_k ⟨h5, Or.inl ⟨rfl, rfl⟩⟩ (w := 0) (l := l) (xf := nI k) (xl := nI l))
  · exact ev_r_fail0
theorem tv_r_emitE {d n sl : Nat} {kk : Nat → Nat × Nat} {I : Nat → Nat → Int32} {L : Nat → Nat → Int64} {q : Nat → Nat → Option Nat} {xs xw xm xg xf xl : Int32} {cd : Nat → Int32} {k l : Nat} {x : Int32} {c : Nat} (hk : rdP k l xw xf xl) (hc : c ≤ 800) : am_T d 81 0 (am_ent 2 [.ref 57, .int x]) [] (n, sl, wKK kk, (rdI I xs xw 39 xm xg xf xl (nI c) cd), L, wQQ q) (fun rv h' => rv = none ∧ ∃ c' cd', c' ≤ 800 ∧ h' = (n, sl, wKK kk, (rdI I xs xw 39 xm xg xf xl (nI c') cd'), L, wQQ q)) := by
  obtain ⟨h5, ⟨rfl, rfl⟩ | ⟨rfl, rfl, rfl, rfl⟩⟩ := hk
  · exact tv_e (ev_r_emitF (rd_k ⟨h5, Or.inl ⟨rfl, rfl⟩⟩ (w := 0) (l := l) (xf := nI k) (xl := nI l))) ⟨rfl, c, cd, hc, rfl⟩
  · by_cases h8 : c < 800
    · exact tv_e (ev_r_emit h8) ⟨rfl, c + 1, _, h8, rfl⟩
    · exact tv_e (ev_r_emit8 (by omega)) ⟨rfl, c, cd, hc, rfl⟩
theorem ev_r_expectE {d n sl : Nat} {kk : Nat → Nat × Nat} {I : Nat → Nat → Int32} {L : Nat → Nat → Int64} {q : Nat → Nat → Option Nat} {xs xw xm xg xf xl xc : Int32} {cd : Nat → Int32} {k l : Nat} (hk : rdP k l xw xf xl) : am_Ev (d + 1) 79 0 (am_ent 2 [.ref 57, .int 0]) [] (n, sl, wKK kk, (rdI I xs xw 39 xm xg xf xl xc cd), L, wQQ q) (none, (n, sl, wKK kk, (rdI I xs xw 39 xm xg (nI k) (nI l) xc cd), L, wQQ q)) := by
  refine tv_ev ?_
  show am_T _ _ 0 [some (.ref 57), some (.int 0)] _ _ _
  refine tv_b (pc' := 10) (ls' := [some (.ref 57), some (.int 0)]) (st' := [.int xw, .int 1, .ref 57]) (h' := (n, sl, wKK kk, (rdI I xs xw 39 xm xg xf xl xc cd), L, wQQ q)) 6 rfl ?_
  refine tv_cvE [.int 1, .int xw] [] rfl rfl (by omega) rfl (Nat.le_of_ble_eq_true rfl) (Nat.le_of_ble_eq_true rfl) (Or.inr (Or.inr rfl)) (ev_r_failE hk) ?_
  refine tv_b (pc' := 14) (ls' := [some (.ref 57), some (.int 0)]) (st' := [.ref 57]) (h' := (n, sl, wKK kk, (rdI I xs xw 39 xm xg (nI k) (nI l) xc cd), L, wQQ q)) 1 rfl ?_
  refine tv_cvE [] [] rfl rfl (by omega) rfl (Nat.le_of_ble_eq_true rfl) (Nat.le_of_ble_eq_true rfl) (Or.inr (Or.inr rfl)) (ev_r_nextF (rd_k (rd_F hk))) ?_
  exact tv_rv rfl ⟨rfl, rfl⟩
theorem ev_r_opensE32 {d n sl : Nat} {kk : Nat → Nat × Nat} {I : Nat → Nat → Int32} {L : Nat → Nat → Int64} {q : Nat → Nat → Option Nat} {xs xw xm xg xf xl xc : Int32} {cd : Nat → Int32} {k l : Nat} {x : Int32} (hk : rdP k l xw xf xl) : am_Ev (d + 1) 78 0 (am_ent 3 [.ref 57, .int 32, .int x]) [] (n, sl, wKK kk, (rdI I xs xw 39 xm xg xf xl xc cd), L, wQQ q) (some (.int 0), (n, sl, wKK kk, (rdI I xs xw 39 xm xg (nI k) (nI l) xc cd), L, wQQ q)) := by
  refine tv_ev ?_
  show am_T _ _ 0 [some (.ref 57), some (.int 32), some (.int x)] _ _ _
  refine tv_b (pc' := 14) (ls' := [some (.ref 57), some (.int 32), some (.int x)]) (st' := [.int xw, .int 1, .ref 57]) (h' := (n, sl, wKK kk, (rdI I xs xw 39 xm xg xf xl xc cd), L, wQQ q)) 8 rfl ?_
  refine tv_cvE [.int 1, .int xw] [] rfl rfl (by omega) rfl (Nat.le_of_ble_eq_true rfl) (Nat.le_of_ble_eq_true rfl) (Or.inr (Or.inr rfl)) (ev_r_failE hk) ?_
  refine tv_b (pc' := 36) (ls' := [some (.ref 57), some (.int 32), some (.int x)]) (st' := [.ref 57]) (h' := (n, sl, wKK kk, (rdI I xs xw 39 xm xg (nI k) (nI l) xc cd), L, wQQ q)) 2 rfl ?_
  refine tv_cvE [] [] rfl rfl (by omega) rfl (Nat.le_of_ble_eq_true rfl) (Nat.le_of_ble_eq_true rfl) (Or.inr (Or.inr rfl)) (ev_r_nextF (rd_k (rd_F hk))) ?_
  refine tv_b (pc' := (if (nI k) = 0 then 46 else 50)) (ls' := [some (.ref 57), some (.int 32), some (.int x)]) (st' := []) (h' := (n, sl, wKK kk, (rdI I xs xw 39 xm xg (nI k) (nI l) xc cd), L, wQQ q)) 3 rfl ?_
  refine tv_f (rd_k hk) ?_
  refine tv_b (pc' := 51) (ls' := [some (.ref 57), some (.int 32), some (.int x)]) (st' := [.int 0]) (h' := (n, sl, wKK kk, (rdI I xs xw 39 xm xg (nI k) (nI l) xc cd), L, wQQ q)) 1 rfl ?_
  exact tv_rz rfl (Or.inl rfl) ⟨rfl, rfl⟩
theorem ev_r_opensE34 {d n sl : Nat} {kk : Nat → Nat × Nat} {I : Nat → Nat → Int32} {L : Nat → Nat → Int64} {q : Nat → Nat → Option Nat} {xs xw xm xg xf xl xc : Int32} {cd : Nat → Int32} {k l : Nat} {x : Int32} (hk : rdP k l xw xf xl) : am_Ev (d + 1) 78 0 (am_ent 3 [.ref 57, .int 34, .int x]) [] (n, sl, wKK kk, (rdI I xs xw 39 xm xg xf xl xc cd), L, wQQ q) (some (.int 0), (n, sl, wKK kk, (rdI I xs xw 39 xm xg (nI k) (nI l) xc cd), L, wQQ q)) := by
  refine tv_ev ?_
  show am_T _ _ 0 [some (.ref 57), some (.int 34), some (.int x)] _ _ _
  refine tv_b (pc' := 14) (ls' := [some (.ref 57), some (.int 34), some (.int x)]) (st' := [.int xw, .int 1, .ref 57]) (h' := (n, sl, wKK kk, (rdI I xs xw 39 xm xg xf xl xc cd), L, wQQ q)) 8 rfl ?_
  refine tv_cvE [.int 1, .int xw] [] rfl rfl (by omega) rfl (Nat.le_of_ble_eq_true rfl) (Nat.le_of_ble_eq_true rfl) (Or.inr (Or.inr rfl)) (ev_r_failE hk) ?_
  refine tv_b (pc' := 36) (ls' := [some (.ref 57), some (.int 34), some (.int x)]) (st' := [.ref 57]) (h' := (n, sl, wKK kk, (rdI I xs xw 39 xm xg (nI k) (nI l) xc cd), L, wQQ q)) 2 rfl ?_
  refine tv_cvE [] [] rfl rfl (by omega) rfl (Nat.le_of_ble_eq_true rfl) (Nat.le_of_ble_eq_true rfl) (Or.inr (Or.inr rfl)) (ev_r_nextF (rd_k (rd_F hk))) ?_
  refine tv_b (pc' := (if (nI k) = 0 then 46 else 50)) (ls' := [some (.ref 57), some (.int 34), some (.int x)]) (st' := []) (h' := (n, sl, wKK kk, (rdI I xs xw 39 xm xg (nI k) (nI l) xc cd), L, wQQ q)) 3 rfl ?_
  refine tv_f (rd_k hk) ?_
  refine tv_b (pc' := 51) (ls' := [some (.ref 57), some (.int 34), some (.int x)]) (st' := [.int 0]) (h' := (n, sl, wKK kk, (rdI I xs xw 39 xm xg (nI k) (nI l) xc cd), L, wQQ q)) 1 rfl ?_
  exact tv_rz rfl (Or.inl rfl) ⟨rfl, rfl⟩
theorem ev_r_partE {d n sl : Nat} {kk : Nat → Nat × Nat} {I : Nat → Nat → Int32} {L : Nat → Nat → Int64} {q : Nat → Nat → Option Nat} {xs xw xm xg xf xl xc : Int32} {cd : Nat → Int32} {k l : Nat} {x : Int32} (hk : rdP k l xw xf xl) : am_Ev (d + 1) 77 0 (am_ent 4 [.ref 57, .int x]) [] (n, sl, wKK kk, (rdI I xs xw 39 xm xg xf xl xc cd), L, wQQ q) (none, (n, sl, wKK kk, (rdI I xs xw 39 xm xg (nI k) (nI l) xc cd), L, wQQ q)) := by
  refine tv_ev ?_
  show am_T _ _ 0 [some (.ref 57), some (.int x), none, none] _ _ _
  refine tv_b (pc' := 265) (ls' := [some (.ref 57), some (.int x), some (.int 39), none]) (st' := [.int xw, .int 1, .ref 57]) (h' := (n, sl, wKK kk, (rdI I xs xw 39 xm xg xf xl xc cd), L, wQQ q)) 28 rfl ?_
  refine tv_cvE [.int 1, .int xw] [] rfl rfl (by omega) rfl (Nat.le_of_ble_eq_true rfl) (Nat.le_of_ble_eq_true rfl) (Or.inr (Or.inr rfl)) (ev_r_failE hk) ?_
  exact tv_rv rfl ⟨rfl, rfl⟩
theorem ev_r_productE {d n sl : Nat} {kk : Nat → Nat × Nat} {I : Nat → Nat → Int32} {L : Nat → Nat → Int64} {q : Nat → Nat → Option Nat} {xs xw xm xg xf xl xc : Int32} {cd : Nat → Int32} {k l : Nat} {x : Int32} (hk : rdP k l xw xf xl) : am_Ev (d + 2) 76 0 (am_ent 4 [.ref 57, .int x]) [] (n, sl, wKK kk, (rdI I xs xw 39 xm xg xf xl xc cd), L, wQQ q) (none, (n, sl, wKK kk, (rdI I xs xw 39 xm xg (nI k) (nI l) xc cd), L, wQQ q)) := by
  refine tv_ev ?_
  show am_T _ _ 0 [some (.ref 57), some (.int x), none, none] _ _ _
  refine tv_b (pc' := 2) (ls' := [some (.ref 57), some (.int x), none, none]) (st' := [.int x, .ref 57]) (h' := (n, sl, wKK kk, (rdI I xs xw 39 xm xg xf xl xc cd), L, wQQ q)) 2 rfl ?_
  refine tv_cvE [.int x] [] rfl rfl (by omega) rfl (Nat.le_of_ble_eq_true rfl) (Nat.le_of_ble_eq_true rfl) (Or.inr (Or.inr rfl)) (ev_r_partE hk) ?_
  refine tv_b (pc' := 57) (ls' := [some (.ref 57), some (.int x), some (.int 0), none]) (st' := []) (h' := (n, sl, wKK kk, (rdI I xs xw 39 xm xg (nI k) (nI l) xc cd), L, wQQ q)) 13 rfl ?_
  exact tv_rv rfl ⟨rfl, rfl⟩
theorem ev_r_sumE {d n sl : Nat} {kk : Nat → Nat × Nat} {I : Nat → Nat → Int32} {L : Nat → Nat → Int64} {q : Nat → Nat → Option Nat} {xs xw xm xg xf xl xc : Int32} {cd : Nat → Int32} {k l : Nat} {x : Int32} (hk : rdP k l xw xf xl) : am_Ev (d + 3) 75 0 (am_ent 4 [.ref 57, .int x]) [] (n, sl, wKK kk, (rdI I xs xw 39 xm xg xf xl xc cd), L, wQQ q) (none, (n, sl, wKK kk, (rdI I xs xw 39 xm xg (nI k) (nI l) xc cd), L, wQQ q)) := by
  refine tv_ev ?_
  show am_T _ _ 0 [some (.ref 57), some (.int x), none, none] _ _ _
  refine tv_b (pc' := 2) (ls' := [some (.ref 57), some (.int x), none, none]) (st' := [.int x, .ref 57]) (h' := (n, sl, wKK kk, (rdI I xs xw 39 xm xg xf xl xc cd), L, wQQ q)) 2 rfl ?_
  refine tv_cvE [.int x] [] rfl rfl (by omega) rfl (Nat.le_of_ble_eq_true rfl) (Nat.le_of_ble_eq_true rfl) (Or.inr (Or.inr rfl)) (ev_r_productE hk) ?_
  refine tv_b (pc' := 57) (ls' := [some (.ref 57), some (.int x), some (.int 0), none]) (st' := []) (h' := (n, sl, wKK kk, (rdI I xs xw 39 xm xg (nI k) (nI l) xc cd), L, wQQ q)) 13 rfl ?_
  exact tv_rv rfl ⟨rfl, rfl⟩
theorem ev_r_comparisonE {d n sl : Nat} {kk : Nat → Nat × Nat} {I : Nat → Nat → Int32} {L : Nat → Nat → Int64} {q : Nat → Nat → Option Nat} {xs xw xm xg xf xl xc : Int32} {cd : Nat → Int32} {k l : Nat} {x : Int32} (hk : rdP k l xw xf xl) : am_Ev (d + 4) 74 0 (am_ent 3 [.ref 57, .int x]) [] (n, sl, wKK kk, (rdI I xs xw 39 xm xg xf xl xc cd), L, wQQ q) (none, (n, sl, wKK kk, (rdI I xs xw 39 xm xg (nI k) (nI l) xc cd), L, wQQ q)) := by
  refine tv_ev ?_
  show am_T _ _ 0 [some (.ref 57), some (.int x), none] _ _ _
  refine tv_b (pc' := 2) (ls' := [some (.ref 57), some (.int x), none]) (st' := [.int x, .ref 57]) (h' := (n, sl, wKK kk, (rdI I xs xw 39 xm xg xf xl xc cd), L, wQQ q)) 2 rfl ?_
  refine tv_cvE [.int x] [] rfl rfl (by omega) rfl (Nat.le_of_ble_eq_true rfl) (Nat.le_of_ble_eq_true rfl) (Or.inr (Or.inr rfl)) (ev_r_sumE hk) ?_
  refine tv_b (pc' := 34) (ls' := [some (.ref 57), some (.int x), some (.int 39)]) (st' := [.int 0, .ref 57]) (h' := (n, sl, wKK kk, (rdI I xs xw 39 xm xg (nI k) (nI l) xc cd), L, wQQ q)) 14 rfl ?_
  refine tv_cvE [.int 0] [] rfl rfl (by omega) rfl (Nat.le_of_ble_eq_true rfl) (Nat.le_of_ble_eq_true rfl) (Or.inr (Or.inr rfl)) (ev_r_expectE (rd_F hk)) ?_
  refine tv_b (pc' := 39) (ls' := [some (.ref 57), some (.int x), some (.int 39)]) (st' := [.int x, .ref 57]) (h' := (n, sl, wKK kk, (rdI I xs xw 39 xm xg (nI k) (nI l) xc cd), L, wQQ q)) 2 rfl ?_
  refine tv_cvE [.int x] [] rfl rfl (by omega) rfl (Nat.le_of_ble_eq_true rfl) (Nat.le_of_ble_eq_true rfl) (Or.inr (Or.inr rfl)) (ev_r_sumE (rd_F (rd_F hk))) ?_
  refine tv_b (pc' := 44) (ls' := [some (.ref 57), some (.int x), some (.int 39)]) (st' := [.int 39, .ref 57]) (h' := (n, sl, wKK kk, (rdI I xs xw 39 xm xg (nI k) (nI l) xc cd), L, wQQ q)) 2 rfl ?_
  refine tv_cvE [.int 39] [] rfl rfl (by omega) rfl (Nat.le_of_ble_eq_true rfl) (Nat.le_of_ble_eq_true rfl) (Or.inr (Or.inr rfl)) (ev_r_emitF (rd_k (rd_F (rd_F (rd_F hk))))) ?_
  exact tv_rv rfl ⟨rfl, rfl⟩
theorem ev_r_factE {d n sl : Nat} {kk : Nat → Nat × Nat} {I : Nat → Nat → Int32} {L : Nat → Nat → Int64} {q : Nat → Nat → Option Nat} {xs xw xm xg xf xl xc : Int32} {cd : Nat → Int32} {k l : Nat} {x : Int32} (hk : rdP k l xw xf xl) : am_Ev (d + 5) 73 0 (am_ent 4 [.ref 57, .int x]) [] (n, sl, wKK kk, (rdI I xs xw 39 xm xg xf xl xc cd), L, wQQ q) (none, (n, sl, wKK kk, (rdI I xs xw 39 xm xg (nI k) (nI l) xc cd), L, wQQ q)) := by
  refine tv_ev ?_
  show am_T _ _ 0 [some (.ref 57), some (.int x), none, none] _ _ _
  refine tv_b (pc' := 111) (ls' := [some (.ref 57), some (.int x), some (.int 0), some (.int 0)]) (st' := [.int x, .ref 57]) (h' := (n, sl, wKK kk, (rdI I xs xw 39 xm xg xf xl xc cd), L, wQQ q)) 21 rfl ?_
  refine tv_cvE [.int x] [] rfl rfl (by omega) rfl (Nat.le_of_ble_eq_true rfl) (Nat.le_of_ble_eq_true rfl) (Or.inr (Or.inr rfl)) (ev_r_comparisonE hk) ?_
  refine tv_b (pc' := 124) (ls' := [some (.ref 57), some (.int x), some (.int 0), some (.int 0)]) (st' := []) (h' := (n, sl, wKK kk, (rdI I xs xw 39 xm xg (nI k) (nI l) xc cd), L, wQQ q)) 2 rfl ?_
  exact tv_rv rfl ⟨rfl, rfl⟩
theorem ev_r_bothE {d n sl : Nat} {kk : Nat → Nat × Nat} {I : Nat → Nat → Int32} {L : Nat → Nat → Int64} {q : Nat → Nat → Option Nat} {xs xw xm xg xf xl xc : Int32} {cd : Nat → Int32} {k l : Nat} {x : Int32} (hk : rdP k l xw xf xl) : am_Ev (d + 6) 72 0 (am_ent 3 [.ref 57, .int x]) [] (n, sl, wKK kk, (rdI I xs xw 39 xm xg xf xl xc cd), L, wQQ q) (none, (n, sl, wKK kk, (rdI I xs xw 39 xm xg (nI k) (nI l) xc cd), L, wQQ q)) := by
  refine tv_ev ?_
  show am_T _ _ 0 [some (.ref 57), some (.int x), none] _ _ _
  refine tv_b (pc' := 2) (ls' := [some (.ref 57), some (.int x), none]) (st' := [.int x, .ref 57]) (h' := (n, sl, wKK kk, (rdI I xs xw 39 xm xg xf xl xc cd), L, wQQ q)) 2 rfl ?_
  refine tv_cvE [.int x] [] rfl rfl (by omega) rfl (Nat.le_of_ble_eq_true rfl) (Nat.le_of_ble_eq_true rfl) (Or.inr (Or.inr rfl)) (ev_r_factE hk) ?_
  refine tv_b (pc' := 44) (ls' := [some (.ref 57), some (.int x), some (.int 0)]) (st' := []) (h' := (n, sl, wKK kk, (rdI I xs xw 39 xm xg (nI k) (nI l) xc cd), L, wQQ q)) 9 rfl ?_
  exact tv_rv rfl ⟨rfl, rfl⟩
theorem ev_r_testE {d n sl : Nat} {kk : Nat → Nat × Nat} {I : Nat → Nat → Int32} {L : Nat → Nat → Int64} {q : Nat → Nat → Option Nat} {xs xw xm xg xf xl xc : Int32} {cd : Nat → Int32} {k l : Nat} {x : Int32} (hk : rdP k l xw xf xl) : am_Ev (d + 7) 71 0 (am_ent 3 [.ref 57, .int x]) [] (n, sl, wKK kk, (rdI I xs xw 39 xm xg xf xl xc cd), L, wQQ q) (none, (n, sl, wKK kk, (rdI I xs xw 39 xm xg (nI k) (nI l) xc cd), L, wQQ q)) := by
  refine tv_ev ?_
  show am_T _ _ 0 [some (.ref 57), some (.int x), none] _ _ _
  refine tv_b (pc' := 2) (ls' := [some (.ref 57), some (.int x), none]) (st' := [.int x, .ref 57]) (h' := (n, sl, wKK kk, (rdI I xs xw 39 xm xg xf xl xc cd), L, wQQ q)) 2 rfl ?_
  refine tv_cvE [.int x] [] rfl rfl (by omega) rfl (Nat.le_of_ble_eq_true rfl) (Nat.le_of_ble_eq_true rfl) (Or.inr (Or.inr rfl)) (ev_r_bothE hk) ?_
  refine tv_b (pc' := 44) (ls' := [some (.ref 57), some (.int x), some (.int 0)]) (st' := []) (h' := (n, sl, wKK kk, (rdI I xs xw 39 xm xg (nI k) (nI l) xc cd), L, wQQ q)) 9 rfl ?_
  exact tv_rv rfl ⟨rfl, rfl⟩
/-- behind the next token, whatever it is -/
theorem tv_r_nxK {d n sl : Nat} {kk : Nat → Nat × Nat} {I : Nat → Nat → Int32} {L : Nat → Nat → Int64} {q : Nat → Nat → Option Nat} {tx : Nat → Nat} {T G p ce : Nat} {cd : Nat → Int32} {nm gn : Int32} (hH : rdG tx T G I) (hn : (pa_tk tx T p = 21 → nm = nI (pa_nm tx T p)) ∧ rdX tx T G p gn) : am_T d 83 0 (am_ent 1 [.ref 57]) [] (n, sl, wKK kk, rdT tx T I p nm gn ce cd, L, wQQ q) (fun rv h' => rv = none ∧ ∃ nm' gn', ((pa_kd tx T (pa_ed tx T p) = 21 → nm' = nI (pa_nm tx T (pa_ed tx T p))) ∧ rdX tx T G (pa_ed tx T p) gn') ∧ h' = (n, sl, wKK kk, rdK tx T I (pa_ed tx T p) nm' gn' ce cd, L, wQQ q)) := by
  obtain ⟨-, g, hg, rfl, hs⟩ := hn
  by_cases hgG : g = G
  · subst hgG
    have hT : pa_sk tx T p = T := hs.trans hH.2.2.2.2
    have E := pa_c_end (b := tx) (n := T) (p := p) (by omega)
    have e1 : pa_sk tx T (pa_ed tx T p) = pa_sk tx T p := by rw [E.2.2, pa_sk_sk]
    have k1 := pa_kd_c e1
    have k0 := pa_kd_n E.1
    refine tv_e (ev_r_nextX hH) ⟨rfl, nm, nI (g + 1), ⟨fun q => absurd ((k1.1.trans (k0.1.trans E.2.1)).symm.trans q) (by decide), g, Nat.le_refl _, rfl, e1.trans hs⟩, ?_⟩
    unfold rdK
    rw [k1.1, k1.2, k0.1, k0.2, e1]
  · have h2 := hH.2.2.2.1 (g + 1) (by omega)
    have e1 : pa_ed tx T p = pa_ps tx T (g + 1) := pa_ed_c hs
    refine tv_e (ev_r_nextG hH (g := g + 1) (by omega)) ⟨rfl, I 130 (g + 1), nI (g + 1 + 1), ⟨fun q => ?_, g + 1, by omega, rfl, by rw [e1]⟩, ?_⟩
    rotate_left
    · unfold rdK
      rw [e1, h2.1, h2.2.1, h2.2.2.1]
    · rw [e1] at q ⊢
      exact h2.2.2.2 q
