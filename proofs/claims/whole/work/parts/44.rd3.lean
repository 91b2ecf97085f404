/-! THE CLASS'S READER: the text split into tokens -/
section PJ
variable {b : Nat → Nat} {n p : Nat}
theorem pa_c_end (h : ¬ pa_sk b n p < n) : pa_lf b n p = none ∧ pa_tk b n p = 38 ∧ pa_ed b n p = pa_sk b n p := by
  unfold pa_lf pa_tk pa_ed
  simp only [if_neg h]
  exact ⟨trivial, trivial, trivial⟩
theorem pa_c_sign (h : pa_sk b n p < n) (hl : pa_lt (b (pa_sk b n p)) = false) (hd : pa_dg (b (pa_sk b n p)) = false) : pa_lf b n p = none ∧ pa_tk b n p = pa_sgn (b (pa_sk b n p)) ∧ pa_ed b n p = pa_sk b n p + 1 := by
  unfold pa_lf pa_tk pa_ed
  simp only [if_pos h, hl, hd, Bool.or_false, Bool.false_eq_true, if_false]
  exact ⟨trivial, trivial, trivial⟩
theorem pa_c_adj (h : pa_sk b n p < n) (hl : (pa_lt (b (pa_sk b n p)) || pa_dg (b (pa_sk b n p))) = true) (h0 : 0 < pa_sk b n p) (ha : (pa_lt (b (pa_sk b n p - 1)) || pa_dg (b (pa_sk b n p - 1))) = true) : pa_lf b n p = some (pa_sk b n p) := by
  unfold pa_lf
  simp only [if_pos h, hl, if_true, if_pos (And.intro h0 ha)]
theorem pa_c_word (h : pa_sk b n p < n) (hl : pa_lt (b (pa_sk b n p)) = true) (ha : ¬ (0 < pa_sk b n p ∧ (pa_lt (b (pa_sk b n p - 1)) || pa_dg (b (pa_sk b n p - 1))) = true)) : pa_lf b n p = (if 8 < pa_wl b n (pa_sk b n p) then some (pa_sk b n p + 8) else none) ∧ pa_tk b n p = pa_wtk (pa_bs b (pa_sk b n p) (pa_wl b n (pa_sk b n p))) ∧ pa_ed b n p = pa_sk b n p + pa_wl b n (pa_sk b n p) := by
  unfold pa_lf pa_tk pa_ed
  simp only [if_pos h, hl, Bool.true_or, if_true, if_neg ha]
  exact ⟨trivial, trivial, trivial⟩
theorem pa_c_num (h : pa_sk b n p < n) (hl : pa_lt (b (pa_sk b n p)) = false) (hd : pa_dg (b (pa_sk b n p)) = true) (ha : ¬ (0 < pa_sk b n p ∧ (pa_lt (b (pa_sk b n p - 1)) || pa_dg (b (pa_sk b n p - 1))) = true)) : pa_lf b n p = (if 7 < pa_dl b n (pa_sk b n p) then some (pa_sk b n p + 7) else none) ∧ pa_tk b n p = 21 ∧ pa_ed b n p = pa_sk b n p + pa_dl b n (pa_sk b n p) := by
  unfold pa_lf pa_tk pa_ed
  simp only [if_pos h, hl, hd, Bool.or_true, Bool.false_eq_true, if_false, if_true, if_neg ha]
  exact ⟨trivial, trivial, trivial⟩
/-- where a run of letters, of digits ends -/
theorem pa_e_word (h : pa_sk b n p < n) (hl : pa_lt (b (pa_sk b n p)) = true) : pa_ed b n p = pa_sk b n p + pa_wl b n (pa_sk b n p) := by
  unfold pa_ed
  simp only [if_pos h, hl, if_true]
theorem pa_e_num (h : pa_sk b n p < n) (hl : pa_lt (b (pa_sk b n p)) = false) (hd : pa_dg (b (pa_sk b n p)) = true) : pa_ed b n p = pa_sk b n p + pa_dl b n (pa_sk b n p) := by
  unfold pa_ed
  simp only [if_pos h, hl, hd, Bool.false_eq_true, if_false, if_true]
theorem pa_wtk_ne (l : List Nat) : pa_wtk l ≠ 21 := by
  unfold pa_wtk
  split <;> omega
theorem pa_sgn_ne (x : Nat) : pa_sgn x ≠ 21 := by
  unfold pa_sgn
  split <;> decide
theorem pa_sk_sk : pa_sk b n (pa_sk b n p) = pa_sk b n p := by
  by_cases h : pa_sk b n p < n
  · have e : pa_rn (fun i => pa_bl (b i)) p (n - p) < n - p := by unfold pa_sk at h; omega
    exact pa_sk_0 (pa_rn_out (P := fun i => pa_bl (b i)) (n - p) p e)
  · exact pa_sk_end (by omega)
theorem pa_tk_sk : pa_tk b n (pa_sk b n p) = pa_tk b n p := by unfold pa_tk; simp only [pa_sk_sk]
theorem pa_ed_sk : pa_ed b n (pa_sk b n p) = pa_ed b n p := by unfold pa_ed; simp only [pa_sk_sk]
theorem pa_lf_sk : pa_lf b n (pa_sk b n p) = pa_lf b n p := by unfold pa_lf; simp only [pa_sk_sk]
theorem pa_nm_sk : pa_nm b n (pa_sk b n p) = pa_nm b n p := by unfold pa_nm; simp only [pa_sk_sk]
end PJ
/-- a token's kind and its place if it may not stand; where the tokens begin -/
def pa_kd (b : Nat → Nat) (n p : Nat) : Nat := match pa_lf b n p with
  | some _ => 39
  | none => pa_tk b n p
def pa_wg (b : Nat → Nat) (n p : Nat) : Nat := match pa_lf b n p with
  | some f => f
  | none => pa_sk b n p
def pa_ps (b : Nat → Nat) (n : Nat) : Nat → Nat
  | 0 => 0
  | g + 1 => pa_ed b n (pa_ps b n g)
theorem pa_kd_s {b : Nat → Nat} {n p f : Nat} (h : pa_lf b n p = some f) : pa_kd b n p = 39 ∧ pa_wg b n p = f := by
  unfold pa_kd pa_wg
  rw [h]
  exact ⟨rfl, rfl⟩
theorem pa_kd_n {b : Nat → Nat} {n p : Nat} (h : pa_lf b n p = none) : pa_kd b n p = pa_tk b n p ∧ pa_wg b n p = pa_sk b n p := by
  unfold pa_kd pa_wg
  rw [h]
  exact ⟨rfl, rfl⟩
/-- the first t tokens stand in the rows -/
def spR (b : Nat → Nat) (n t : Nat) (r1 r2 r3 r4 : Nat → Int32) : Prop := ∀ g, g < t → r1 g = nI (pa_kd b n (pa_ps b n g)) ∧ r2 g = nI (pa_sk b n (pa_ps b n g)) ∧ r3 g = nI (pa_wg b n (pa_ps b n g)) ∧ (pa_kd b n (pa_ps b n g) = 21 → r4 g = nI (pa_nm b n (pa_ps b n g)))
theorem spR_s {b : Nat → Nat} {n t : Nat} {r1 r2 r3 r4 : Nat → Int32} {x1 x2 x3 x4 : Int32} (h : spR b n t r1 r2 r3 r4) (h1 : x1 = nI (pa_kd b n (pa_ps b n t))) (h2 : x2 = nI (pa_sk b n (pa_ps b n t))) (h3 : x3 = nI (pa_wg b n (pa_ps b n t))) (h4 : pa_kd b n (pa_ps b n t) = 21 → x4 = nI (pa_nm b n (pa_ps b n t))) : spR b n (t + 1) (upd r1 t x1) (upd r2 t x2) (upd r3 t x3) (upd r4 t x4) := by
  intro g hg
  unfold upd
  by_cases e : g = t
  · subst e
    simp only [if_true]
    exact ⟨h1, h2, h3, h4⟩
  · simp only [if_neg e]
    exact h g (by omega)
theorem pa_nm_e {b : Nat → Nat} {n p : Nat} (h7 : pa_dl b n (pa_sk b n p) ≤ 7) : pa_nm b n p = pa_dv b (pa_sk b n p) (pa_dl b n (pa_sk b n p)) := by
  unfold pa_nm
  have h1 := pa_dv_lt (b := b) (s := pa_sk b n p) (pa_dl b n (pa_sk b n p)) (fun j hj => pa_rn_in (P := fun i => pa_dg (b i)) _ _ j hj)
  have h2 : 10 ^ pa_dl b n (pa_sk b n p) ≤ 10 ^ 7 := Nat.pow_le_pow_right (by decide) h7
  exact Nat.mod_eq_of_lt (by omega)
theorem tv_r_takeRunW {d n sl : Nat} {kk : Nat → Nat × Nat} {I : Nat → Nat → Int32} {L : Nat → Nat → Int64} {q : Nat → Nat → Option Nat} {tx : Nat → Nat} {T : Nat} {p t : Nat} {r1 r2 r3 r4 : Nat → Int32} (hH : rdH tx T I) (hW : rdW kk I) (hp : (pa_sk tx T p) < T) (hl : pa_lt (tx (pa_sk tx T p)) = true) (ht : t ≤ 800) : am_T (d + 3) 84 0 (am_ent 5 [.ref 57, .int (nI (pa_sk tx T p))]) [] (n, sl, wKK kk, (spI I (nI t) r1 r2 r3 r4), L, wQQ q) (fun rv h' => rv = some (.int (nI (pa_ed tx T p))) ∧ ∃ v, (pa_kd tx T p = 21 → v = nI (pa_nm tx T p)) ∧ h' = (n, sl, wKK kk, (spI I (nI (t + 1)) (upd r1 t (nI (pa_kd tx T p))) (upd r2 t (nI (pa_sk tx T p))) (upd r3 t (nI (pa_wg tx T p))) (upd r4 t v)), L, wQQ q)) := by
  have hT := hH.2.1
  have hW1 : ∀ j, j < (pa_wl tx T (pa_sk tx T p)) → pa_lt (tx ((pa_sk tx T p) + j)) = true := fun j hj => pa_rn_in (P := fun i => pa_lt (tx i)) _ _ j hj
  have hW2 : (pa_wl tx T (pa_sk tx T p)) ≤ T - (pa_sk tx T p) := pa_rn_le _ _ _
  have hW3 : (pa_wl tx T (pa_sk tx T p)) < T - (pa_sk tx T p) → pa_lt (tx ((pa_sk tx T p) + (pa_wl tx T (pa_sk tx T p)))) = false := fun h => pa_rn_out (P := fun i => pa_lt (tx i)) _ _ h
  have hE : pa_ed tx T p = (pa_sk tx T p) + (pa_wl tx T (pa_sk tx T p)) := pa_e_word hp hl
  have tail : am_T (d + 3) 84 45 [some (.ref 57), some (.int (nI (pa_sk tx T p))), some (.int 1), some (.int (nI ((pa_sk tx T p) + (pa_wl tx T (pa_sk tx T p))))), none] [] (n, sl, wKK kk, (spI I (nI t) r1 r2 r3 r4), L, wQQ q) (fun rv h' => rv = some (.int (nI (pa_ed tx T p))) ∧ ∃ v, (pa_kd tx T p = 21 → v = nI (pa_nm tx T p)) ∧ h' = (n, sl, wKK kk, (spI I (nI (t + 1)) (upd r1 t (nI (pa_kd tx T p))) (upd r2 t (nI (pa_sk tx T p))) (upd r3 t (nI (pa_wg tx T p))) (upd r4 t v)), L, wQQ q)) := by
    refine tv_b (pc' := 62) (ls' := [some (.ref 57), some (.int (nI (pa_sk tx T p))), some (.int 1), some (.int (nI ((pa_sk tx T p) + (pa_wl tx T (pa_sk tx T p))))), some (.int 8)]) (st' := [.int ((nI (pa_sk tx T p)) - 1), .ref 57]) (h' := (n, sl, wKK kk, (spI I (nI t) r1 r2 r3 r4), L, wQQ q)) 9 rfl ?_
    refine tv_cvE [.int ((nI (pa_sk tx T p)) - 1)] [] rfl rfl (by omega) rfl (Nat.le_of_ble_eq_true rfl) (Nat.le_of_ble_eq_true rfl) (Or.inr (Or.inr rfl)) (ev_r_isLetterP (rdH_s hH) (by omega)) ?_
    refine tv_b (pc' := (if (if 0 < (pa_sk tx T p) ∧ pa_lt (tx ((pa_sk tx T p) - 1)) = true then 1 else 0) = 0 then 68 else 78)) (ls' := [some (.ref 57), some (.int (nI (pa_sk tx T p))), some (.int 1), some (.int (nI ((pa_sk tx T p) + (pa_wl tx T (pa_sk tx T p))))), some (.int 8)]) (st' := []) (h' := (n, sl, wKK kk, (spI I (nI t) r1 r2 r3 r4), L, wQQ q)) 1 rfl ?_
    refine tv_b0 (fun c65 => ?_) (fun c65 => ?_)
    · refine tv_b (pc' := 72) (ls' := [some (.ref 57), some (.int (nI (pa_sk tx T p))), some (.int 1), some (.int (nI ((pa_sk tx T p) + (pa_wl tx T (pa_sk tx T p))))), some (.int 8)]) (st' := [.int ((nI (pa_sk tx T p)) - 1), .ref 57]) (h' := (n, sl, wKK kk, (spI I (nI t) r1 r2 r3 r4), L, wQQ q)) 4 rfl ?_
      refine tv_cvE [.int ((nI (pa_sk tx T p)) - 1)] [] rfl rfl (by omega) rfl (Nat.le_of_ble_eq_true rfl) (Nat.le_of_ble_eq_true rfl) (Or.inr (Or.inr rfl)) (ev_r_isDigitP (rdH_s hH) (by omega)) ?_
      refine tv_b (pc' := (if (if 0 < (pa_sk tx T p) ∧ pa_dg (tx ((pa_sk tx T p) - 1)) = true then 1 else 0) = 0 then 90 else 78)) (ls' := [some (.ref 57), some (.int (nI (pa_sk tx T p))), some (.int 1), some (.int (nI ((pa_sk tx T p) + (pa_wl tx T (pa_sk tx T p))))), some (.int 8)]) (st' := []) (h' := (n, sl, wKK kk, (spI I (nI t) r1 r2 r3 r4), L, wQQ q)) 1 rfl ?_
      refine tv_b0 (fun c75 => ?_) (fun c75 => ?_)
      · refine tv_b (pc' := 92) (ls' := [some (.ref 57), some (.int (nI (pa_sk tx T p))), some (.int 1), some (.int (nI ((pa_sk tx T p) + (pa_wl tx T (pa_sk tx T p))))), some (.int 8)]) (st' := [.int (nI (pa_sk tx T p)), .int (nI ((pa_sk tx T p) + (pa_wl tx T (pa_sk tx T p))))]) (h' := (n, sl, wKK kk, (spI I (nI t) r1 r2 r3 r4), L, wQQ q)) 2 rfl ?_
        refine tv_b (pc' := 93) (ls' := [some (.ref 57), some (.int (nI (pa_sk tx T p))), some (.int 1), some (.int (nI ((pa_sk tx T p) + (pa_wl tx T (pa_sk tx T p))))), some (.int 8)]) (st' := [.int ((nI ((pa_sk tx T p) + (pa_wl tx T (pa_sk tx T p)))) - (nI (pa_sk tx T p)))]) (h' := (n, sl, wKK kk, (spI I (nI t) r1 r2 r3 r4), L, wQQ q)) 1 rfl ?_
        refine tv_top (show (nI ((pa_sk tx T p) + (pa_wl tx T (pa_sk tx T p)))) - (nI (pa_sk tx T p)) = nI (((pa_sk tx T p) + (pa_wl tx T (pa_sk tx T p))) - (pa_sk tx T p)) from nI_sub (a := (pa_sk tx T p) + (pa_wl tx T (pa_sk tx T p))) (b := (pa_sk tx T p)) (by omega)) ?_
        refine tv_b (pc' := (if (nI (((pa_sk tx T p) + (pa_wl tx T (pa_sk tx T p))) - (pa_sk tx T p))) ≤ 8 then 113 else 98)) (ls' := [some (.ref 57), some (.int (nI (pa_sk tx T p))), some (.int 1), some (.int (nI ((pa_sk tx T p) + (pa_wl tx T (pa_sk tx T p))))), some (.int 8)]) (st' := []) (h' := (n, sl, wKK kk, (spI I (nI t) r1 r2 r3 r4), L, wQQ q)) 2 rfl ?_
        refine tv_ifq (nI_leI (a := ((pa_sk tx T p) + (pa_wl tx T (pa_sk tx T p))) - (pa_sk tx T p)) (b := 8) (by omega) (by omega)) (fun c95 => ?_) (fun c95 => ?_)
        · refine tv_b (pc' := 121) (ls' := [some (.ref 57), some (.int (nI (pa_sk tx T p))), some (.int 1), some (.int (nI ((pa_sk tx T p) + (pa_wl tx T (pa_sk tx T p))))), some (.int 8)]) (st' := [.int (nI ((pa_sk tx T p) + (pa_wl tx T (pa_sk tx T p)))), .int (nI (pa_sk tx T p)), .ref 57, .ref 57]) (h' := (n, sl, wKK kk, (spI I (nI t) r1 r2 r3 r4), L, wQQ q)) 6 rfl ?_
          refine tv_cvE [.int (nI (pa_sk tx T p)), .int (nI ((pa_sk tx T p) + (pa_wl tx T (pa_sk tx T p))))] [.ref 57] rfl rfl (by omega) rfl (Nat.le_of_ble_eq_true rfl) (Nat.le_of_ble_eq_true rfl) (Or.inr (Or.inr rfl)) (ev_r_wordOf (rdH_s hH) (rdW_s hW) (by omega) (by omega)) ?_
          refine tv_b (pc' := 127) (ls' := [some (.ref 57), some (.int (nI (pa_sk tx T p))), some (.int 1), some (.int (nI ((pa_sk tx T p) + (pa_wl tx T (pa_sk tx T p))))), some (.int 8)]) (st' := [.int 0, .int (nI (pa_sk tx T p)), .int (nI (pa_sk tx T p)), .int (nI (pa_wtk (pa_bs tx (pa_sk tx T p) ((pa_sk tx T p) + (pa_wl tx T (pa_sk tx T p)) - (pa_sk tx T p))))), .ref 57]) (h' := (n, sl, wKK kk, (spI I (nI t) r1 r2 r3 r4), L, wQQ q)) 3 rfl ?_
          refine tv_cvE [.int (nI (pa_wtk (pa_bs tx (pa_sk tx T p) ((pa_sk tx T p) + (pa_wl tx T (pa_sk tx T p)) - (pa_sk tx T p))))), .int (nI (pa_sk tx T p)), .int (nI (pa_sk tx T p)), .int 0] [] rfl rfl (by omega) rfl (Nat.le_of_ble_eq_true rfl) (Nat.le_of_ble_eq_true rfl) (Or.inr (Or.inr rfl)) (ev_r_put (by omega)) ?_
          refine tv_b (pc' := 148) (ls' := [some (.ref 57), some (.int (nI (pa_sk tx T p))), some (.int 1), some (.int (nI ((pa_sk tx T p) + (pa_wl tx T (pa_sk tx T p))))), some (.int 8)]) (st' := [.int (nI ((pa_sk tx T p) + (pa_wl tx T (pa_sk tx T p))))]) (h' := (n, sl, wKK kk, (spI I (nI (t + 1)) (upd r1 t (nI (pa_wtk (pa_bs tx (pa_sk tx T p) ((pa_sk tx T p) + (pa_wl tx T (pa_sk tx T p)) - (pa_sk tx T p)))))) (upd r2 t (nI (pa_sk tx T p))) (upd r3 t (nI (pa_sk tx T p))) (upd r4 t 0)), L, wQQ q)) 2 rfl ?_
          refine tv_ri rfl ⟨by rw [hE], ?_⟩
          have ha : ¬ (0 < (pa_sk tx T p) ∧ (pa_lt (tx ((pa_sk tx T p) - 1)) || pa_dg (tx ((pa_sk tx T p) - 1))) = true) := by rintro ⟨q0, q⟩; rw [Bool.or_eq_true] at q; exact q.elim (fun q => c65 ⟨q0, q⟩) (fun q => c75 ⟨q0, q⟩)
          have E := pa_c_word (b := tx) hp hl ha
          have E1 := pa_kd_n (E.1.trans (if_neg (show ¬ 8 < (pa_wl tx T (pa_sk tx T p)) by omega)))
          refine ⟨0, fun q => absurd ((E1.1.trans E.2.1).symm.trans q) (pa_wtk_ne _), ?_⟩
          rw [E1.1, E1.2, E.2.1, show (pa_sk tx T p) + (pa_wl tx T (pa_sk tx T p)) - (pa_sk tx T p) = (pa_wl tx T (pa_sk tx T p)) from Nat.add_sub_cancel_left _ _]
          try rfl
        · refine tv_b (pc' := 105) (ls' := [some (.ref 57), some (.int (nI (pa_sk tx T p))), some (.int 1), some (.int (nI ((pa_sk tx T p) + (pa_wl tx T (pa_sk tx T p))))), some (.int 8)]) (st' := [.int 8, .int (nI (pa_sk tx T p)), .int (nI (pa_sk tx T p)), .int 39, .ref 57]) (h' := (n, sl, wKK kk, (spI I (nI t) r1 r2 r3 r4), L, wQQ q)) 5 rfl ?_
          refine tv_b (pc' := 106) (ls' := [some (.ref 57), some (.int (nI (pa_sk tx T p))), some (.int 1), some (.int (nI ((pa_sk tx T p) + (pa_wl tx T (pa_sk tx T p))))), some (.int 8)]) (st' := [.int ((nI (pa_sk tx T p)) + 8), .int (nI (pa_sk tx T p)), .int 39, .ref 57]) (h' := (n, sl, wKK kk, (spI I (nI t) r1 r2 r3 r4), L, wQQ q)) 1 rfl ?_
          refine tv_top (show (nI (pa_sk tx T p)) + 8 = nI ((pa_sk tx T p) + 8) from nI_add (pa_sk tx T p) 8) ?_
          refine tv_b (pc' := 107) (ls' := [some (.ref 57), some (.int (nI (pa_sk tx T p))), some (.int 1), some (.int (nI ((pa_sk tx T p) + (pa_wl tx T (pa_sk tx T p))))), some (.int 8)]) (st' := [.int 0, .int (nI ((pa_sk tx T p) + 8)), .int (nI (pa_sk tx T p)), .int 39, .ref 57]) (h' := (n, sl, wKK kk, (spI I (nI t) r1 r2 r3 r4), L, wQQ q)) 1 rfl ?_
          refine tv_cvE [.int 39, .int (nI (pa_sk tx T p)), .int (nI ((pa_sk tx T p) + 8)), .int 0] [] rfl rfl (by omega) rfl (Nat.le_of_ble_eq_true rfl) (Nat.le_of_ble_eq_true rfl) (Or.inr (Or.inr rfl)) (ev_r_put (by omega)) ?_
          refine tv_b (pc' := 148) (ls' := [some (.ref 57), some (.int (nI (pa_sk tx T p))), some (.int 1), some (.int (nI ((pa_sk tx T p) + (pa_wl tx T (pa_sk tx T p))))), some (.int 8)]) (st' := [.int (nI ((pa_sk tx T p) + (pa_wl tx T (pa_sk tx T p))))]) (h' := (n, sl, wKK kk, (spI I (nI (t + 1)) (upd r1 t 39) (upd r2 t (nI (pa_sk tx T p))) (upd r3 t (nI ((pa_sk tx T p) + 8))) (upd r4 t 0)), L, wQQ q)) 2 rfl ?_
          refine tv_ri rfl ⟨by rw [hE], ?_⟩
          have ha : ¬ (0 < (pa_sk tx T p) ∧ (pa_lt (tx ((pa_sk tx T p) - 1)) || pa_dg (tx ((pa_sk tx T p) - 1))) = true) := by rintro ⟨q0, q⟩; rw [Bool.or_eq_true] at q; exact q.elim (fun q => c65 ⟨q0, q⟩) (fun q => c75 ⟨q0, q⟩)
          have E := pa_c_word (b := tx) hp hl ha
          have E1 := pa_kd_s (E.1.trans (if_pos (show 8 < (pa_wl tx T (pa_sk tx T p)) by omega)))
          refine ⟨0, fun q => absurd (E1.1.symm.trans q) (by decide), ?_⟩
          rw [E1.1, E1.2]
          rfl
      · refine tv_b (pc' := 84) (ls' := [some (.ref 57), some (.int (nI (pa_sk tx T p))), some (.int 1), some (.int (nI ((pa_sk tx T p) + (pa_wl tx T (pa_sk tx T p))))), some (.int 8)]) (st' := [.int 0, .int (nI (pa_sk tx T p)), .int (nI (pa_sk tx T p)), .int 39, .ref 57]) (h' := (n, sl, wKK kk, (spI I (nI t) r1 r2 r3 r4), L, wQQ q)) 5 rfl ?_
        refine tv_cvE [.int 39, .int (nI (pa_sk tx T p)), .int (nI (pa_sk tx T p)), .int 0] [] rfl rfl (by omega) rfl (Nat.le_of_ble_eq_true rfl) (Nat.le_of_ble_eq_true rfl) (Or.inr (Or.inr rfl)) (ev_r_put (by omega)) ?_
        refine tv_b (pc' := 148) (ls' := [some (.ref 57), some (.int (nI (pa_sk tx T p))), some (.int 1), some (.int (nI ((pa_sk tx T p) + (pa_wl tx T (pa_sk tx T p))))), some (.int 8)]) (st' := [.int (nI ((pa_sk tx T p) + (pa_wl tx T (pa_sk tx T p))))]) (h' := (n, sl, wKK kk, (spI I (nI (t + 1)) (upd r1 t 39) (upd r2 t (nI (pa_sk tx T p))) (upd r3 t (nI (pa_sk tx T p))) (upd r4 t 0)), L, wQQ q)) 2 rfl ?_
        refine tv_ri rfl ⟨by rw [hE], ?_⟩
        have E := pa_kd_s (pa_c_adj (b := tx) hp (by rw [Bool.or_eq_true]; exact Or.inl hl) c75.1 (by rw [Bool.or_eq_true]; exact Or.inr c75.2))
        refine ⟨0, fun q => absurd (E.1.symm.trans q) (by decide), ?_⟩
        rw [E.1, E.2]
        rfl
    · refine tv_b (pc' := 84) (ls' := [some (.ref 57), some (.int (nI (pa_sk tx T p))), some (.int 1), some (.int (nI ((pa_sk tx T p) + (pa_wl tx T (pa_sk tx T p))))), some (.int 8)]) (st' := [.int 0, .int (nI (pa_sk tx T p)), .int (nI (pa_sk tx T p)), .int 39, .ref 57]) (h' := (n, sl, wKK kk, (spI I (nI t) r1 r2 r3 r4), L, wQQ q)) 5 rfl ?_
      refine tv_cvE [.int 39, .int (nI (pa_sk tx T p)), .int (nI (pa_sk tx T p)), .int 0] [] rfl rfl (by omega) rfl (Nat.le_of_ble_eq_true rfl) (Nat.le_of_ble_eq_true rfl) (Or.inr (Or.inr rfl)) (ev_r_put (by omega)) ?_
      refine tv_b (pc' := 148) (ls' := [some (.ref 57), some (.int (nI (pa_sk tx T p))), some (.int 1), some (.int (nI ((pa_sk tx T p) + (pa_wl tx T (pa_sk tx T p))))), some (.int 8)]) (st' := [.int (nI ((pa_sk tx T p) + (pa_wl tx T (pa_sk tx T p))))]) (h' := (n, sl, wKK kk, (spI I (nI (t + 1)) (upd r1 t 39) (upd r2 t (nI (pa_sk tx T p))) (upd r3 t (nI (pa_sk tx T p))) (upd r4 t 0)), L, wQQ q)) 2 rfl ?_
      refine tv_ri rfl ⟨by rw [hE], ?_⟩
      have E := pa_kd_s (pa_c_adj (b := tx) hp (by rw [Bool.or_eq_true]; exact Or.inl hl) c65.1 (by rw [Bool.or_eq_true]; exact Or.inl c65.2))
      refine ⟨0, fun q => absurd (E.1.symm.trans q) (by decide), ?_⟩
      rw [E.1, E.2]
      rfl
  have loop : ∀ mm k : Nat, k + mm = (pa_wl tx T (pa_sk tx T p)) → am_T (d + 3) 84 8 [some (.ref 57), some (.int (nI (pa_sk tx T p))), some (.int 1), some (.int (nI ((pa_sk tx T p) + k))), none] [] (n, sl, wKK kk, (spI I (nI t) r1 r2 r3 r4), L, wQQ q) (fun rv h' => rv = some (.int (nI (pa_ed tx T p))) ∧ ∃ v, (pa_kd tx T p = 21 → v = nI (pa_nm tx T p)) ∧ h' = (n, sl, wKK kk, (spI I (nI (t + 1)) (upd r1 t (nI (pa_kd tx T p))) (upd r2 t (nI (pa_sk tx T p))) (upd r3 t (nI (pa_wg tx T p))) (upd r4 t v)), L, wQQ q)) := by
    intro mm
    induction mm with
    | zero =>
      intro k hk
      have hk : k = (pa_wl tx T (pa_sk tx T p)) := by omega
      rw [hk]
      refine tv_b (pc' := 13) (ls' := [some (.ref 57), some (.int (nI (pa_sk tx T p))), some (.int 1), some (.int (nI ((pa_sk tx T p) + (pa_wl tx T (pa_sk tx T p))))), none]) (st' := [.int (I 57 1), .int (nI ((pa_sk tx T p) + (pa_wl tx T (pa_sk tx T p))))]) (h' := (n, sl, wKK kk, (spI I (nI t) r1 r2 r3 r4), L, wQQ q)) 3 rfl ?_
      refine tv_top (hH.1) ?_
      refine tv_b (pc' := (if (nI T) ≤ (nI ((pa_sk tx T p) + (pa_wl tx T (pa_sk tx T p)))) then 45 else 16)) (ls' := [some (.ref 57), some (.int (nI (pa_sk tx T p))), some (.int 1), some (.int (nI ((pa_sk tx T p) + (pa_wl tx T (pa_sk tx T p))))), none]) (st' := []) (h' := (n, sl, wKK kk, (spI I (nI t) r1 r2 r3 r4), L, wQQ q)) 1 rfl ?_
      refine tv_ifq (nI_leI (a := T) (b := (pa_sk tx T p) + (pa_wl tx T (pa_sk tx T p))) (by omega) (by omega)) (fun c13 => ?_) (fun c13 => ?_)
      · exact tail
      · refine tv_b (pc' := 22) (ls' := [some (.ref 57), some (.int (nI (pa_sk tx T p))), some (.int 1), some (.int (nI ((pa_sk tx T p) + (pa_wl tx T (pa_sk tx T p))))), none]) (st' := [.int (nI ((pa_sk tx T p) + (pa_wl tx T (pa_sk tx T p)))), .ref 57]) (h' := (n, sl, wKK kk, (spI I (nI t) r1 r2 r3 r4), L, wQQ q)) 4 rfl ?_
        refine tv_cvE [.int (nI ((pa_sk tx T p) + (pa_wl tx T (pa_sk tx T p))))] [] rfl rfl (by omega) rfl (Nat.le_of_ble_eq_true rfl) (Nat.le_of_ble_eq_true rfl) (Or.inr (Or.inr rfl)) (ev_r_isLetter0 (rdH_s hH) (fun q => by have := hW3 (by omega); rw [this] at q; exact Bool.noConfusion q.2) (by omega)) ?_
        refine tv_b (pc' := 45) (ls' := [some (.ref 57), some (.int (nI (pa_sk tx T p))), some (.int 1), some (.int (nI ((pa_sk tx T p) + (pa_wl tx T (pa_sk tx T p))))), none]) (st' := []) (h' := (n, sl, wKK kk, (spI I (nI t) r1 r2 r3 r4), L, wQQ q)) 1 rfl ?_
        exact tail
    | succ mm ih =>
      intro k hk
      refine tv_b (pc' := 13) (ls' := [some (.ref 57), some (.int (nI (pa_sk tx T p))), some (.int 1), some (.int (nI ((pa_sk tx T p) + k))), none]) (st' := [.int (I 57 1), .int (nI ((pa_sk tx T p) + k))]) (h' := (n, sl, wKK kk, (spI I (nI t) r1 r2 r3 r4), L, wQQ q)) 3 rfl ?_
      refine tv_top (hH.1) ?_
      refine tv_b (pc' := (if (nI T) ≤ (nI ((pa_sk tx T p) + k)) then 45 else 16)) (ls' := [some (.ref 57), some (.int (nI (pa_sk tx T p))), some (.int 1), some (.int (nI ((pa_sk tx T p) + k))), none]) (st' := []) (h' := (n, sl, wKK kk, (spI I (nI t) r1 r2 r3 r4), L, wQQ q)) 1 rfl ?_
      refine tv_f (fun hq => absurd ((nI_leI (a := T) (b := (pa_sk tx T p) + k) (by omega) (by omega)).mp hq) (by omega)) ?_
      refine tv_b (pc' := 22) (ls' := [some (.ref 57), some (.int (nI (pa_sk tx T p))), some (.int 1), some (.int (nI ((pa_sk tx T p) + k))), none]) (st' := [.int (nI ((pa_sk tx T p) + k)), .ref 57]) (h' := (n, sl, wKK kk, (spI I (nI t) r1 r2 r3 r4), L, wQQ q)) 4 rfl ?_
      refine tv_cvE [.int (nI ((pa_sk tx T p) + k))] [] rfl rfl (by omega) rfl (Nat.le_of_ble_eq_true rfl) (Nat.le_of_ble_eq_true rfl) (Or.inr (Or.inr rfl)) (ev_r_isLetter1 (rdH_s hH) ⟨by omega, hW1 k (by omega)⟩) ?_
      refine tv_b (pc' := 39) (ls' := [some (.ref 57), some (.int (nI (pa_sk tx T p))), some (.int 1), some (.int (nI ((pa_sk tx T p) + k))), none]) (st' := []) (h' := (n, sl, wKK kk, (spI I (nI t) r1 r2 r3 r4), L, wQQ q)) 2 rfl ?_
      refine tv_iincN (k := ((pa_sk tx T p) + k)) (ls' := [some (.ref 57), some (.int (nI (pa_sk tx T p))), some (.int 1), some (.int (nI ((pa_sk tx T p) + k + 1))), none]) rfl rfl rfl ?_
      refine tv_b (pc' := 8) (ls' := [some (.ref 57), some (.int (nI (pa_sk tx T p))), some (.int 1), some (.int (nI ((pa_sk tx T p) + k + 1))), none]) (st' := []) (h' := (n, sl, wKK kk, (spI I (nI t) r1 r2 r3 r4), L, wQQ q)) 1 rfl ?_
      exact ih (k + 1) (by omega)
  show am_T _ _ 0 [some (.ref 57), some (.int (nI (pa_sk tx T p))), none, none, none] _ _ _
  refine tv_b (pc' := 2) (ls' := [some (.ref 57), some (.int (nI (pa_sk tx T p))), none, none, none]) (st' := [.int (nI (pa_sk tx T p)), .ref 57]) (h' := (n, sl, wKK kk, (spI I (nI t) r1 r2 r3 r4), L, wQQ q)) 2 rfl ?_
  refine tv_cvE [.int (nI (pa_sk tx T p))] [] rfl rfl (by omega) rfl (Nat.le_of_ble_eq_true rfl) (Nat.le_of_ble_eq_true rfl) (Or.inr (Or.inr rfl)) (ev_r_isLetter1 (rdH_s hH) ⟨hp, hl⟩) ?_
  refine tv_b (pc' := 8) (ls' := [some (.ref 57), some (.int (nI (pa_sk tx T p))), some (.int 1), some (.int (nI (pa_sk tx T p))), none]) (st' := []) (h' := (n, sl, wKK kk, (spI I (nI t) r1 r2 r3 r4), L, wQQ q)) 3 rfl ?_
  exact loop (pa_wl tx T (pa_sk tx T p)) 0 (by omega)
theorem tv_r_takeRunD {d n sl : Nat} {kk : Nat → Nat × Nat} {I : Nat → Nat → Int32} {L : Nat → Nat → Int64} {q : Nat → Nat → Option Nat} {tx : Nat → Nat} {T : Nat} {p t : Nat} {r1 r2 r3 r4 : Nat → Int32} (hH : rdH tx T I) (hW : rdW kk I) (hp : (pa_sk tx T p) < T) (hl0 : pa_lt (tx (pa_sk tx T p)) = false) (hl : pa_dg (tx (pa_sk tx T p)) = true) (ht : t ≤ 800) : am_T (d + 3) 84 0 (am_ent 5 [.ref 57, .int (nI (pa_sk tx T p))]) [] (n, sl, wKK kk, (spI I (nI t) r1 r2 r3 r4), L, wQQ q) (fun rv h' => rv = some (.int (nI (pa_ed tx T p))) ∧ ∃ v, (pa_kd tx T p = 21 → v = nI (pa_nm tx T p)) ∧ h' = (n, sl, wKK kk, (spI I (nI (t + 1)) (upd r1 t (nI (pa_kd tx T p))) (upd r2 t (nI (pa_sk tx T p))) (upd r3 t (nI (pa_wg tx T p))) (upd r4 t v)), L, wQQ q)) := by
  have hT := hH.2.1
  have hW1 : ∀ j, j < (pa_dl tx T (pa_sk tx T p)) → pa_dg (tx ((pa_sk tx T p) + j)) = true := fun j hj => pa_rn_in (P := fun i => pa_dg (tx i)) _ _ j hj
  have hW2 : (pa_dl tx T (pa_sk tx T p)) ≤ T - (pa_sk tx T p) := pa_rn_le _ _ _
  have hW3 : (pa_dl tx T (pa_sk tx T p)) < T - (pa_sk tx T p) → pa_dg (tx ((pa_sk tx T p) + (pa_dl tx T (pa_sk tx T p)))) = false := fun h => pa_rn_out (P := fun i => pa_dg (tx i)) _ _ h
  have hE : pa_ed tx T p = (pa_sk tx T p) + (pa_dl tx T (pa_sk tx T p)) := pa_e_num hp hl0 hl
  have tail : am_T (d + 3) 84 45 [some (.ref 57), some (.int (nI (pa_sk tx T p))), some (.int 0), some (.int (nI ((pa_sk tx T p) + (pa_dl tx T (pa_sk tx T p))))), none] [] (n, sl, wKK kk, (spI I (nI t) r1 r2 r3 r4), L, wQQ q) (fun rv h' => rv = some (.int (nI (pa_ed tx T p))) ∧ ∃ v, (pa_kd tx T p = 21 → v = nI (pa_nm tx T p)) ∧ h' = (n, sl, wKK kk, (spI I (nI (t + 1)) (upd r1 t (nI (pa_kd tx T p))) (upd r2 t (nI (pa_sk tx T p))) (upd r3 t (nI (pa_wg tx T p))) (upd r4 t v)), L, wQQ q)) := by
    refine tv_b (pc' := 62) (ls' := [some (.ref 57), some (.int (nI (pa_sk tx T p))), some (.int 0), some (.int (nI ((pa_sk tx T p) + (pa_dl tx T (pa_sk tx T p))))), some (.int 7)]) (st' := [.int ((nI (pa_sk tx T p)) - 1), .ref 57]) (h' := (n, sl, wKK kk, (spI I (nI t) r1 r2 r3 r4), L, wQQ q)) 8 rfl ?_
    refine tv_cvE [.int ((nI (pa_sk tx T p)) - 1)] [] rfl rfl (by omega) rfl (Nat.le_of_ble_eq_true rfl) (Nat.le_of_ble_eq_true rfl) (Or.inr (Or.inr rfl)) (ev_r_isLetterP (rdH_s hH) (by omega)) ?_
    refine tv_b (pc' := (if (if 0 < (pa_sk tx T p) ∧ pa_lt (tx ((pa_sk tx T p) - 1)) = true then 1 else 0) = 0 then 68 else 78)) (ls' := [some (.ref 57), some (.int (nI (pa_sk tx T p))), some (.int 0), some (.int (nI ((pa_sk tx T p) + (pa_dl tx T (pa_sk tx T p))))), some (.int 7)]) (st' := []) (h' := (n, sl, wKK kk, (spI I (nI t) r1 r2 r3 r4), L, wQQ q)) 1 rfl ?_
    refine tv_b0 (fun c65 => ?_) (fun c65 => ?_)
    · refine tv_b (pc' := 72) (ls' := [some (.ref 57), some (.int (nI (pa_sk tx T p))), some (.int 0), some (.int (nI ((pa_sk tx T p) + (pa_dl tx T (pa_sk tx T p))))), some (.int 7)]) (st' := [.int ((nI (pa_sk tx T p)) - 1), .ref 57]) (h' := (n, sl, wKK kk, (spI I (nI t) r1 r2 r3 r4), L, wQQ q)) 4 rfl ?_
      refine tv_cvE [.int ((nI (pa_sk tx T p)) - 1)] [] rfl rfl (by omega) rfl (Nat.le_of_ble_eq_true rfl) (Nat.le_of_ble_eq_true rfl) (Or.inr (Or.inr rfl)) (ev_r_isDigitP (rdH_s hH) (by omega)) ?_
      refine tv_b (pc' := (if (if 0 < (pa_sk tx T p) ∧ pa_dg (tx ((pa_sk tx T p) - 1)) = true then 1 else 0) = 0 then 90 else 78)) (ls' := [some (.ref 57), some (.int (nI (pa_sk tx T p))), some (.int 0), some (.int (nI ((pa_sk tx T p) + (pa_dl tx T (pa_sk tx T p))))), some (.int 7)]) (st' := []) (h' := (n, sl, wKK kk, (spI I (nI t) r1 r2 r3 r4), L, wQQ q)) 1 rfl ?_
      refine tv_b0 (fun c75 => ?_) (fun c75 => ?_)
      · refine tv_b (pc' := 92) (ls' := [some (.ref 57), some (.int (nI (pa_sk tx T p))), some (.int 0), some (.int (nI ((pa_sk tx T p) + (pa_dl tx T (pa_sk tx T p))))), some (.int 7)]) (st' := [.int (nI (pa_sk tx T p)), .int (nI ((pa_sk tx T p) + (pa_dl tx T (pa_sk tx T p))))]) (h' := (n, sl, wKK kk, (spI I (nI t) r1 r2 r3 r4), L, wQQ q)) 2 rfl ?_
        refine tv_b (pc' := 93) (ls' := [some (.ref 57), some (.int (nI (pa_sk tx T p))), some (.int 0), some (.int (nI ((pa_sk tx T p) + (pa_dl tx T (pa_sk tx T p))))), some (.int 7)]) (st' := [.int ((nI ((pa_sk tx T p) + (pa_dl tx T (pa_sk tx T p)))) - (nI (pa_sk tx T p)))]) (h' := (n, sl, wKK kk, (spI I (nI t) r1 r2 r3 r4), L, wQQ q)) 1 rfl ?_
        refine tv_top (show (nI ((pa_sk tx T p) + (pa_dl tx T (pa_sk tx T p)))) - (nI (pa_sk tx T p)) = nI (((pa_sk tx T p) + (pa_dl tx T (pa_sk tx T p))) - (pa_sk tx T p)) from nI_sub (a := (pa_sk tx T p) + (pa_dl tx T (pa_sk tx T p))) (b := (pa_sk tx T p)) (by omega)) ?_
        refine tv_b (pc' := (if (nI (((pa_sk tx T p) + (pa_dl tx T (pa_sk tx T p))) - (pa_sk tx T p))) ≤ 7 then 113 else 98)) (ls' := [some (.ref 57), some (.int (nI (pa_sk tx T p))), some (.int 0), some (.int (nI ((pa_sk tx T p) + (pa_dl tx T (pa_sk tx T p))))), some (.int 7)]) (st' := []) (h' := (n, sl, wKK kk, (spI I (nI t) r1 r2 r3 r4), L, wQQ q)) 2 rfl ?_
        refine tv_ifq (nI_leI (a := ((pa_sk tx T p) + (pa_dl tx T (pa_sk tx T p))) - (pa_sk tx T p)) (b := 7) (by omega) (by omega)) (fun c95 => ?_) (fun c95 => ?_)
        · refine tv_b (pc' := 141) (ls' := [some (.ref 57), some (.int (nI (pa_sk tx T p))), some (.int 0), some (.int (nI ((pa_sk tx T p) + (pa_dl tx T (pa_sk tx T p))))), some (.int 7)]) (st' := [.int (nI ((pa_sk tx T p) + (pa_dl tx T (pa_sk tx T p)))), .int (nI (pa_sk tx T p)), .ref 57, .int (nI (pa_sk tx T p)), .int (nI (pa_sk tx T p)), .int 21, .ref 57]) (h' := (n, sl, wKK kk, (spI I (nI t) r1 r2 r3 r4), L, wQQ q)) 9 rfl ?_
          refine tv_cvE [.int (nI (pa_sk tx T p)), .int (nI ((pa_sk tx T p) + (pa_dl tx T (pa_sk tx T p))))] [.int (nI (pa_sk tx T p)), .int (nI (pa_sk tx T p)), .int 21, .ref 57] rfl rfl (by omega) rfl (Nat.le_of_ble_eq_true rfl) (Nat.le_of_ble_eq_true rfl) (Or.inr (Or.inr rfl)) (ev_r_numberOf (rdH_s hH) hW1 (by omega) (by omega)) ?_
          refine tv_cvE [.int 21, .int (nI (pa_sk tx T p)), .int (nI (pa_sk tx T p)), .int (nI (pa_dv tx (pa_sk tx T p) (pa_dl tx T (pa_sk tx T p))))] [] rfl rfl (by omega) rfl (Nat.le_of_ble_eq_true rfl) (Nat.le_of_ble_eq_true rfl) (Or.inr (Or.inr rfl)) (ev_r_put (by omega)) ?_
          refine tv_b (pc' := 148) (ls' := [some (.ref 57), some (.int (nI (pa_sk tx T p))), some (.int 0), some (.int (nI ((pa_sk tx T p) + (pa_dl tx T (pa_sk tx T p))))), some (.int 7)]) (st' := [.int (nI ((pa_sk tx T p) + (pa_dl tx T (pa_sk tx T p))))]) (h' := (n, sl, wKK kk, (spI I (nI (t + 1)) (upd r1 t 21) (upd r2 t (nI (pa_sk tx T p))) (upd r3 t (nI (pa_sk tx T p))) (upd r4 t (nI (pa_dv tx (pa_sk tx T p) (pa_dl tx T (pa_sk tx T p)))))), L, wQQ q)) 1 rfl ?_
          refine tv_ri rfl ⟨by rw [hE], ?_⟩
          have ha : ¬ (0 < (pa_sk tx T p) ∧ (pa_lt (tx ((pa_sk tx T p) - 1)) || pa_dg (tx ((pa_sk tx T p) - 1))) = true) := by rintro ⟨q0, q⟩; rw [Bool.or_eq_true] at q; exact q.elim (fun q => c65 ⟨q0, q⟩) (fun q => c75 ⟨q0, q⟩)
          have E := pa_c_num (b := tx) hp hl0 hl ha
          have E1 := pa_kd_n (E.1.trans (if_neg (show ¬ 7 < (pa_dl tx T (pa_sk tx T p)) by omega)))
          refine ⟨_, fun _ => by rw [pa_nm_e (by omega)], ?_⟩
          rw [E1.1, E1.2, E.2.1]
          try rfl
        · refine tv_b (pc' := 105) (ls' := [some (.ref 57), some (.int (nI (pa_sk tx T p))), some (.int 0), some (.int (nI ((pa_sk tx T p) + (pa_dl tx T (pa_sk tx T p))))), some (.int 7)]) (st' := [.int 7, .int (nI (pa_sk tx T p)), .int (nI (pa_sk tx T p)), .int 39, .ref 57]) (h' := (n, sl, wKK kk, (spI I (nI t) r1 r2 r3 r4), L, wQQ q)) 5 rfl ?_
          refine tv_b (pc' := 106) (ls' := [some (.ref 57), some (.int (nI (pa_sk tx T p))), some (.int 0), some (.int (nI ((pa_sk tx T p) + (pa_dl tx T (pa_sk tx T p))))), some (.int 7)]) (st' := [.int ((nI (pa_sk tx T p)) + 7), .int (nI (pa_sk tx T p)), .int 39, .ref 57]) (h' := (n, sl, wKK kk, (spI I (nI t) r1 r2 r3 r4), L, wQQ q)) 1 rfl ?_
          refine tv_top (show (nI (pa_sk tx T p)) + 7 = nI ((pa_sk tx T p) + 7) from nI_add (pa_sk tx T p) 7) ?_
          refine tv_b (pc' := 107) (ls' := [some (.ref 57), some (.int (nI (pa_sk tx T p))), some (.int 0), some (.int (nI ((pa_sk tx T p) + (pa_dl tx T (pa_sk tx T p))))), some (.int 7)]) (st' := [.int 0, .int (nI ((pa_sk tx T p) + 7)), .int (nI (pa_sk tx T p)), .int 39, .ref 57]) (h' := (n, sl, wKK kk, (spI I (nI t) r1 r2 r3 r4), L, wQQ q)) 1 rfl ?_
          refine tv_cvE [.int 39, .int (nI (pa_sk tx T p)), .int (nI ((pa_sk tx T p) + 7)), .int 0] [] rfl rfl (by omega) rfl (Nat.le_of_ble_eq_true rfl) (Nat.le_of_ble_eq_true rfl) (Or.inr (Or.inr rfl)) (ev_r_put (by omega)) ?_
          refine tv_b (pc' := 148) (ls' := [some (.ref 57), some (.int (nI (pa_sk tx T p))), some (.int 0), some (.int (nI ((pa_sk tx T p) + (pa_dl tx T (pa_sk tx T p))))), some (.int 7)]) (st' := [.int (nI ((pa_sk tx T p) + (pa_dl tx T (pa_sk tx T p))))]) (h' := (n, sl, wKK kk, (spI I (nI (t + 1)) (upd r1 t 39) (upd r2 t (nI (pa_sk tx T p))) (upd r3 t (nI ((pa_sk tx T p) + 7))) (upd r4 t 0)), L, wQQ q)) 2 rfl ?_
          refine tv_ri rfl ⟨by rw [hE], ?_⟩
          have ha : ¬ (0 < (pa_sk tx T p) ∧ (pa_lt (tx ((pa_sk tx T p) - 1)) || pa_dg (tx ((pa_sk tx T p) - 1))) = true) := by rintro ⟨q0, q⟩; rw [Bool.or_eq_true] at q; exact q.elim (fun q => c65 ⟨q0, q⟩) (fun q => c75 ⟨q0, q⟩)
          have E := pa_c_num (b := tx) hp hl0 hl ha
          have E1 := pa_kd_s (E.1.trans (if_pos (show 7 < (pa_dl tx T (pa_sk tx T p)) by omega)))
          refine ⟨0, fun q => absurd (E1.1.symm.trans q) (by decide), ?_⟩
          rw [E1.1, E1.2]
          rfl
      · refine tv_b (pc' := 84) (ls' := [some (.ref 57), some (.int (nI (pa_sk tx T p))), some (.int 0), some (.int (nI ((pa_sk tx T p) + (pa_dl tx T (pa_sk tx T p))))), some (.int 7)]) (st' := [.int 0, .int (nI (pa_sk tx T p)), .int (nI (pa_sk tx T p)), .int 39, .ref 57]) (h' := (n, sl, wKK kk, (spI I (nI t) r1 r2 r3 r4), L, wQQ q)) 5 rfl ?_
        refine tv_cvE [.int 39, .int (nI (pa_sk tx T p)), .int (nI (pa_sk tx T p)), .int 0] [] rfl rfl (by omega) rfl (Nat.le_of_ble_eq_true rfl) (Nat.le_of_ble_eq_true rfl) (Or.inr (Or.inr rfl)) (ev_r_put (by omega)) ?_
        refine tv_b (pc' := 148) (ls' := [some (.ref 57), some (.int (nI (pa_sk tx T p))), some (.int 0), some (.int (nI ((pa_sk tx T p) + (pa_dl tx T (pa_sk tx T p))))), some (.int 7)]) (st' := [.int (nI ((pa_sk tx T p) + (pa_dl tx T (pa_sk tx T p))))]) (h' := (n, sl, wKK kk, (spI I (nI (t + 1)) (upd r1 t 39) (upd r2 t (nI (pa_sk tx T p))) (upd r3 t (nI (pa_sk tx T p))) (upd r4 t 0)), L, wQQ q)) 2 rfl ?_
        refine tv_ri rfl ⟨by rw [hE], ?_⟩
        have E := pa_kd_s (pa_c_adj (b := tx) hp (by rw [Bool.or_eq_true]; exact Or.inr hl) c75.1 (by rw [Bool.or_eq_true]; exact Or.inr c75.2))
        refine ⟨0, fun q => absurd (E.1.symm.trans q) (by decide), ?_⟩
        rw [E.1, E.2]
        rfl
    · refine tv_b (pc' := 84) (ls' := [some (.ref 57), some (.int (nI (pa_sk tx T p))), some (.int 0), some (.int (nI ((pa_sk tx T p) + (pa_dl tx T (pa_sk tx T p))))), some (.int 7)]) (st' := [.int 0, .int (nI (pa_sk tx T p)), .int (nI (pa_sk tx T p)), .int 39, .ref 57]) (h' := (n, sl, wKK kk, (spI I (nI t) r1 r2 r3 r4), L, wQQ q)) 5 rfl ?_
      refine tv_cvE [.int 39, .int (nI (pa_sk tx T p)), .int (nI (pa_sk tx T p)), .int 0] [] rfl rfl (by omega) rfl (Nat.le_of_ble_eq_true rfl) (Nat.le_of_ble_eq_true rfl) (Or.inr (Or.inr rfl)) (ev_r_put (by omega)) ?_
      refine tv_b (pc' := 148) (ls' := [some (.ref 57), some (.int (nI (pa_sk tx T p))), some (.int 0), some (.int (nI ((pa_sk tx T p) + (pa_dl tx T (pa_sk tx T p))))), some (.int 7)]) (st' := [.int (nI ((pa_sk tx T p) + (pa_dl tx T (pa_sk tx T p))))]) (h' := (n, sl, wKK kk, (spI I (nI (t + 1)) (upd r1 t 39) (upd r2 t (nI (pa_sk tx T p))) (upd r3 t (nI (pa_sk tx T p))) (upd r4 t 0)), L, wQQ q)) 2 rfl ?_
      refine tv_ri rfl ⟨by rw [hE], ?_⟩
      have E := pa_kd_s (pa_c_adj (b := tx) hp (by rw [Bool.or_eq_true]; exact Or.inr hl) c65.1 (by rw [Bool.or_eq_true]; exact Or.inl c65.2))
      refine ⟨0, fun q => absurd (E.1.symm.trans q) (by decide), ?_⟩
      rw [E.1, E.2]
      rfl
  have loop : ∀ mm k : Nat, k + mm = (pa_dl tx T (pa_sk tx T p)) → am_T (d + 3) 84 8 [some (.ref 57), some (.int (nI (pa_sk tx T p))), some (.int 0), some (.int (nI ((pa_sk tx T p) + k))), none] [] (n, sl, wKK kk, (spI I (nI t) r1 r2 r3 r4), L, wQQ q) (fun rv h' => rv = some (.int (nI (pa_ed tx T p))) ∧ ∃ v, (pa_kd tx T p = 21 → v = nI (pa_nm tx T p)) ∧ h' = (n, sl, wKK kk, (spI I (nI (t + 1)) (upd r1 t (nI (pa_kd tx T p))) (upd r2 t (nI (pa_sk tx T p))) (upd r3 t (nI (pa_wg tx T p))) (upd r4 t v)), L, wQQ q)) := by
    intro mm
    induction mm with
    | zero =>
      intro k hk
      have hk : k = (pa_dl tx T (pa_sk tx T p)) := by omega
      rw [hk]
      refine tv_b (pc' := 13) (ls' := [some (.ref 57), some (.int (nI (pa_sk tx T p))), some (.int 0), some (.int (nI ((pa_sk tx T p) + (pa_dl tx T (pa_sk tx T p))))), none]) (st' := [.int (I 57 1), .int (nI ((pa_sk tx T p) + (pa_dl tx T (pa_sk tx T p))))]) (h' := (n, sl, wKK kk, (spI I (nI t) r1 r2 r3 r4), L, wQQ q)) 3 rfl ?_
      refine tv_top (hH.1) ?_
      refine tv_b (pc' := (if (nI T) ≤ (nI ((pa_sk tx T p) + (pa_dl tx T (pa_sk tx T p)))) then 45 else 16)) (ls' := [some (.ref 57), some (.int (nI (pa_sk tx T p))), some (.int 0), some (.int (nI ((pa_sk tx T p) + (pa_dl tx T (pa_sk tx T p))))), none]) (st' := []) (h' := (n, sl, wKK kk, (spI I (nI t) r1 r2 r3 r4), L, wQQ q)) 1 rfl ?_
      refine tv_ifq (nI_leI (a := T) (b := (pa_sk tx T p) + (pa_dl tx T (pa_sk tx T p))) (by omega) (by omega)) (fun c13 => ?_) (fun c13 => ?_)
      · exact tail
      · refine tv_b (pc' := 33) (ls' := [some (.ref 57), some (.int (nI (pa_sk tx T p))), some (.int 0), some (.int (nI ((pa_sk tx T p) + (pa_dl tx T (pa_sk tx T p))))), none]) (st' := [.int (nI ((pa_sk tx T p) + (pa_dl tx T (pa_sk tx T p)))), .ref 57]) (h' := (n, sl, wKK kk, (spI I (nI t) r1 r2 r3 r4), L, wQQ q)) 4 rfl ?_
        refine tv_cvE [.int (nI ((pa_sk tx T p) + (pa_dl tx T (pa_sk tx T p))))] [] rfl rfl (by omega) rfl (Nat.le_of_ble_eq_true rfl) (Nat.le_of_ble_eq_true rfl) (Or.inr (Or.inr rfl)) (ev_r_isDigit0 (rdH_s hH) (fun q => by have := hW3 (by omega); rw [this] at q; exact Bool.noConfusion q.2) (by omega)) ?_
        refine tv_b (pc' := 45) (ls' := [some (.ref 57), some (.int (nI (pa_sk tx T p))), some (.int 0), some (.int (nI ((pa_sk tx T p) + (pa_dl tx T (pa_sk tx T p))))), none]) (st' := []) (h' := (n, sl, wKK kk, (spI I (nI t) r1 r2 r3 r4), L, wQQ q)) 1 rfl ?_
        exact tail
    | succ mm ih =>
      intro k hk
      refine tv_b (pc' := 13) (ls' := [some (.ref 57), some (.int (nI (pa_sk tx T p))), some (.int 0), some (.int (nI ((pa_sk tx T p) + k))), none]) (st' := [.int (I 57 1), .int (nI ((pa_sk tx T p) + k))]) (h' := (n, sl, wKK kk, (spI I (nI t) r1 r2 r3 r4), L, wQQ q)) 3 rfl ?_
      refine tv_top (hH.1) ?_
      refine tv_b (pc' := (if (nI T) ≤ (nI ((pa_sk tx T p) + k)) then 45 else 16)) (ls' := [some (.ref 57), some (.int (nI (pa_sk tx T p))), some (.int 0), some (.int (nI ((pa_sk tx T p) + k))), none]) (st' := []) (h' := (n, sl, wKK kk, (spI I (nI t) r1 r2 r3 r4), L, wQQ q)) 1 rfl ?_
      refine tv_f (fun hq => absurd ((nI_leI (a := T) (b := (pa_sk tx T p) + k) (by omega) (by omega)).mp hq) (by omega)) ?_
      refine tv_b (pc' := 33) (ls' := [some (.ref 57), some (.int (nI (pa_sk tx T p))), some (.int 0), some (.int (nI ((pa_sk tx T p) + k))), none]) (st' := [.int (nI ((pa_sk tx T p) + k)), .ref 57]) (h' := (n, sl, wKK kk, (spI I (nI t) r1 r2 r3 r4), L, wQQ q)) 4 rfl ?_
      refine tv_cvE [.int (nI ((pa_sk tx T p) + k))] [] rfl rfl (by omega) rfl (Nat.le_of_ble_eq_true rfl) (Nat.le_of_ble_eq_true rfl) (Or.inr (Or.inr rfl)) (ev_r_isDigit1 (rdH_s hH) ⟨by omega, hW1 k (by omega)⟩) ?_
      refine tv_b (pc' := 39) (ls' := [some (.ref 57), some (.int (nI (pa_sk tx T p))), some (.int 0), some (.int (nI ((pa_sk tx T p) + k))), none]) (st' := []) (h' := (n, sl, wKK kk, (spI I (nI t) r1 r2 r3 r4), L, wQQ q)) 1 rfl ?_
      refine tv_iincN (k := ((pa_sk tx T p) + k)) (ls' := [some (.ref 57), some (.int (nI (pa_sk tx T p))), some (.int 0), some (.int (nI ((pa_sk tx T p) + k + 1))), none]) rfl rfl rfl ?_
      refine tv_b (pc' := 8) (ls' := [some (.ref 57), some (.int (nI (pa_sk tx T p))), some (.int 0), some (.int (nI ((pa_sk tx T p) + k + 1))), none]) (st' := []) (h' := (n, sl, wKK kk, (spI I (nI t) r1 r2 r3 r4), L, wQQ q)) 1 rfl ?_
      exact ih (k + 1) (by omega)
  show am_T _ _ 0 [some (.ref 57), some (.int (nI (pa_sk tx T p))), none, none, none] _ _ _
  refine tv_b (pc' := 2) (ls' := [some (.ref 57), some (.int (nI (pa_sk tx T p))), none, none, none]) (st' := [.int (nI (pa_sk tx T p)), .ref 57]) (h' := (n, sl, wKK kk, (spI I (nI t) r1 r2 r3 r4), L, wQQ q)) 2 rfl ?_
  refine tv_cvE [.int (nI (pa_sk tx T p))] [] rfl rfl (by omega) rfl (Nat.le_of_ble_eq_true rfl) (Nat.le_of_ble_eq_true rfl) (Or.inr (Or.inr rfl)) (ev_r_isLetter0 (rdH_s hH) (fun q => by rw [hl0] at q; exact Bool.noConfusion q.2) (by omega)) ?_
  refine tv_b (pc' := 8) (ls' := [some (.ref 57), some (.int (nI (pa_sk tx T p))), some (.int 0), some (.int (nI (pa_sk tx T p))), none]) (st' := []) (h' := (n, sl, wKK kk, (spI I (nI t) r1 r2 r3 r4), L, wQQ q)) 3 rfl ?_
  exact loop (pa_dl tx T (pa_sk tx T p)) 0 (by omega)
theorem rd_sg_lt (x : Nat) : rd_sg x ≤ 40 := by
  unfold rd_sg
  cases pa_bl x
  · show pa_sgn x ≤ 40
    unfold pa_sgn
    split <;> decide
  · exact Nat.le_refl _
theorem rd_sg_b {x : Nat} : rd_sg x = 40 ↔ pa_bl x = true := by
  unfold rd_sg
  cases pa_bl x
  · show pa_sgn x = 40 ↔ _
    unfold pa_sgn
    constructor
    · intro h; split at h <;> exact absurd h (by decide)
    · intro h; cases h
  · exact ⟨fun _ => rfl, fun _ => rfl⟩
theorem rd_sg_n {x : Nat} (h : pa_bl x = false) : rd_sg x = pa_sgn x := by
  unfold rd_sg
  rw [h]
  rfl
theorem tv_r_takeSign {d n sl : Nat} {kk : Nat → Nat × Nat} {I : Nat → Nat → Int32} {L : Nat → Nat → Int64} {q : Nat → Nat → Option Nat} {tx : Nat → Nat} {T : Nat} {i t : Nat} {r1 r2 r3 r4 : Nat → Int32} (hH : rdH tx T I) (hi : i < T) (ht : t ≤ 800) : am_T (d + 1) 82 0 (am_ent 3 [.ref 57, .int (nI i)]) [] (n, sl, wKK kk, (spI I (nI t) r1 r2 r3 r4), L, wQQ q) (fun rv h' => rv = none ∧ ((rd_sg (tx i) = 40 ∧ h' = (n, sl, wKK kk, (spI I (nI t) r1 r2 r3 r4), L, wQQ q)) ∨ (rd_sg (tx i) ≠ 40 ∧ h' = (n, sl, wKK kk, (spI I (nI (t + 1)) (upd r1 t (nI (rd_sg (tx i)))) (upd r2 t (nI i)) (upd r3 t (nI i)) (upd r4 t 0)), L, wQQ q)))) := by
  have hT := hH.2.1
  have hs := rd_sg_lt (tx i)
  show am_T _ _ 0 [some (.ref 57), some (.int (nI i)), none] _ _ _
  refine tv_b (pc' := 2) (ls' := [some (.ref 57), some (.int (nI i)), none]) (st' := [.int (nI i), .ref 57]) (h' := (n, sl, wKK kk, (spI I (nI t) r1 r2 r3 r4), L, wQQ q)) 2 rfl ?_
  refine tv_cvE [.int (nI i)] [] rfl rfl (by omega) rfl (Nat.le_of_ble_eq_true rfl) (Nat.le_of_ble_eq_true rfl) (Or.inr (Or.inr rfl)) (ev_r_signAt (rdH_s hH) hi) ?_
  refine tv_b (pc' := (if (nI (rd_sg (tx i))) = 40 then 20 else 12)) (ls' := [some (.ref 57), some (.int (nI i)), some (.int (nI (rd_sg (tx i))))]) (st' := []) (h' := (n, sl, wKK kk, (spI I (nI t) r1 r2 r3 r4), L, wQQ q)) 4 rfl ?_
  refine tv_ifq (nI_eq (a := (rd_sg (tx i))) (b := 40) (by omega) (by omega)) (fun c9 => ?_) (fun c9 => ?_)
  · exact tv_rv rfl ⟨rfl, Or.inl ⟨c9, rfl⟩⟩
  · refine tv_b (pc' := 17) (ls' := [some (.ref 57), some (.int (nI i)), some (.int (nI (rd_sg (tx i))))]) (st' := [.int 0, .int (nI i), .int (nI i), .int (nI (rd_sg (tx i))), .ref 57]) (h' := (n, sl, wKK kk, (spI I (nI t) r1 r2 r3 r4), L, wQQ q)) 5 rfl ?_
    refine tv_cvE [.int (nI (rd_sg (tx i))), .int (nI i), .int (nI i), .int 0] [] rfl rfl (by omega) rfl (Nat.le_of_ble_eq_true rfl) (Nat.le_of_ble_eq_true rfl) (Or.inr (Or.inr rfl)) (ev_r_put (by omega)) ?_
    exact tv_rv rfl ⟨rfl, Or.inr ⟨c9, rfl⟩⟩
theorem pa_bl_no {x : Nat} (h : pa_lt x = true ∨ pa_dg x = true) : pa_bl x = false := by
  cases hb : pa_bl x with
  | false => rfl
  | true =>
    exfalso
    unfold pa_bl at hb
    unfold pa_lt pa_dg at h
    rw [Bool.or_eq_true] at hb
    rw [Bool.and_eq_true, Bool.and_eq_true] at h
    have hx : x = 10 ∨ x = 32 := hb.imp Nat.eq_of_beq_eq_true Nat.eq_of_beq_eq_true
    rcases h with h | h
    · have := Nat.le_of_ble_eq_true h.1
      omega
    · have := Nat.le_of_ble_eq_true h.1
      omega
theorem pa_ed_sk_gt {b : Nat → Nat} {n p : Nat} (h : pa_sk b n p < n) : pa_sk b n p < pa_ed b n p ∧ pa_ed b n p ≤ n := by
  have h38 : pa_tk b n (pa_sk b n p) ≠ 38 := by
    rw [pa_tk_sk]
    unfold pa_tk
    simp only [if_pos h]
    split
    · unfold pa_wtk; split <;> omega
    · split
      · decide
      · unfold pa_sgn; split <;> decide
  have := pa_ed_gt h38
  rwa [pa_ed_sk] at this
theorem tv_r_split {d n sl : Nat} {kk : Nat → Nat × Nat} {I : Nat → Nat → Int32} {L : Nat → Nat → Int64} {q : Nat → Nat → Option Nat} {tx : Nat → Nat} {T : Nat} {xk : Int32} {r1 r2 r3 r4 : Nat → Int32} (hH : rdH tx T I) (hW : rdW kk I) : am_T (d + 4) 256 0 (am_ent 3 [.ref 57]) [] (n, sl, wKK kk, (spI I xk r1 r2 r3 r4), L, wQQ q) (fun rv h' => rv = none ∧ ∃ G r1 r2 r3 r4, G ≤ 800 ∧ spR tx T (G + 1) r1 r2 r3 r4 ∧ pa_sk tx T (pa_ps tx T G) = T ∧ h' = (n, sl, wKK kk, (spI I (nI (G + 1)) r1 r2 r3 r4), L, wQQ q)) := by
  have hT := hH.2.1
  have loop : ∀ f a i t : Nat, ∀ r1 r2 r3 r4 : Nat → Int32, T - a < f → a ≤ T → t ≤ a → i ≤ a → pa_sk tx T a = pa_sk tx T (pa_ps tx T t) → spR tx T t r1 r2 r3 r4 → am_T (d + 4) 256 9 [some (.ref 57), some (.int (nI a)), some (.int (nI i))] [] (n, sl, wKK kk, (spI I (nI t) r1 r2 r3 r4), L, wQQ q) (fun rv h' => rv = none ∧ ∃ G r1 r2 r3 r4, G ≤ 800 ∧ spR tx T (G + 1) r1 r2 r3 r4 ∧ pa_sk tx T (pa_ps tx T G) = T ∧ h' = (n, sl, wKK kk, (spI I (nI (G + 1)) r1 r2 r3 r4), L, wQQ q)) := by
    intro f
    induction f with
    | zero => intro a i t r1 r2 r3 r4 h; exact absurd h (Nat.not_lt_zero _)
    | succ f ih =>
      intro a i t r1 r2 r3 r4 hf ha hta hia hsk hR
      by_cases haT : a < T
      · refine tv_b (pc' := (if 800 ≤ (nI i) then 63 else 16)) (ls' := [some (.ref 57), some (.int (nI a)), some (.int (nI i))]) (st' := []) (h' := (n, sl, wKK kk, (spI I (nI t) r1 r2 r3 r4), L, wQQ q)) 3 rfl ?_
        refine tv_f (fun hq => absurd ((nI_leI (a := 800) (b := i) (by omega) (by omega)).mp hq) (by omega)) ?_
        refine tv_b (pc' := 21) (ls' := [some (.ref 57), some (.int (nI a)), some (.int (nI i))]) (st' := [.int (I 57 1), .int (nI a)]) (h' := (n, sl, wKK kk, (spI I (nI t) r1 r2 r3 r4), L, wQQ q)) 3 rfl ?_
        refine tv_top (hH.1) ?_
        refine tv_b (pc' := (if (nI T) ≤ (nI a) then 63 else 24)) (ls' := [some (.ref 57), some (.int (nI a)), some (.int (nI i))]) (st' := []) (h' := (n, sl, wKK kk, (spI I (nI t) r1 r2 r3 r4), L, wQQ q)) 1 rfl ?_
        refine tv_f (fun hq => absurd ((nI_leI (a := T) (b := a) (by omega) (by omega)).mp hq) (by omega)) ?_
        refine tv_b (pc' := 26) (ls' := [some (.ref 57), some (.int (nI a)), some (.int (nI i))]) (st' := [.int (nI a), .ref 57]) (h' := (n, sl, wKK kk, (spI I (nI t) r1 r2 r3 r4), L, wQQ q)) 2 rfl ?_
        refine tv_cvE [.int (nI a)] [] rfl rfl (by omega) rfl (Nat.le_of_ble_eq_true rfl) (Nat.le_of_ble_eq_true rfl) (Or.inr (Or.inr rfl)) (ev_r_isLetter (rdH_s hH) (by omega)) ?_
        refine tv_b (pc' := (if (if a < T ∧ pa_lt (tx a) = true then 1 else 0) = 0 then 32 else 40)) (ls' := [some (.ref 57), some (.int (nI a)), some (.int (nI i))]) (st' := []) (h' := (n, sl, wKK kk, (spI I (nI t) r1 r2 r3 r4), L, wQQ q)) 1 rfl ?_
        refine tv_b0 (fun c29 => ?_) (fun c29 => ?_)
        · refine tv_b (pc' := 34) (ls' := [some (.ref 57), some (.int (nI a)), some (.int (nI i))]) (st' := [.int (nI a), .ref 57]) (h' := (n, sl, wKK kk, (spI I (nI t) r1 r2 r3 r4), L, wQQ q)) 2 rfl ?_
          refine tv_cvE [.int (nI a)] [] rfl rfl (by omega) rfl (Nat.le_of_ble_eq_true rfl) (Nat.le_of_ble_eq_true rfl) (Or.inr (Or.inr rfl)) (ev_r_isDigit (rdH_s hH) (by omega)) ?_
          refine tv_b (pc' := (if (if a < T ∧ pa_dg (tx a) = true then 1 else 0) = 0 then 49 else 40)) (ls' := [some (.ref 57), some (.int (nI a)), some (.int (nI i))]) (st' := []) (h' := (n, sl, wKK kk, (spI I (nI t) r1 r2 r3 r4), L, wQQ q)) 1 rfl ?_
          refine tv_b0 (fun c37 => ?_) (fun c37 => ?_)
          · refine tv_b (pc' := 51) (ls' := [some (.ref 57), some (.int (nI a)), some (.int (nI i))]) (st' := [.int (nI a), .ref 57]) (h' := (n, sl, wKK kk, (spI I (nI t) r1 r2 r3 r4), L, wQQ q)) 2 rfl ?_
            refine tv_cv [.int (nI a)] [] rfl rfl (by omega) rfl (Nat.le_of_ble_eq_true rfl) (Nat.le_of_ble_eq_true rfl) (Or.inr (Or.inr rfl)) (tv_r_takeSign hH haT (by omega)) ?_
            rintro rv9 h9 ⟨rfl, ⟨hs9, rfl⟩ | ⟨hs9, rfl⟩⟩
            · refine tv_iincN (k := a) (ls' := [some (.ref 57), some (.int (nI (a + 1))), some (.int (nI i))]) rfl rfl rfl ?_
              refine tv_iincN (k := i) (ls' := [some (.ref 57), some (.int (nI (a + 1))), some (.int (nI (i + 1)))]) rfl rfl rfl ?_
              refine tv_b (pc' := 9) (ls' := [some (.ref 57), some (.int (nI (a + 1))), some (.int (nI (i + 1)))]) (st' := []) (h' := (n, sl, wKK kk, (spI I (nI t) r1 r2 r3 r4), L, wQQ q)) 1 rfl ?_
              have e9 := pa_sk_s (b := tx) (n := T) haT (rd_sg_b.mp hs9)
              exact ih (a + 1) (i + 1) t _ _ _ _ (by omega) (by omega) (by omega) (by omega) (by rw [← e9]; exact hsk) hR
            · refine tv_iincN (k := a) (ls' := [some (.ref 57), some (.int (nI (a + 1))), some (.int (nI i))]) rfl rfl rfl ?_
              refine tv_iincN (k := i) (ls' := [some (.ref 57), some (.int (nI (a + 1))), some (.int (nI (i + 1)))]) rfl rfl rfl ?_
              refine tv_b (pc' := 9) (ls' := [some (.ref 57), some (.int (nI (a + 1))), some (.int (nI (i + 1)))]) (st' := []) (h' := (n, sl, wKK kk, (spI I (nI (t + 1)) (upd r1 t (nI (rd_sg (tx a)))) (upd r2 t (nI a)) (upd r3 t (nI a)) (upd r4 t 0)), L, wQQ q)) 1 rfl ?_
              have hb : pa_bl (tx a) = false := Bool.eq_false_iff.mpr (fun q => hs9 (rd_sg_b.mpr q))
              have ea : pa_sk tx T (pa_ps tx T t) = a := hsk.symm.trans (pa_sk_0 hb)
              have E := pa_c_sign (b := tx) (n := T) (p := pa_ps tx T t) (by rw [ea]; exact haT) (by rw [ea]; exact Bool.eq_false_iff.mpr (fun q => c29 ⟨haT, q⟩)) (by rw [ea]; exact Bool.eq_false_iff.mpr (fun q => c37 ⟨haT, q⟩))
              rw [ea] at E
              have E1 := pa_kd_n E.1
              have e9 : pa_ps tx T (t + 1) = a + 1 := E.2.2
              exact ih (a + 1) (i + 1) (t + 1) _ _ _ _ (by omega) (by omega) (by omega) (by omega) (by rw [e9]) (spR_s hR (by rw [E1.1, E.2.1, rd_sg_n hb]) (by rw [ea]) (by rw [E1.2, ea]) (fun q => absurd ((E1.1.trans E.2.1).symm.trans q) (pa_sgn_ne _)))
          · refine tv_b (pc' := 42) (ls' := [some (.ref 57), some (.int (nI a)), some (.int (nI i))]) (st' := [.int (nI a), .ref 57]) (h' := (n, sl, wKK kk, (spI I (nI t) r1 r2 r3 r4), L, wQQ q)) 2 rfl ?_
            have hq := c37
            have hb : pa_bl (tx a) = false := pa_bl_no (Or.inr hq.2)
            have hq0 : pa_lt (tx a) = false := Bool.eq_false_iff.mpr (fun q => c29 ⟨haT, q⟩)
            have ea : pa_sk tx T (pa_ps tx T t) = a := hsk.symm.trans (pa_sk_0 hb)
            have hg := pa_ed_sk_gt (b := tx) (n := T) (p := pa_ps tx T t) (by rw [ea]; exact haT)
            rw [ea] at hg
            have K := tv_r_takeRunD (d := d) (n := n) (sl := sl) (kk := kk) (L := L) (q := q) (p := pa_ps tx T t) (t := t) (r1 := r1) (r2 := r2) (r3 := r3) (r4 := r4) hH hW (by rw [ea]; exact haT) (by rw [ea]; exact hq0) (by rw [ea]; exact hq.2) (by omega)
            rw [ea] at K
            refine tv_cv [.int (nI a)] [] rfl rfl (by omega) rfl (Nat.le_of_ble_eq_true rfl) (Nat.le_of_ble_eq_true rfl) (Or.inr (Or.inr rfl)) (K) ?_
            rintro rv9 h9 ⟨rfl, v9, hv9, rfl⟩
            refine tv_b (pc' := 57) (ls' := [some (.ref 57), some (.int (nI (pa_ed tx T (pa_ps tx T t)))), some (.int (nI i))]) (st' := []) (h' := (n, sl, wKK kk, (spI I (nI (t + 1)) (upd r1 t (nI (pa_kd tx T (pa_ps tx T t)))) (upd r2 t (nI a)) (upd r3 t (nI (pa_wg tx T (pa_ps tx T t)))) (upd r4 t v9)), L, wQQ q)) 2 rfl ?_
            refine tv_iincN (k := i) (ls' := [some (.ref 57), some (.int (nI (pa_ed tx T (pa_ps tx T t)))), some (.int (nI (i + 1)))]) rfl rfl rfl ?_
            refine tv_b (pc' := 9) (ls' := [some (.ref 57), some (.int (nI (pa_ed tx T (pa_ps tx T t)))), some (.int (nI (i + 1)))]) (st' := []) (h' := (n, sl, wKK kk, (spI I (nI (t + 1)) (upd r1 t (nI (pa_kd tx T (pa_ps tx T t)))) (upd r2 t (nI a)) (upd r3 t (nI (pa_wg tx T (pa_ps tx T t)))) (upd r4 t v9)), L, wQQ q)) 1 rfl ?_
            exact ih _ (i + 1) (t + 1) _ _ _ _ (by omega) hg.2 (by omega) (by omega) rfl (spR_s hR rfl (by rw [ea]) rfl hv9)
        · refine tv_b (pc' := 42) (ls' := [some (.ref 57), some (.int (nI a)), some (.int (nI i))]) (st' := [.int (nI a), .ref 57]) (h' := (n, sl, wKK kk, (spI I (nI t) r1 r2 r3 r4), L, wQQ q)) 2 rfl ?_
          have hq := c29
          have hb : pa_bl (tx a) = false := pa_bl_no (Or.inl hq.2)
          have ea : pa_sk tx T (pa_ps tx T t) = a := hsk.symm.trans (pa_sk_0 hb)
          have hg := pa_ed_sk_gt (b := tx) (n := T) (p := pa_ps tx T t) (by rw [ea]; exact haT)
          rw [ea] at hg
          have K := tv_r_takeRunW (d := d) (n := n) (sl := sl) (kk := kk) (L := L) (q := q) (p := pa_ps tx T t) (t := t) (r1 := r1) (r2 := r2) (r3 := r3) (r4 := r4) hH hW (by rw [ea]; exact haT) (by rw [ea]; exact hq.2) (by omega)
          rw [ea] at K
          refine tv_cv [.int (nI a)] [] rfl rfl (by omega) rfl (Nat.le_of_ble_eq_true rfl) (Nat.le_of_ble_eq_true rfl) (Or.inr (Or.inr rfl)) (K) ?_
          rintro rv9 h9 ⟨rfl, v9, hv9, rfl⟩
          refine tv_b (pc' := 57) (ls' := [some (.ref 57), some (.int (nI (pa_ed tx T (pa_ps tx T t)))), some (.int (nI i))]) (st' := []) (h' := (n, sl, wKK kk, (spI I (nI (t + 1)) (upd r1 t (nI (pa_kd tx T (pa_ps tx T t)))) (upd r2 t (nI a)) (upd r3 t (nI (pa_wg tx T (pa_ps tx T t)))) (upd r4 t v9)), L, wQQ q)) 2 rfl ?_
          refine tv_iincN (k := i) (ls' := [some (.ref 57), some (.int (nI (pa_ed tx T (pa_ps tx T t)))), some (.int (nI (i + 1)))]) rfl rfl rfl ?_
          refine tv_b (pc' := 9) (ls' := [some (.ref 57), some (.int (nI (pa_ed tx T (pa_ps tx T t)))), some (.int (nI (i + 1)))]) (st' := []) (h' := (n, sl, wKK kk, (spI I (nI (t + 1)) (upd r1 t (nI (pa_kd tx T (pa_ps tx T t)))) (upd r2 t (nI a)) (upd r3 t (nI (pa_wg tx T (pa_ps tx T t)))) (upd r4 t v9)), L, wQQ q)) 1 rfl ?_
          exact ih _ (i + 1) (t + 1) _ _ _ _ (by omega) hg.2 (by omega) (by omega) rfl (spR_s hR rfl (by rw [ea]) rfl hv9)
      · refine tv_b (pc' := (if 800 ≤ (nI i) then 63 else 16)) (ls' := [some (.ref 57), some (.int (nI a)), some (.int (nI i))]) (st' := []) (h' := (n, sl, wKK kk, (spI I (nI t) r1 r2 r3 r4), L, wQQ q)) 3 rfl ?_
        refine tv_ifq (nI_leI (a := 800) (b := i) (by omega) (by omega)) (fun c13 => ?_) (fun c13 => ?_)
        · refine tv_b (pc' := 70) (ls' := [some (.ref 57), some (.int (nI a)), some (.int (nI i))]) (st' := [.int (I 57 1), .int 38, .ref 57]) (h' := (n, sl, wKK kk, (spI I (nI t) r1 r2 r3 r4), L, wQQ q)) 4 rfl ?_
          refine tv_top (hH.1) ?_
          refine tv_b (pc' := 74) (ls' := [some (.ref 57), some (.int (nI a)), some (.int (nI i))]) (st' := [.int (I 57 1), .int (nI T), .int 38, .ref 57]) (h' := (n, sl, wKK kk, (spI I (nI t) r1 r2 r3 r4), L, wQQ q)) 2 rfl ?_
          refine tv_top (hH.1) ?_
          refine tv_b (pc' := 75) (ls' := [some (.ref 57), some (.int (nI a)), some (.int (nI i))]) (st' := [.int 0, .int (nI T), .int (nI T), .int 38, .ref 57]) (h' := (n, sl, wKK kk, (spI I (nI t) r1 r2 r3 r4), L, wQQ q)) 1 rfl ?_
          refine tv_cvE [.int 38, .int (nI T), .int (nI T), .int 0] [] rfl rfl (by omega) rfl (Nat.le_of_ble_eq_true rfl) (Nat.le_of_ble_eq_true rfl) (Or.inr (Or.inr rfl)) (ev_r_put (by omega)) ?_
          have ea : pa_sk tx T (pa_ps tx T t) = T := by rw [← hsk, pa_sk_end (b := tx) (n := T) (p := a) (by omega)]; omega
          have E := pa_c_end (b := tx) (n := T) (p := pa_ps tx T t) (by omega)
          have E1 := pa_kd_n E.1
          exact tv_rv rfl ⟨rfl, t, _, _, _, _, by omega, spR_s hR (by rw [E1.1, E.2.1]; rfl) (by rw [ea]) (by rw [E1.2, ea]) (fun q => absurd ((E1.1.trans E.2.1).symm.trans q) (by decide)), ea, rfl⟩
        · refine tv_b (pc' := 21) (ls' := [some (.ref 57), some (.int (nI a)), some (.int (nI i))]) (st' := [.int (I 57 1), .int (nI a)]) (h' := (n, sl, wKK kk, (spI I (nI t) r1 r2 r3 r4), L, wQQ q)) 3 rfl ?_
          refine tv_top (hH.1) ?_
          refine tv_b (pc' := (if (nI T) ≤ (nI a) then 63 else 24)) (ls' := [some (.ref 57), some (.int (nI a)), some (.int (nI i))]) (st' := []) (h' := (n, sl, wKK kk, (spI I (nI t) r1 r2 r3 r4), L, wQQ q)) 1 rfl ?_
          refine tv_t ((nI_leI (a := T) (b := a) (by omega) (by omega)).mpr (by omega)) ?_
          refine tv_b (pc' := 70) (ls' := [some (.ref 57), some (.int (nI a)), some (.int (nI i))]) (st' := [.int (I 57 1), .int 38, .ref 57]) (h' := (n, sl, wKK kk, (spI I (nI t) r1 r2 r3 r4), L, wQQ q)) 4 rfl ?_
          refine tv_top (hH.1) ?_
          refine tv_b (pc' := 74) (ls' := [some (.ref 57), some (.int (nI a)), some (.int (nI i))]) (st' := [.int (I 57 1), .int (nI T), .int 38, .ref 57]) (h' := (n, sl, wKK kk, (spI I (nI t) r1 r2 r3 r4), L, wQQ q)) 2 rfl ?_
          refine tv_top (hH.1) ?_
          refine tv_b (pc' := 75) (ls' := [some (.ref 57), some (.int (nI a)), some (.int (nI i))]) (st' := [.int 0, .int (nI T), .int (nI T), .int 38, .ref 57]) (h' := (n, sl, wKK kk, (spI I (nI t) r1 r2 r3 r4), L, wQQ q)) 1 rfl ?_
          refine tv_cvE [.int 38, .int (nI T), .int (nI T), .int 0] [] rfl rfl (by omega) rfl (Nat.le_of_ble_eq_true rfl) (Nat.le_of_ble_eq_true rfl) (Or.inr (Or.inr rfl)) (ev_r_put (by omega)) ?_
          have ea : pa_sk tx T (pa_ps tx T t) = T := by rw [← hsk, pa_sk_end (b := tx) (n := T) (p := a) (by omega)]; omega
          have E := pa_c_end (b := tx) (n := T) (p := pa_ps tx T t) (by omega)
          have E1 := pa_kd_n E.1
          exact tv_rv rfl ⟨rfl, t, _, _, _, _, by omega, spR_s hR (by rw [E1.1, E.2.1]; rfl) (by rw [ea]) (by rw [E1.2, ea]) (fun q => absurd ((E1.1.trans E.2.1).symm.trans q) (by decide)), ea, rfl⟩
  show am_T _ _ 0 [some (.ref 57), none, none] _ _ _
  refine tv_b (pc' := 5) (ls' := [some (.ref 57), none, none]) (st' := []) (h' := (n, sl, wKK kk, va_up (spI I xk r1 r2 r3 r4) 57 (upd ((spI I xk r1 r2 r3 r4) 57) 6 0), L, wQQ q)) 3 rfl ?_
  refine tv_hI spI_w_xk ?_
  refine tv_b (pc' := 9) (ls' := [some (.ref 57), some (.int 0), some (.int 0)]) (st' := []) (h' := (n, sl, wKK kk, (spI I 0 r1 r2 r3 r4), L, wQQ q)) 4 rfl ?_
  exact loop (T + 1) 0 0 0 _ _ _ _ (by omega) (Nat.zero_le _) (Nat.le_refl _) (Nat.le_refl _) rfl (fun g hg => absurd hg (Nat.not_lt_zero g))
