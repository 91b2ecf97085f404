/-! THE CLASS'S READER: the next token -/
/-- the store behind a fault -/
def rdFs (k pl T : Nat) (I I' : Nat → Nat → Int32) : Prop := ∃ s a nm c cd, a ≤ T ∧ c ≤ 800 ∧ I' = rdI I (nI s) (nI a) 39 nm (nI k) (nI pl) (nI c) cd
/-- the store behind the next token, the one ahead having ended at A -/
def rdN (tx : Nat → Nat) (T A ce : Nat) (cd : Nat → Int32) (I I' : Nat → Nat → Int32) : Prop := match pa_lf tx T A with
  | some f => rdFs 1 f T I I'
  | none => ∃ nm, (pa_tk tx T A = 21 → nm = nI (pa_nm tx T A)) ∧ I' = rdI I (nI (pa_sk tx T A)) (nI (pa_ed tx T A)) (nI (pa_tk tx T A)) nm 0 (-1) (nI ce) cd
section PJ
variable {b : Nat → Nat} {n p : Nat}
theorem pa_c_end (h : ¬ pa_sk b n p < n) : pa_lf b n p = none ∧ pa_tk b n p = 38 ∧ pa_ed b n p = pa_sk b n p := by
  unfold pa_lf pa_tk pa_ed
  simp only [if_neg h]
  exact ⟨trivial, trivial, trivial⟩
theorem pa_c_sign (h : pa_sk b n p < n) (hl : pa_lt (b (pa_sk b n p)) = false) (hd : pa_dg (b (pa_sk b n p)) = false) : pa_lf b n p = none ∧ pa_tk b n p = pa_sgn (b (pa_sk b n p)) ∧ pa_ed b n p = pa_sk b n p + 1 := by
  unfold pa_lf pa_tk pa_ed
  simp only [if_pos h, hl, hd, Bool.or_false, Bool.false_eq_true, if_false]
  exact ⟨trivial, trivial, trivial⟩
theorem pa_c_adj (h : pa_sk b n p < n) (hl : (pa_lt (b (pa_sk b n p)) || pa_dg (b (pa_sk b n p))) = true) (h0 : 0 < pa_sk b n p) (ha : (pa_lt (b (pa_sk b n p - 1)) || pa_dg (b (pa_sk b n p - 1))) = true) : pa_lf b n p = some (pa_sk b n p) := by
  unfold pa_lf
  simp only [if_pos h, hl, if_true, if_pos (And.intro h0 ha)]
theorem pa_c_word (h : pa_sk b n p < n) (hl : pa_lt (b (pa_sk b n p)) = true) (ha : ¬ (0 < pa_sk b n p ∧ (pa_lt (b (pa_sk b n p - 1)) || pa_dg (b (pa_sk b n p - 1))) = true)) : pa_lf b n p = (if 8 < pa_wl b n (pa_sk b n p) then some (pa_sk b n p + 8) else none) ∧ pa_tk b n p = pa_wtk (pa_bs b (pa_sk b n p) (pa_wl b n (pa_sk b n p))) ∧ pa_ed b n p = pa_sk b n p + pa_wl b n (pa_sk b n p) := by
  unfold pa_lf pa_tk pa_ed
  simp only [if_pos h, hl, Bool.true_or, if_true, if_neg ha]
  exact ⟨trivial, trivial, trivial⟩
theorem pa_c_num (h : pa_sk b n p < n) (hl : pa_lt (b (pa_sk b n p)) = false) (hd : pa_dg (b (pa_sk b n p)) = true) (ha : ¬ (0 < pa_sk b n p ∧ (pa_lt (b (pa_sk b n p - 1)) || pa_dg (b (pa_sk b n p - 1))) = true)) : pa_lf b n p = (if 7 < pa_dl b n (pa_sk b n p) then some (pa_sk b n p + 7) else none) ∧ pa_tk b n p = 21 ∧ pa_ed b n p = pa_sk b n p + pa_dl b n (pa_sk b n p) := by
  unfold pa_lf pa_tk pa_ed
  simp only [if_pos h, hl, hd, Bool.or_true, Bool.false_eq_true, if_false, if_true, if_neg ha]
  exact ⟨trivial, trivial, trivial⟩
theorem pa_wtk_ne (l : List Nat) : pa_wtk l ≠ 21 := by
  unfold pa_wtk
  split <;> omega
theorem pa_sgn_ne (x : Nat) : pa_sgn x ≠ 21 := by
  unfold pa_sgn
  split <;> decide
end PJ
theorem ev_r_nextF {d n sl : Nat} {kk : Nat → Nat × Nat} {I : Nat → Nat → Int32} {L : Nat → Nat → Int64} {q : Nat → Nat → Option Nat} {xs xa xt xm xf xl xc : Int32} {cd : Nat → Int32} (hf : ¬ xf = 0) : am_Ev d 83 0 (am_ent 2 [.ref 57]) [] (n, sl, wKK kk, (rdI I xs xa xt xm xf xl xc cd), L, wQQ q) (none, (n, sl, wKK kk, (rdI I xs xa xt xm xf xl xc cd), L, wQQ q)) := by
  refine tv_ev ?_
  show am_T _ _ 0 [some (.ref 57), none] _ _ _
  refine tv_b (pc' := (if xf = 0 then 8 else 7)) (ls' := [some (.ref 57), none]) (st' := []) (h' := (n, sl, wKK kk, (rdI I xs xa xt xm xf xl xc cd), L, wQQ q)) 3 rfl ?_
  refine tv_f (hf) ?_
  exact tv_rv rfl ⟨rfl, rfl⟩
set_option maxHeartbeats 4000000 in
theorem tv_r_next {d n sl : Nat} {kk : Nat → Nat × Nat} {I : Nat → Nat → Int32} {L : Nat → Nat → Int64} {q : Nat → Nat → Option Nat} {tx : Nat → Nat} {T : Nat} {xs xt xm : Int32} {cd : Nat → Int32} {A ce : Nat} (hH : rdH tx T I) (hW : rdW kk I) (hA : A ≤ T) (hce : ce ≤ 800) : am_T (d + 3) 83 0 (am_ent 2 [.ref 57]) [] (n, sl, wKK kk, (rdI I xs (nI A) xt xm 0 (-1) (nI ce) cd), L, wQQ q) (fun rv h' => rv = none ∧ ∃ I', h' = (n, sl, wKK kk, I', L, wQQ q) ∧ rdN tx T A ce cd I I') := by
  have hT := hH.2.1
  have hsk := pa_sk_le (b := tx) hA
  unfold rdN
  show am_T _ _ 0 [some (.ref 57), none] _ _ _
  refine tv_b (pc' := 9) (ls' := [some (.ref 57), none]) (st' := [.ref 57]) (h' := (n, sl, wKK kk, (rdI I xs (nI A) xt xm 0 (-1) (nI ce) cd), L, wQQ q)) 4 rfl ?_
  refine tv_cv [] [] rfl rfl (by omega) rfl (Nat.le_of_ble_eq_true rfl) (Nat.le_of_ble_eq_true rfl) (Or.inr (Or.inr rfl)) (tv_r_isMore hH _ A rfl hA) ?_
  rintro rv9 h9 ⟨rfl, rfl⟩
  refine tv_b (pc' := 21) (ls' := [some (.ref 57), some (.int (if pa_sk tx T A < T then 1 else 0))]) (st' := []) (h' := (n, sl, wKK kk, va_up (rdI I xs (nI (pa_sk tx T A)) xt xm 0 (-1) (nI ce) cd) 57 (upd ((rdI I xs (nI (pa_sk tx T A)) xt xm 0 (-1) (nI ce) cd) 57) 2 (nI (pa_sk tx T A))), L, wQQ q)) 5 rfl ?_
  refine tv_hI rdI_w_xs ?_
  refine tv_b (pc' := (if (if pa_sk tx T A < T then 1 else 0) = 0 then 25 else 34)) (ls' := [some (.ref 57), some (.int (if pa_sk tx T A < T then 1 else 0))]) (st' := []) (h' := (n, sl, wKK kk, (rdI I (nI (pa_sk tx T A)) (nI (pa_sk tx T A)) xt xm 0 (-1) (nI ce) cd), L, wQQ q)) 2 rfl ?_
  refine tv_b0 (fun c22 => ?_) (fun c22 => ?_)
  · refine tv_b (pc' := 31) (ls' := [some (.ref 57), some (.int (if pa_sk tx T A < T then 1 else 0))]) (st' := []) (h' := (n, sl, wKK kk, va_up (rdI I (nI (pa_sk tx T A)) (nI (pa_sk tx T A)) xt xm 0 (-1) (nI ce) cd) 57 (upd ((rdI I (nI (pa_sk tx T A)) (nI (pa_sk tx T A)) xt xm 0 (-1) (nI ce) cd) 57) 4 38), L, wQQ q)) 3 rfl ?_
    refine tv_hI rdI_w_xt ?_
    refine tv_b (pc' := 141) (ls' := [some (.ref 57), some (.int (if pa_sk tx T A < T then 1 else 0))]) (st' := []) (h' := (n, sl, wKK kk, (rdI I (nI (pa_sk tx T A)) (nI (pa_sk tx T A)) 38 xm 0 (-1) (nI ce) cd), L, wQQ q)) 1 rfl ?_
    have E := pa_c_end (b := tx) c22
    refine tv_rv rfl ⟨rfl, _, rfl, ?_⟩
    rw [E.1]
    exact ⟨_, fun q => absurd (E.2.1.symm.trans q) (by decide), by rw [E.2.1, E.2.2]; try (first | rfl | (rw [pa_nm_e h8]; rfl))⟩
  · refine tv_b (pc' := 39) (ls' := [some (.ref 57), some (.int (if pa_sk tx T A < T then 1 else 0))]) (st' := [.int (nI (pa_sk tx T A)), .ref 57]) (h' := (n, sl, wKK kk, (rdI I (nI (pa_sk tx T A)) (nI (pa_sk tx T A)) xt xm 0 (-1) (nI ce) cd), L, wQQ q)) 3 rfl ?_
    refine tv_cvE [.int (nI (pa_sk tx T A))] [] rfl rfl (by omega) rfl (Nat.le_of_ble_eq_true rfl) (Nat.le_of_ble_eq_true rfl) (Or.inr (Or.inr rfl)) (ev_r_isLetter (rdH_c hH) (by omega)) ?_
    refine tv_b (pc' := (if (if (pa_sk tx T A) < T ∧ pa_lt (tx (pa_sk tx T A)) = true then 1 else 0) = 0 then 45 else 81)) (ls' := [some (.ref 57), some (.int (if pa_sk tx T A < T then 1 else 0))]) (st' := []) (h' := (n, sl, wKK kk, (rdI I (nI (pa_sk tx T A)) (nI (pa_sk tx T A)) xt xm 0 (-1) (nI ce) cd), L, wQQ q)) 1 rfl ?_
    refine tv_b0 (fun c42 => ?_) (fun c42 => ?_)
    · refine tv_b (pc' := 50) (ls' := [some (.ref 57), some (.int (if pa_sk tx T A < T then 1 else 0))]) (st' := [.int (nI (pa_sk tx T A)), .ref 57]) (h' := (n, sl, wKK kk, (rdI I (nI (pa_sk tx T A)) (nI (pa_sk tx T A)) xt xm 0 (-1) (nI ce) cd), L, wQQ q)) 3 rfl ?_
      refine tv_cvE [.int (nI (pa_sk tx T A))] [] rfl rfl (by omega) rfl (Nat.le_of_ble_eq_true rfl) (Nat.le_of_ble_eq_true rfl) (Or.inr (Or.inr rfl)) (ev_r_isDigit (rdH_c hH) (by omega)) ?_
      refine tv_b (pc' := (if (if (pa_sk tx T A) < T ∧ pa_dg (tx (pa_sk tx T A)) = true then 1 else 0) = 0 then 56 else 81)) (ls' := [some (.ref 57), some (.int (if pa_sk tx T A < T then 1 else 0))]) (st' := []) (h' := (n, sl, wKK kk, (rdI I (nI (pa_sk tx T A)) (nI (pa_sk tx T A)) xt xm 0 (-1) (nI ce) cd), L, wQQ q)) 1 rfl ?_
      refine tv_b0 (fun c53 => ?_) (fun c53 => ?_)
      · refine tv_b (pc' := 62) (ls' := [some (.ref 57), some (.int (if pa_sk tx T A < T then 1 else 0))]) (st' := [.int (nI (pa_sk tx T A)), .ref 57, .ref 57]) (h' := (n, sl, wKK kk, (rdI I (nI (pa_sk tx T A)) (nI (pa_sk tx T A)) xt xm 0 (-1) (nI ce) cd), L, wQQ q)) 4 rfl ?_
        refine tv_cvE [.int (nI (pa_sk tx T A))] [.ref 57] rfl rfl (by omega) rfl (Nat.le_of_ble_eq_true rfl) (Nat.le_of_ble_eq_true rfl) (Or.inr (Or.inr rfl)) (ev_r_signAt (rdH_c hH) c22) ?_
        refine tv_b (pc' := 68) (ls' := [some (.ref 57), some (.int (if pa_sk tx T A < T then 1 else 0))]) (st' := []) (h' := (n, sl, wKK kk, va_up (rdI I (nI (pa_sk tx T A)) (nI (pa_sk tx T A)) xt xm 0 (-1) (nI ce) cd) 57 (upd ((rdI I (nI (pa_sk tx T A)) (nI (pa_sk tx T A)) xt xm 0 (-1) (nI ce) cd) 57) 4 (nI (pa_sgn (tx (pa_sk tx T A))))), L, wQQ q)) 1 rfl ?_
        refine tv_hI rdI_w_xt ?_
        refine tv_b (pc' := 74) (ls' := [some (.ref 57), some (.int (if pa_sk tx T A < T then 1 else 0))]) (st' := [.int 1, .int (nI (pa_sk tx T A)), .ref 57]) (h' := (n, sl, wKK kk, (rdI I (nI (pa_sk tx T A)) (nI (pa_sk tx T A)) (nI (pa_sgn (tx (pa_sk tx T A)))) xm 0 (-1) (nI ce) cd), L, wQQ q)) 4 rfl ?_
        refine tv_b (pc' := 75) (ls' := [some (.ref 57), some (.int (if pa_sk tx T A < T then 1 else 0))]) (st' := [.int ((nI (pa_sk tx T A)) + 1), .ref 57]) (h' := (n, sl, wKK kk, (rdI I (nI (pa_sk tx T A)) (nI (pa_sk tx T A)) (nI (pa_sgn (tx (pa_sk tx T A)))) xm 0 (-1) (nI ce) cd), L, wQQ q)) 1 rfl ?_
        refine tv_top (show (nI (pa_sk tx T A)) + 1 = nI ((pa_sk tx T A) + 1) from nI_add (pa_sk tx T A) 1) ?_
        refine tv_b (pc' := 78) (ls' := [some (.ref 57), some (.int (if pa_sk tx T A < T then 1 else 0))]) (st' := []) (h' := (n, sl, wKK kk, va_up (rdI I (nI (pa_sk tx T A)) (nI (pa_sk tx T A)) (nI (pa_sgn (tx (pa_sk tx T A)))) xm 0 (-1) (nI ce) cd) 57 (upd ((rdI I (nI (pa_sk tx T A)) (nI (pa_sk tx T A)) (nI (pa_sgn (tx (pa_sk tx T A)))) xm 0 (-1) (nI ce) cd) 57) 3 (nI ((pa_sk tx T A) + 1))), L, wQQ q)) 1 rfl ?_
        refine tv_hI rdI_w_xa ?_
        refine tv_b (pc' := 141) (ls' := [some (.ref 57), some (.int (if pa_sk tx T A < T then 1 else 0))]) (st' := []) (h' := (n, sl, wKK kk, (rdI I (nI (pa_sk tx T A)) (nI ((pa_sk tx T A) + 1)) (nI (pa_sgn (tx (pa_sk tx T A)))) xm 0 (-1) (nI ce) cd), L, wQQ q)) 1 rfl ?_
        have E := pa_c_sign (b := tx) c22 (Bool.eq_false_iff.mpr (fun q => c42 ⟨c22, q⟩)) (Bool.eq_false_iff.mpr (fun q => c53 ⟨c22, q⟩))
        refine tv_rv rfl ⟨rfl, _, rfl, ?_⟩
        rw [E.1]
        exact ⟨_, fun q => absurd (E.2.1.symm.trans q) (pa_sgn_ne _), by rw [E.2.1, E.2.2]; try (first | rfl | (rw [pa_nm_e h8]; rfl))⟩
      · rcases Nat.eq_zero_or_pos (pa_sk tx T A) with h0 | h0
        · refine tv_b (pc' := 88) (ls' := [some (.ref 57), some (.int (if pa_sk tx T A < T then 1 else 0))]) (st' := [.int ((nI (pa_sk tx T A)) - 1), .ref 57]) (h' := (n, sl, wKK kk, (rdI I (nI (pa_sk tx T A)) (nI (pa_sk tx T A)) xt xm 0 (-1) (nI ce) cd), L, wQQ q)) 5 rfl ?_
          refine tv_top (show (nI (pa_sk tx T A)) - 1 = -1 from by rw [h0]; rfl) ?_
          refine tv_cvE [.int (-1)] [] rfl rfl (by omega) rfl (Nat.le_of_ble_eq_true rfl) (Nat.le_of_ble_eq_true rfl) (Or.inr (Or.inr rfl)) (ev_r_isLetterM (tx := tx) (T := T)) ?_
          refine tv_b (pc' := 101) (ls' := [some (.ref 57), some (.int (if pa_sk tx T A < T then 1 else 0))]) (st' := [.int ((nI (pa_sk tx T A)) - 1), .ref 57]) (h' := (n, sl, wKK kk, (rdI I (nI (pa_sk tx T A)) (nI (pa_sk tx T A)) xt xm 0 (-1) (nI ce) cd), L, wQQ q)) 6 rfl ?_
          refine tv_top (show (nI (pa_sk tx T A)) - 1 = -1 from by rw [h0]; rfl) ?_
          refine tv_cvE [.int (-1)] [] rfl rfl (by omega) rfl (Nat.le_of_ble_eq_true rfl) (Nat.le_of_ble_eq_true rfl) (Or.inr (Or.inr rfl)) (ev_r_isDigitM (tx := tx) (T := T)) ?_
          refine tv_b (pc' := 124) (ls' := [some (.ref 57), some (.int (if pa_sk tx T A < T then 1 else 0))]) (st' := [.int (nI (pa_sk tx T A)), .ref 57]) (h' := (n, sl, wKK kk, (rdI I (nI (pa_sk tx T A)) (nI (pa_sk tx T A)) xt xm 0 (-1) (nI ce) cd), L, wQQ q)) 4 rfl ?_
          refine tv_cvE [.int (nI (pa_sk tx T A))] [] rfl rfl (by omega) rfl (Nat.le_of_ble_eq_true rfl) (Nat.le_of_ble_eq_true rfl) (Or.inr (Or.inr rfl)) (ev_r_isLetter (rdH_c hH) (by omega)) ?_
          refine tv_b (pc' := (if (if (pa_sk tx T A) < T ∧ pa_lt (tx (pa_sk tx T A)) = true then 1 else 0) = 0 then 137 else 130)) (ls' := [some (.ref 57), some (.int (if pa_sk tx T A < T then 1 else 0))]) (st' := []) (h' := (n, sl, wKK kk, (rdI I (nI (pa_sk tx T A)) (nI (pa_sk tx T A)) xt xm 0 (-1) (nI ce) cd), L, wQQ q)) 1 rfl ?_
          refine tv_b0 (fun c127 => ?_) (fun c127 => ?_)
          · refine tv_b (pc' := 138) (ls' := [some (.ref 57), some (.int (if pa_sk tx T A < T then 1 else 0))]) (st' := [.ref 57]) (h' := (n, sl, wKK kk, (rdI I (nI (pa_sk tx T A)) (nI (pa_sk tx T A)) xt xm 0 (-1) (nI ce) cd), L, wQQ q)) 1 rfl ?_
            refine tv_cv [] [] rfl rfl (by omega) rfl (Nat.le_of_ble_eq_true rfl) (Nat.le_of_ble_eq_true rfl) (Or.inr (Or.inr rfl)) (tv_r_takeNumber hH c22) ?_
            rintro rv9 h9 ⟨rfl, ⟨h8, rfl⟩ | ⟨h8, rfl⟩⟩
            · have hld : (pa_lt (tx (pa_sk tx T A)) || pa_dg (tx (pa_sk tx T A))) = true := by rw [Bool.or_eq_true]; exact Or.inr c53.2
              have ha : ¬ (0 < (pa_sk tx T A) ∧ (pa_lt (tx ((pa_sk tx T A) - 1)) || pa_dg (tx ((pa_sk tx T A) - 1))) = true) := fun q => by omega
              have hnl : pa_lt (tx (pa_sk tx T A)) = false := Bool.eq_false_iff.mpr (fun q => c127 ⟨c22, q⟩)
              have E := pa_c_num (b := tx) c22 hnl (by rw [hnl, Bool.false_or] at hld; exact hld) ha
              have hw := pa_rn_le (fun i => pa_dg (tx i)) (T - (pa_sk tx T A)) (pa_sk tx T A)
              unfold pa_dl at h8
              refine tv_rv rfl ⟨rfl, _, rfl, ?_⟩
              rw [E.1, if_pos (by unfold pa_dl; exact h8)]
              exact ⟨_, _, _, _, _, by omega, hce, rfl⟩
            · have hld : (pa_lt (tx (pa_sk tx T A)) || pa_dg (tx (pa_sk tx T A))) = true := by rw [Bool.or_eq_true]; exact Or.inr c53.2
              have ha : ¬ (0 < (pa_sk tx T A) ∧ (pa_lt (tx ((pa_sk tx T A) - 1)) || pa_dg (tx ((pa_sk tx T A) - 1))) = true) := fun q => by omega
              have hnl : pa_lt (tx (pa_sk tx T A)) = false := Bool.eq_false_iff.mpr (fun q => c127 ⟨c22, q⟩)
              have E := pa_c_num (b := tx) c22 hnl (by rw [hnl, Bool.false_or] at hld; exact hld) ha
              refine tv_rv rfl ⟨rfl, _, rfl, ?_⟩
              rw [E.1, if_neg (by omega)]
              exact ⟨_, fun _ => rfl, by rw [E.2.1, E.2.2]; try (first | rfl | (rw [pa_nm_e h8]; rfl))⟩
          · refine tv_b (pc' := 131) (ls' := [some (.ref 57), some (.int (if pa_sk tx T A < T then 1 else 0))]) (st' := [.ref 57]) (h' := (n, sl, wKK kk, (rdI I (nI (pa_sk tx T A)) (nI (pa_sk tx T A)) xt xm 0 (-1) (nI ce) cd), L, wQQ q)) 1 rfl ?_
            refine tv_cv [] [] rfl rfl (by omega) rfl (Nat.le_of_ble_eq_true rfl) (Nat.le_of_ble_eq_true rfl) (Or.inr (Or.inr rfl)) (tv_r_takeWord hH hW c22) ?_
            rintro rv9 h9 ⟨rfl, ⟨h8, rfl⟩ | ⟨h8, rfl⟩⟩
            · refine tv_b (pc' := 141) (ls' := [some (.ref 57), some (.int (if pa_sk tx T A < T then 1 else 0))]) (st' := []) (h' := (n, sl, wKK kk, (rdI I (nI (pa_sk tx T A)) (nI ((pa_sk tx T A) + 8)) 39 xm 1 (nI ((pa_sk tx T A) + 8)) (nI ce) cd), L, wQQ q)) 1 rfl ?_
              have hld : (pa_lt (tx (pa_sk tx T A)) || pa_dg (tx (pa_sk tx T A))) = true := by rw [Bool.or_eq_true]; exact Or.inr c53.2
              have ha : ¬ (0 < (pa_sk tx T A) ∧ (pa_lt (tx ((pa_sk tx T A) - 1)) || pa_dg (tx ((pa_sk tx T A) - 1))) = true) := fun q => by omega
              have E := pa_c_word (b := tx) c22 c127.2 ha
              have hw := pa_rn_le (fun i => pa_lt (tx i)) (T - (pa_sk tx T A)) (pa_sk tx T A)
              unfold pa_wl at h8
              refine tv_rv rfl ⟨rfl, _, rfl, ?_⟩
              rw [E.1, if_pos (by unfold pa_wl; exact h8)]
              exact ⟨_, _, _, _, _, by omega, hce, rfl⟩
            · refine tv_b (pc' := 141) (ls' := [some (.ref 57), some (.int (if pa_sk tx T A < T then 1 else 0))]) (st' := []) (h' := (n, sl, wKK kk, (rdI I (nI (pa_sk tx T A)) (nI ((pa_sk tx T A) + (pa_wl tx T (pa_sk tx T A)))) (nI (pa_wtk (pa_bs tx (pa_sk tx T A) (pa_wl tx T (pa_sk tx T A))))) xm 0 (-1) (nI ce) cd), L, wQQ q)) 1 rfl ?_
              have hld : (pa_lt (tx (pa_sk tx T A)) || pa_dg (tx (pa_sk tx T A))) = true := by rw [Bool.or_eq_true]; exact Or.inr c53.2
              have ha : ¬ (0 < (pa_sk tx T A) ∧ (pa_lt (tx ((pa_sk tx T A) - 1)) || pa_dg (tx ((pa_sk tx T A) - 1))) = true) := fun q => by omega
              have E := pa_c_word (b := tx) c22 c127.2 ha
              refine tv_rv rfl ⟨rfl, _, rfl, ?_⟩
              rw [E.1, if_neg (by omega)]
              exact ⟨_, fun q => absurd (E.2.1.symm.trans q) (pa_wtk_ne _), by rw [E.2.1, E.2.2]; try (first | rfl | (rw [pa_nm_e h8]; rfl))⟩
        · refine tv_b (pc' := 87) (ls' := [some (.ref 57), some (.int (if pa_sk tx T A < T then 1 else 0))]) (st' := [.int 1, .int (nI (pa_sk tx T A)), .ref 57]) (h' := (n, sl, wKK kk, (rdI I (nI (pa_sk tx T A)) (nI (pa_sk tx T A)) xt xm 0 (-1) (nI ce) cd), L, wQQ q)) 4 rfl ?_
          refine tv_b (pc' := 88) (ls' := [some (.ref 57), some (.int (if pa_sk tx T A < T then 1 else 0))]) (st' := [.int ((nI (pa_sk tx T A)) - 1), .ref 57]) (h' := (n, sl, wKK kk, (rdI I (nI (pa_sk tx T A)) (nI (pa_sk tx T A)) xt xm 0 (-1) (nI ce) cd), L, wQQ q)) 1 rfl ?_
          refine tv_top (show (nI (pa_sk tx T A)) - 1 = nI ((pa_sk tx T A) - 1) from nI_sub (a := (pa_sk tx T A)) (b := 1) (by omega)) ?_
          refine tv_cvE [.int (nI ((pa_sk tx T A) - 1))] [] rfl rfl (by omega) rfl (Nat.le_of_ble_eq_true rfl) (Nat.le_of_ble_eq_true rfl) (Or.inr (Or.inr rfl)) (ev_r_isLetter (rdH_c hH) (by omega)) ?_
          refine tv_b (pc' := (if (if (pa_sk tx T A) - 1 < T ∧ pa_lt (tx ((pa_sk tx T A) - 1)) = true then 1 else 0) = 0 then 94 else 107)) (ls' := [some (.ref 57), some (.int (if pa_sk tx T A < T then 1 else 0))]) (st' := []) (h' := (n, sl, wKK kk, (rdI I (nI (pa_sk tx T A)) (nI (pa_sk tx T A)) xt xm 0 (-1) (nI ce) cd), L, wQQ q)) 1 rfl ?_
          refine tv_b0 (fun c91 => ?_) (fun c91 => ?_)
          · refine tv_b (pc' := 100) (ls' := [some (.ref 57), some (.int (if pa_sk tx T A < T then 1 else 0))]) (st' := [.int 1, .int (nI (pa_sk tx T A)), .ref 57]) (h' := (n, sl, wKK kk, (rdI I (nI (pa_sk tx T A)) (nI (pa_sk tx T A)) xt xm 0 (-1) (nI ce) cd), L, wQQ q)) 4 rfl ?_
            refine tv_b (pc' := 101) (ls' := [some (.ref 57), some (.int (if pa_sk tx T A < T then 1 else 0))]) (st' := [.int ((nI (pa_sk tx T A)) - 1), .ref 57]) (h' := (n, sl, wKK kk, (rdI I (nI (pa_sk tx T A)) (nI (pa_sk tx T A)) xt xm 0 (-1) (nI ce) cd), L, wQQ q)) 1 rfl ?_
            refine tv_top (show (nI (pa_sk tx T A)) - 1 = nI ((pa_sk tx T A) - 1) from nI_sub (a := (pa_sk tx T A)) (b := 1) (by omega)) ?_
            refine tv_cvE [.int (nI ((pa_sk tx T A) - 1))] [] rfl rfl (by omega) rfl (Nat.le_of_ble_eq_true rfl) (Nat.le_of_ble_eq_true rfl) (Or.inr (Or.inr rfl)) (ev_r_isDigit (rdH_c hH) (by omega)) ?_
            refine tv_b (pc' := (if (if (pa_sk tx T A) - 1 < T ∧ pa_dg (tx ((pa_sk tx T A) - 1)) = true then 1 else 0) = 0 then 119 else 107)) (ls' := [some (.ref 57), some (.int (if pa_sk tx T A < T then 1 else 0))]) (st' := []) (h' := (n, sl, wKK kk, (rdI I (nI (pa_sk tx T A)) (nI (pa_sk tx T A)) xt xm 0 (-1) (nI ce) cd), L, wQQ q)) 1 rfl ?_
            refine tv_b0 (fun c104 => ?_) (fun c104 => ?_)
            · refine tv_b (pc' := 124) (ls' := [some (.ref 57), some (.int (if pa_sk tx T A < T then 1 else 0))]) (st' := [.int (nI (pa_sk tx T A)), .ref 57]) (h' := (n, sl, wKK kk, (rdI I (nI (pa_sk tx T A)) (nI (pa_sk tx T A)) xt xm 0 (-1) (nI ce) cd), L, wQQ q)) 3 rfl ?_
              refine tv_cvE [.int (nI (pa_sk tx T A))] [] rfl rfl (by omega) rfl (Nat.le_of_ble_eq_true rfl) (Nat.le_of_ble_eq_true rfl) (Or.inr (Or.inr rfl)) (ev_r_isLetter (rdH_c hH) (by omega)) ?_
              refine tv_b (pc' := (if (if (pa_sk tx T A) < T ∧ pa_lt (tx (pa_sk tx T A)) = true then 1 else 0) = 0 then 137 else 130)) (ls' := [some (.ref 57), some (.int (if pa_sk tx T A < T then 1 else 0))]) (st' := []) (h' := (n, sl, wKK kk, (rdI I (nI (pa_sk tx T A)) (nI (pa_sk tx T A)) xt xm 0 (-1) (nI ce) cd), L, wQQ q)) 1 rfl ?_
              refine tv_b0 (fun c127 => ?_) (fun c127 => ?_)
              · refine tv_b (pc' := 138) (ls' := [some (.ref 57), some (.int (if pa_sk tx T A < T then 1 else 0))]) (st' := [.ref 57]) (h' := (n, sl, wKK kk, (rdI I (nI (pa_sk tx T A)) (nI (pa_sk tx T A)) xt xm 0 (-1) (nI ce) cd), L, wQQ q)) 1 rfl ?_
                refine tv_cv [] [] rfl rfl (by omega) rfl (Nat.le_of_ble_eq_true rfl) (Nat.le_of_ble_eq_true rfl) (Or.inr (Or.inr rfl)) (tv_r_takeNumber hH c22) ?_
                rintro rv9 h9 ⟨rfl, ⟨h8, rfl⟩ | ⟨h8, rfl⟩⟩
                · have hld : (pa_lt (tx (pa_sk tx T A)) || pa_dg (tx (pa_sk tx T A))) = true := by rw [Bool.or_eq_true]; exact Or.inr c53.2
                  have ha : ¬ (0 < (pa_sk tx T A) ∧ (pa_lt (tx ((pa_sk tx T A) - 1)) || pa_dg (tx ((pa_sk tx T A) - 1))) = true) := by rintro ⟨_, q⟩; rw [Bool.or_eq_true] at q; exact q.elim (fun q => c91 ⟨by omega, q⟩) (fun q => c104 ⟨by omega, q⟩)
                  have hnl : pa_lt (tx (pa_sk tx T A)) = false := Bool.eq_false_iff.mpr (fun q => c127 ⟨c22, q⟩)
                  have E := pa_c_num (b := tx) c22 hnl (by rw [hnl, Bool.false_or] at hld; exact hld) ha
                  have hw := pa_rn_le (fun i => pa_dg (tx i)) (T - (pa_sk tx T A)) (pa_sk tx T A)
                  unfold pa_dl at h8
                  refine tv_rv rfl ⟨rfl, _, rfl, ?_⟩
                  rw [E.1, if_pos (by unfold pa_dl; exact h8)]
                  exact ⟨_, _, _, _, _, by omega, hce, rfl⟩
                · have hld : (pa_lt (tx (pa_sk tx T A)) || pa_dg (tx (pa_sk tx T A))) = true := by rw [Bool.or_eq_true]; exact Or.inr c53.2
                  have ha : ¬ (0 < (pa_sk tx T A) ∧ (pa_lt (tx ((pa_sk tx T A) - 1)) || pa_dg (tx ((pa_sk tx T A) - 1))) = true) := by rintro ⟨_, q⟩; rw [Bool.or_eq_true] at q; exact q.elim (fun q => c91 ⟨by omega, q⟩) (fun q => c104 ⟨by omega, q⟩)
                  have hnl : pa_lt (tx (pa_sk tx T A)) = false := Bool.eq_false_iff.mpr (fun q => c127 ⟨c22, q⟩)
                  have E := pa_c_num (b := tx) c22 hnl (by rw [hnl, Bool.false_or] at hld; exact hld) ha
                  refine tv_rv rfl ⟨rfl, _, rfl, ?_⟩
                  rw [E.1, if_neg (by omega)]
                  exact ⟨_, fun _ => rfl, by rw [E.2.1, E.2.2]; try (first | rfl | (rw [pa_nm_e h8]; rfl))⟩
              · refine tv_b (pc' := 131) (ls' := [some (.ref 57), some (.int (if pa_sk tx T A < T then 1 else 0))]) (st' := [.ref 57]) (h' := (n, sl, wKK kk, (rdI I (nI (pa_sk tx T A)) (nI (pa_sk tx T A)) xt xm 0 (-1) (nI ce) cd), L, wQQ q)) 1 rfl ?_
                refine tv_cv [] [] rfl rfl (by omega) rfl (Nat.le_of_ble_eq_true rfl) (Nat.le_of_ble_eq_true rfl) (Or.inr (Or.inr rfl)) (tv_r_takeWord hH hW c22) ?_
                rintro rv9 h9 ⟨rfl, ⟨h8, rfl⟩ | ⟨h8, rfl⟩⟩
                · refine tv_b (pc' := 141) (ls' := [some (.ref 57), some (.int (if pa_sk tx T A < T then 1 else 0))]) (st' := []) (h' := (n, sl, wKK kk, (rdI I (nI (pa_sk tx T A)) (nI ((pa_sk tx T A) + 8)) 39 xm 1 (nI ((pa_sk tx T A) + 8)) (nI ce) cd), L, wQQ q)) 1 rfl ?_
                  have hld : (pa_lt (tx (pa_sk tx T A)) || pa_dg (tx (pa_sk tx T A))) = true := by rw [Bool.or_eq_true]; exact Or.inr c53.2
                  have ha : ¬ (0 < (pa_sk tx T A) ∧ (pa_lt (tx ((pa_sk tx T A) - 1)) || pa_dg (tx ((pa_sk tx T A) - 1))) = true) := by rintro ⟨_, q⟩; rw [Bool.or_eq_true] at q; exact q.elim (fun q => c91 ⟨by omega, q⟩) (fun q => c104 ⟨by omega, q⟩)
                  have E := pa_c_word (b := tx) c22 c127.2 ha
                  have hw := pa_rn_le (fun i => pa_lt (tx i)) (T - (pa_sk tx T A)) (pa_sk tx T A)
                  unfold pa_wl at h8
                  refine tv_rv rfl ⟨rfl, _, rfl, ?_⟩
                  rw [E.1, if_pos (by unfold pa_wl; exact h8)]
                  exact ⟨_, _, _, _, _, by omega, hce, rfl⟩
                · refine tv_b (pc' := 141) (ls' := [some (.ref 57), some (.int (if pa_sk tx T A < T then 1 else 0))]) (st' := []) (h' := (n, sl, wKK kk, (rdI I (nI (pa_sk tx T A)) (nI ((pa_sk tx T A) + (pa_wl tx T (pa_sk tx T A)))) (nI (pa_wtk (pa_bs tx (pa_sk tx T A) (pa_wl tx T (pa_sk tx T A))))) xm 0 (-1) (nI ce) cd), L, wQQ q)) 1 rfl ?_
                  have hld : (pa_lt (tx (pa_sk tx T A)) || pa_dg (tx (pa_sk tx T A))) = true := by rw [Bool.or_eq_true]; exact Or.inr c53.2
                  have ha : ¬ (0 < (pa_sk tx T A) ∧ (pa_lt (tx ((pa_sk tx T A) - 1)) || pa_dg (tx ((pa_sk tx T A) - 1))) = true) := by rintro ⟨_, q⟩; rw [Bool.or_eq_true] at q; exact q.elim (fun q => c91 ⟨by omega, q⟩) (fun q => c104 ⟨by omega, q⟩)
                  have E := pa_c_word (b := tx) c22 c127.2 ha
                  refine tv_rv rfl ⟨rfl, _, rfl, ?_⟩
                  rw [E.1, if_neg (by omega)]
                  exact ⟨_, fun q => absurd (E.2.1.symm.trans q) (pa_wtk_ne _), by rw [E.2.1, E.2.2]; try (first | rfl | (rw [pa_nm_e h8]; rfl))⟩
            · refine tv_b (pc' := 113) (ls' := [some (.ref 57), some (.int (if pa_sk tx T A < T then 1 else 0))]) (st' := [.int (nI (pa_sk tx T A)), .int 1, .ref 57]) (h' := (n, sl, wKK kk, (rdI I (nI (pa_sk tx T A)) (nI (pa_sk tx T A)) xt xm 0 (-1) (nI ce) cd), L, wQQ q)) 4 rfl ?_
              refine tv_cvE [.int 1, .int (nI (pa_sk tx T A))] [] rfl rfl (by omega) rfl (Nat.le_of_ble_eq_true rfl) (Nat.le_of_ble_eq_true rfl) (Or.inr (Or.inr rfl)) (ev_r_fail0) ?_
              refine tv_b (pc' := 141) (ls' := [some (.ref 57), some (.int (if pa_sk tx T A < T then 1 else 0))]) (st' := []) (h' := (n, sl, wKK kk, (rdI I (nI (pa_sk tx T A)) (nI (pa_sk tx T A)) 39 xm 1 (nI (pa_sk tx T A)) (nI ce) cd), L, wQQ q)) 1 rfl ?_
              have hld : (pa_lt (tx (pa_sk tx T A)) || pa_dg (tx (pa_sk tx T A))) = true := by rw [Bool.or_eq_true]; exact Or.inr c53.2
              have E := pa_c_adj (b := tx) c22 hld (by omega) (by rw [Bool.or_eq_true]; exact Or.inr c104.2)
              refine tv_rv rfl ⟨rfl, _, rfl, ?_⟩
              rw [E]
              exact ⟨_, _, _, _, _, hsk, hce, rfl⟩
          · refine tv_b (pc' := 113) (ls' := [some (.ref 57), some (.int (if pa_sk tx T A < T then 1 else 0))]) (st' := [.int (nI (pa_sk tx T A)), .int 1, .ref 57]) (h' := (n, sl, wKK kk, (rdI I (nI (pa_sk tx T A)) (nI (pa_sk tx T A)) xt xm 0 (-1) (nI ce) cd), L, wQQ q)) 4 rfl ?_
            refine tv_cvE [.int 1, .int (nI (pa_sk tx T A))] [] rfl rfl (by omega) rfl (Nat.le_of_ble_eq_true rfl) (Nat.le_of_ble_eq_true rfl) (Or.inr (Or.inr rfl)) (ev_r_fail0) ?_
            refine tv_b (pc' := 141) (ls' := [some (.ref 57), some (.int (if pa_sk tx T A < T then 1 else 0))]) (st' := []) (h' := (n, sl, wKK kk, (rdI I (nI (pa_sk tx T A)) (nI (pa_sk tx T A)) 39 xm 1 (nI (pa_sk tx T A)) (nI ce) cd), L, wQQ q)) 1 rfl ?_
            have hld : (pa_lt (tx (pa_sk tx T A)) || pa_dg (tx (pa_sk tx T A))) = true := by rw [Bool.or_eq_true]; exact Or.inr c53.2
            have E := pa_c_adj (b := tx) c22 hld (by omega) (by rw [Bool.or_eq_true]; exact Or.inl c91.2)
            refine tv_rv rfl ⟨rfl, _, rfl, ?_⟩
            rw [E]
            exact ⟨_, _, _, _, _, hsk, hce, rfl⟩
    · rcases Nat.eq_zero_or_pos (pa_sk tx T A) with h0 | h0
      · refine tv_b (pc' := 88) (ls' := [some (.ref 57), some (.int (if pa_sk tx T A < T then 1 else 0))]) (st' := [.int ((nI (pa_sk tx T A)) - 1), .ref 57]) (h' := (n, sl, wKK kk, (rdI I (nI (pa_sk tx T A)) (nI (pa_sk tx T A)) xt xm 0 (-1) (nI ce) cd), L, wQQ q)) 5 rfl ?_
        refine tv_top (show (nI (pa_sk tx T A)) - 1 = -1 from by rw [h0]; rfl) ?_
        refine tv_cvE [.int (-1)] [] rfl rfl (by omega) rfl (Nat.le_of_ble_eq_true rfl) (Nat.le_of_ble_eq_true rfl) (Or.inr (Or.inr rfl)) (ev_r_isLetterM (tx := tx) (T := T)) ?_
        refine tv_b (pc' := 101) (ls' := [some (.ref 57), some (.int (if pa_sk tx T A < T then 1 else 0))]) (st' := [.int ((nI (pa_sk tx T A)) - 1), .ref 57]) (h' := (n, sl, wKK kk, (rdI I (nI (pa_sk tx T A)) (nI (pa_sk tx T A)) xt xm 0 (-1) (nI ce) cd), L, wQQ q)) 6 rfl ?_
        refine tv_top (show (nI (pa_sk tx T A)) - 1 = -1 from by rw [h0]; rfl) ?_
        refine tv_cvE [.int (-1)] [] rfl rfl (by omega) rfl (Nat.le_of_ble_eq_true rfl) (Nat.le_of_ble_eq_true rfl) (Or.inr (Or.inr rfl)) (ev_r_isDigitM (tx := tx) (T := T)) ?_
        refine tv_b (pc' := 124) (ls' := [some (.ref 57), some (.int (if pa_sk tx T A < T then 1 else 0))]) (st' := [.int (nI (pa_sk tx T A)), .ref 57]) (h' := (n, sl, wKK kk, (rdI I (nI (pa_sk tx T A)) (nI (pa_sk tx T A)) xt xm 0 (-1) (nI ce) cd), L, wQQ q)) 4 rfl ?_
        refine tv_cvE [.int (nI (pa_sk tx T A))] [] rfl rfl (by omega) rfl (Nat.le_of_ble_eq_true rfl) (Nat.le_of_ble_eq_true rfl) (Or.inr (Or.inr rfl)) (ev_r_isLetter (rdH_c hH) (by omega)) ?_
        refine tv_b (pc' := (if (if (pa_sk tx T A) < T ∧ pa_lt (tx (pa_sk tx T A)) = true then 1 else 0) = 0 then 137 else 130)) (ls' := [some (.ref 57), some (.int (if pa_sk tx T A < T then 1 else 0))]) (st' := []) (h' := (n, sl, wKK kk, (rdI I (nI (pa_sk tx T A)) (nI (pa_sk tx T A)) xt xm 0 (-1) (nI ce) cd), L, wQQ q)) 1 rfl ?_
        refine tv_b0 (fun c127 => ?_) (fun c127 => ?_)
        · refine tv_b (pc' := 138) (ls' := [some (.ref 57), some (.int (if pa_sk tx T A < T then 1 else 0))]) (st' := [.ref 57]) (h' := (n, sl, wKK kk, (rdI I (nI (pa_sk tx T A)) (nI (pa_sk tx T A)) xt xm 0 (-1) (nI ce) cd), L, wQQ q)) 1 rfl ?_
          refine tv_cv [] [] rfl rfl (by omega) rfl (Nat.le_of_ble_eq_true rfl) (Nat.le_of_ble_eq_true rfl) (Or.inr (Or.inr rfl)) (tv_r_takeNumber hH c22) ?_
          rintro rv9 h9 ⟨rfl, ⟨h8, rfl⟩ | ⟨h8, rfl⟩⟩
          · have hld : (pa_lt (tx (pa_sk tx T A)) || pa_dg (tx (pa_sk tx T A))) = true := by rw [Bool.or_eq_true]; exact Or.inl c42.2
            have ha : ¬ (0 < (pa_sk tx T A) ∧ (pa_lt (tx ((pa_sk tx T A) - 1)) || pa_dg (tx ((pa_sk tx T A) - 1))) = true) := fun q => by omega
            have hnl : pa_lt (tx (pa_sk tx T A)) = false := Bool.eq_false_iff.mpr (fun q => c127 ⟨c22, q⟩)
            have E := pa_c_num (b := tx) c22 hnl (by rw [hnl, Bool.false_or] at hld; exact hld) ha
            have hw := pa_rn_le (fun i => pa_dg (tx i)) (T - (pa_sk tx T A)) (pa_sk tx T A)
            unfold pa_dl at h8
            refine tv_rv rfl ⟨rfl, _, rfl, ?_⟩
            rw [E.1, if_pos (by unfold pa_dl; exact h8)]
            exact ⟨_, _, _, _, _, by omega, hce, rfl⟩
          · have hld : (pa_lt (tx (pa_sk tx T A)) || pa_dg (tx (pa_sk tx T A))) = true := by rw [Bool.or_eq_true]; exact Or.inl c42.2
            have ha : ¬ (0 < (pa_sk tx T A) ∧ (pa_lt (tx ((pa_sk tx T A) - 1)) || pa_dg (tx ((pa_sk tx T A) - 1))) = true) := fun q => by omega
            have hnl : pa_lt (tx (pa_sk tx T A)) = false := Bool.eq_false_iff.mpr (fun q => c127 ⟨c22, q⟩)
            have E := pa_c_num (b := tx) c22 hnl (by rw [hnl, Bool.false_or] at hld; exact hld) ha
            refine tv_rv rfl ⟨rfl, _, rfl, ?_⟩
            rw [E.1, if_neg (by omega)]
            exact ⟨_, fun _ => rfl, by rw [E.2.1, E.2.2]; try (first | rfl | (rw [pa_nm_e h8]; rfl))⟩
        · refine tv_b (pc' := 131) (ls' := [some (.ref 57), some (.int (if pa_sk tx T A < T then 1 else 0))]) (st' := [.ref 57]) (h' := (n, sl, wKK kk, (rdI I (nI (pa_sk tx T A)) (nI (pa_sk tx T A)) xt xm 0 (-1) (nI ce) cd), L, wQQ q)) 1 rfl ?_
          refine tv_cv [] [] rfl rfl (by omega) rfl (Nat.le_of_ble_eq_true rfl) (Nat.le_of_ble_eq_true rfl) (Or.inr (Or.inr rfl)) (tv_r_takeWord hH hW c22) ?_
          rintro rv9 h9 ⟨rfl, ⟨h8, rfl⟩ | ⟨h8, rfl⟩⟩
          · refine tv_b (pc' := 141) (ls' := [some (.ref 57), some (.int (if pa_sk tx T A < T then 1 else 0))]) (st' := []) (h' := (n, sl, wKK kk, (rdI I (nI (pa_sk tx T A)) (nI ((pa_sk tx T A) + 8)) 39 xm 1 (nI ((pa_sk tx T A) + 8)) (nI ce) cd), L, wQQ q)) 1 rfl ?_
            have hld : (pa_lt (tx (pa_sk tx T A)) || pa_dg (tx (pa_sk tx T A))) = true := by rw [Bool.or_eq_true]; exact Or.inl c42.2
            have ha : ¬ (0 < (pa_sk tx T A) ∧ (pa_lt (tx ((pa_sk tx T A) - 1)) || pa_dg (tx ((pa_sk tx T A) - 1))) = true) := fun q => by omega
            have E := pa_c_word (b := tx) c22 c127.2 ha
            have hw := pa_rn_le (fun i => pa_lt (tx i)) (T - (pa_sk tx T A)) (pa_sk tx T A)
            unfold pa_wl at h8
            refine tv_rv rfl ⟨rfl, _, rfl, ?_⟩
            rw [E.1, if_pos (by unfold pa_wl; exact h8)]
            exact ⟨_, _, _, _, _, by omega, hce, rfl⟩
          · refine tv_b (pc' := 141) (ls' := [some (.ref 57), some (.int (if pa_sk tx T A < T then 1 else 0))]) (st' := []) (h' := (n, sl, wKK kk, (rdI I (nI (pa_sk tx T A)) (nI ((pa_sk tx T A) + (pa_wl tx T (pa_sk tx T A)))) (nI (pa_wtk (pa_bs tx (pa_sk tx T A) (pa_wl tx T (pa_sk tx T A))))) xm 0 (-1) (nI ce) cd), L, wQQ q)) 1 rfl ?_
            have hld : (pa_lt (tx (pa_sk tx T A)) || pa_dg (tx (pa_sk tx T A))) = true := by rw [Bool.or_eq_true]; exact Or.inl c42.2
            have ha : ¬ (0 < (pa_sk tx T A) ∧ (pa_lt (tx ((pa_sk tx T A) - 1)) || pa_dg (tx ((pa_sk tx T A) - 1))) = true) := fun q => by omega
            have E := pa_c_word (b := tx) c22 c127.2 ha
            refine tv_rv rfl ⟨rfl, _, rfl, ?_⟩
            rw [E.1, if_neg (by omega)]
            exact ⟨_, fun q => absurd (E.2.1.symm.trans q) (pa_wtk_ne _), by rw [E.2.1, E.2.2]; try (first | rfl | (rw [pa_nm_e h8]; rfl))⟩
      · refine tv_b (pc' := 87) (ls' := [some (.ref 57), some (.int (if pa_sk tx T A < T then 1 else 0))]) (st' := [.int 1, .int (nI (pa_sk tx T A)), .ref 57]) (h' := (n, sl, wKK kk, (rdI I (nI (pa_sk tx T A)) (nI (pa_sk tx T A)) xt xm 0 (-1) (nI ce) cd), L, wQQ q)) 4 rfl ?_
        refine tv_b (pc' := 88) (ls' := [some (.ref 57), some (.int (if pa_sk tx T A < T then 1 else 0))]) (st' := [.int ((nI (pa_sk tx T A)) - 1), .ref 57]) (h' := (n, sl, wKK kk, (rdI I (nI (pa_sk tx T A)) (nI (pa_sk tx T A)) xt xm 0 (-1) (nI ce) cd), L, wQQ q)) 1 rfl ?_
        refine tv_top (show (nI (pa_sk tx T A)) - 1 = nI ((pa_sk tx T A) - 1) from nI_sub (a := (pa_sk tx T A)) (b := 1) (by omega)) ?_
        refine tv_cvE [.int (nI ((pa_sk tx T A) - 1))] [] rfl rfl (by omega) rfl (Nat.le_of_ble_eq_true rfl) (Nat.le_of_ble_eq_true rfl) (Or.inr (Or.inr rfl)) (ev_r_isLetter (rdH_c hH) (by omega)) ?_
        refine tv_b (pc' := (if (if (pa_sk tx T A) - 1 < T ∧ pa_lt (tx ((pa_sk tx T A) - 1)) = true then 1 else 0) = 0 then 94 else 107)) (ls' := [some (.ref 57), some (.int (if pa_sk tx T A < T then 1 else 0))]) (st' := []) (h' := (n, sl, wKK kk, (rdI I (nI (pa_sk tx T A)) (nI (pa_sk tx T A)) xt xm 0 (-1) (nI ce) cd), L, wQQ q)) 1 rfl ?_
        refine tv_b0 (fun c91 => ?_) (fun c91 => ?_)
        · refine tv_b (pc' := 100) (ls' := [some (.ref 57), some (.int (if pa_sk tx T A < T then 1 else 0))]) (st' := [.int 1, .int (nI (pa_sk tx T A)), .ref 57]) (h' := (n, sl, wKK kk, (rdI I (nI (pa_sk tx T A)) (nI (pa_sk tx T A)) xt xm 0 (-1) (nI ce) cd), L, wQQ q)) 4 rfl ?_
          refine tv_b (pc' := 101) (ls' := [some (.ref 57), some (.int (if pa_sk tx T A < T then 1 else 0))]) (st' := [.int ((nI (pa_sk tx T A)) - 1), .ref 57]) (h' := (n, sl, wKK kk, (rdI I (nI (pa_sk tx T A)) (nI (pa_sk tx T A)) xt xm 0 (-1) (nI ce) cd), L, wQQ q)) 1 rfl ?_
          refine tv_top (show (nI (pa_sk tx T A)) - 1 = nI ((pa_sk tx T A) - 1) from nI_sub (a := (pa_sk tx T A)) (b := 1) (by omega)) ?_
          refine tv_cvE [.int (nI ((pa_sk tx T A) - 1))] [] rfl rfl (by omega) rfl (Nat.le_of_ble_eq_true rfl) (Nat.le_of_ble_eq_true rfl) (Or.inr (Or.inr rfl)) (ev_r_isDigit (rdH_c hH) (by omega)) ?_
          refine tv_b (pc' := (if (if (pa_sk tx T A) - 1 < T ∧ pa_dg (tx ((pa_sk tx T A) - 1)) = true then 1 else 0) = 0 then 119 else 107)) (ls' := [some (.ref 57), some (.int (if pa_sk tx T A < T then 1 else 0))]) (st' := []) (h' := (n, sl, wKK kk, (rdI I (nI (pa_sk tx T A)) (nI (pa_sk tx T A)) xt xm 0 (-1) (nI ce) cd), L, wQQ q)) 1 rfl ?_
          refine tv_b0 (fun c104 => ?_) (fun c104 => ?_)
          · refine tv_b (pc' := 124) (ls' := [some (.ref 57), some (.int (if pa_sk tx T A < T then 1 else 0))]) (st' := [.int (nI (pa_sk tx T A)), .ref 57]) (h' := (n, sl, wKK kk, (rdI I (nI (pa_sk tx T A)) (nI (pa_sk tx T A)) xt xm 0 (-1) (nI ce) cd), L, wQQ q)) 3 rfl ?_
            refine tv_cvE [.int (nI (pa_sk tx T A))] [] rfl rfl (by omega) rfl (Nat.le_of_ble_eq_true rfl) (Nat.le_of_ble_eq_true rfl) (Or.inr (Or.inr rfl)) (ev_r_isLetter (rdH_c hH) (by omega)) ?_
            refine tv_b (pc' := (if (if (pa_sk tx T A) < T ∧ pa_lt (tx (pa_sk tx T A)) = true then 1 else 0) = 0 then 137 else 130)) (ls' := [some (.ref 57), some (.int (if pa_sk tx T A < T then 1 else 0))]) (st' := []) (h' := (n, sl, wKK kk, (rdI I (nI (pa_sk tx T A)) (nI (pa_sk tx T A)) xt xm 0 (-1) (nI ce) cd), L, wQQ q)) 1 rfl ?_
            refine tv_b0 (fun c127 => ?_) (fun c127 => ?_)
            · refine tv_b (pc' := 138) (ls' := [some (.ref 57), some (.int (if pa_sk tx T A < T then 1 else 0))]) (st' := [.ref 57]) (h' := (n, sl, wKK kk, (rdI I (nI (pa_sk tx T A)) (nI (pa_sk tx T A)) xt xm 0 (-1) (nI ce) cd), L, wQQ q)) 1 rfl ?_
              refine tv_cv [] [] rfl rfl (by omega) rfl (Nat.le_of_ble_eq_true rfl) (Nat.le_of_ble_eq_true rfl) (Or.inr (Or.inr rfl)) (tv_r_takeNumber hH c22) ?_
              rintro rv9 h9 ⟨rfl, ⟨h8, rfl⟩ | ⟨h8, rfl⟩⟩
              · have hld : (pa_lt (tx (pa_sk tx T A)) || pa_dg (tx (pa_sk tx T A))) = true := by rw [Bool.or_eq_true]; exact Or.inl c42.2
                have ha : ¬ (0 < (pa_sk tx T A) ∧ (pa_lt (tx ((pa_sk tx T A) - 1)) || pa_dg (tx ((pa_sk tx T A) - 1))) = true) := by rintro ⟨_, q⟩; rw [Bool.or_eq_true] at q; exact q.elim (fun q => c91 ⟨by omega, q⟩) (fun q => c104 ⟨by omega, q⟩)
                have hnl : pa_lt (tx (pa_sk tx T A)) = false := Bool.eq_false_iff.mpr (fun q => c127 ⟨c22, q⟩)
                have E := pa_c_num (b := tx) c22 hnl (by rw [hnl, Bool.false_or] at hld; exact hld) ha
                have hw := pa_rn_le (fun i => pa_dg (tx i)) (T - (pa_sk tx T A)) (pa_sk tx T A)
                unfold pa_dl at h8
                refine tv_rv rfl ⟨rfl, _, rfl, ?_⟩
                rw [E.1, if_pos (by unfold pa_dl; exact h8)]
                exact ⟨_, _, _, _, _, by omega, hce, rfl⟩
              · have hld : (pa_lt (tx (pa_sk tx T A)) || pa_dg (tx (pa_sk tx T A))) = true := by rw [Bool.or_eq_true]; exact Or.inl c42.2
                have ha : ¬ (0 < (pa_sk tx T A) ∧ (pa_lt (tx ((pa_sk tx T A) - 1)) || pa_dg (tx ((pa_sk tx T A) - 1))) = true) := by rintro ⟨_, q⟩; rw [Bool.or_eq_true] at q; exact q.elim (fun q => c91 ⟨by omega, q⟩) (fun q => c104 ⟨by omega, q⟩)
                have hnl : pa_lt (tx (pa_sk tx T A)) = false := Bool.eq_false_iff.mpr (fun q => c127 ⟨c22, q⟩)
                have E := pa_c_num (b := tx) c22 hnl (by rw [hnl, Bool.false_or] at hld; exact hld) ha
                refine tv_rv rfl ⟨rfl, _, rfl, ?_⟩
                rw [E.1, if_neg (by omega)]
                exact ⟨_, fun _ => rfl, by rw [E.2.1, E.2.2]; try (first | rfl | (rw [pa_nm_e h8]; rfl))⟩
            · refine tv_b (pc' := 131) (ls' := [some (.ref 57), some (.int (if pa_sk tx T A < T then 1 else 0))]) (st' := [.ref 57]) (h' := (n, sl, wKK kk, (rdI I (nI (pa_sk tx T A)) (nI (pa_sk tx T A)) xt xm 0 (-1) (nI ce) cd), L, wQQ q)) 1 rfl ?_
              refine tv_cv [] [] rfl rfl (by omega) rfl (Nat.le_of_ble_eq_true rfl) (Nat.le_of_ble_eq_true rfl) (Or.inr (Or.inr rfl)) (tv_r_takeWord hH hW c22) ?_
              rintro rv9 h9 ⟨rfl, ⟨h8, rfl⟩ | ⟨h8, rfl⟩⟩
              · refine tv_b (pc' := 141) (ls' := [some (.ref 57), some (.int (if pa_sk tx T A < T then 1 else 0))]) (st' := []) (h' := (n, sl, wKK kk, (rdI I (nI (pa_sk tx T A)) (nI ((pa_sk tx T A) + 8)) 39 xm 1 (nI ((pa_sk tx T A) + 8)) (nI ce) cd), L, wQQ q)) 1 rfl ?_
                have hld : (pa_lt (tx (pa_sk tx T A)) || pa_dg (tx (pa_sk tx T A))) = true := by rw [Bool.or_eq_true]; exact Or.inl c42.2
                have ha : ¬ (0 < (pa_sk tx T A) ∧ (pa_lt (tx ((pa_sk tx T A) - 1)) || pa_dg (tx ((pa_sk tx T A) - 1))) = true) := by rintro ⟨_, q⟩; rw [Bool.or_eq_true] at q; exact q.elim (fun q => c91 ⟨by omega, q⟩) (fun q => c104 ⟨by omega, q⟩)
                have E := pa_c_word (b := tx) c22 c127.2 ha
                have hw := pa_rn_le (fun i => pa_lt (tx i)) (T - (pa_sk tx T A)) (pa_sk tx T A)
                unfold pa_wl at h8
                refine tv_rv rfl ⟨rfl, _, rfl, ?_⟩
                rw [E.1, if_pos (by unfold pa_wl; exact h8)]
                exact ⟨_, _, _, _, _, by omega, hce, rfl⟩
              · refine tv_b (pc' := 141) (ls' := [some (.ref 57), some (.int (if pa_sk tx T A < T then 1 else 0))]) (st' := []) (h' := (n, sl, wKK kk, (rdI I (nI (pa_sk tx T A)) (nI ((pa_sk tx T A) + (pa_wl tx T (pa_sk tx T A)))) (nI (pa_wtk (pa_bs tx (pa_sk tx T A) (pa_wl tx T (pa_sk tx T A))))) xm 0 (-1) (nI ce) cd), L, wQQ q)) 1 rfl ?_
                have hld : (pa_lt (tx (pa_sk tx T A)) || pa_dg (tx (pa_sk tx T A))) = true := by rw [Bool.or_eq_true]; exact Or.inl c42.2
                have ha : ¬ (0 < (pa_sk tx T A) ∧ (pa_lt (tx ((pa_sk tx T A) - 1)) || pa_dg (tx ((pa_sk tx T A) - 1))) = true) := by rintro ⟨_, q⟩; rw [Bool.or_eq_true] at q; exact q.elim (fun q => c91 ⟨by omega, q⟩) (fun q => c104 ⟨by omega, q⟩)
                have E := pa_c_word (b := tx) c22 c127.2 ha
                refine tv_rv rfl ⟨rfl, _, rfl, ?_⟩
                rw [E.1, if_neg (by omega)]
                exact ⟨_, fun q => absurd (E.2.1.symm.trans q) (pa_wtk_ne _), by rw [E.2.1, E.2.2]; try (first | rfl | (rw [pa_nm_e h8]; rfl))⟩
          · refine tv_b (pc' := 113) (ls' := [some (.ref 57), some (.int (if pa_sk tx T A < T then 1 else 0))]) (st' := [.int (nI (pa_sk tx T A)), .int 1, .ref 57]) (h' := (n, sl, wKK kk, (rdI I (nI (pa_sk tx T A)) (nI (pa_sk tx T A)) xt xm 0 (-1) (nI ce) cd), L, wQQ q)) 4 rfl ?_
            refine tv_cvE [.int 1, .int (nI (pa_sk tx T A))] [] rfl rfl (by omega) rfl (Nat.le_of_ble_eq_true rfl) (Nat.le_of_ble_eq_true rfl) (Or.inr (Or.inr rfl)) (ev_r_fail0) ?_
            refine tv_b (pc' := 141) (ls' := [some (.ref 57), some (.int (if pa_sk tx T A < T then 1 else 0))]) (st' := []) (h' := (n, sl, wKK kk, (rdI I (nI (pa_sk tx T A)) (nI (pa_sk tx T A)) 39 xm 1 (nI (pa_sk tx T A)) (nI ce) cd), L, wQQ q)) 1 rfl ?_
            have hld : (pa_lt (tx (pa_sk tx T A)) || pa_dg (tx (pa_sk tx T A))) = true := by rw [Bool.or_eq_true]; exact Or.inl c42.2
            have E := pa_c_adj (b := tx) c22 hld (by omega) (by rw [Bool.or_eq_true]; exact Or.inr c104.2)
            refine tv_rv rfl ⟨rfl, _, rfl, ?_⟩
            rw [E]
            exact ⟨_, _, _, _, _, hsk, hce, rfl⟩
        · refine tv_b (pc' := 113) (ls' := [some (.ref 57), some (.int (if pa_sk tx T A < T then 1 else 0))]) (st' := [.int (nI (pa_sk tx T A)), .int 1, .ref 57]) (h' := (n, sl, wKK kk, (rdI I (nI (pa_sk tx T A)) (nI (pa_sk tx T A)) xt xm 0 (-1) (nI ce) cd), L, wQQ q)) 4 rfl ?_
          refine tv_cvE [.int 1, .int (nI (pa_sk tx T A))] [] rfl rfl (by omega) rfl (Nat.le_of_ble_eq_true rfl) (Nat.le_of_ble_eq_true rfl) (Or.inr (Or.inr rfl)) (ev_r_fail0) ?_
          refine tv_b (pc' := 141) (ls' := [some (.ref 57), some (.int (if pa_sk tx T A < T then 1 else 0))]) (st' := []) (h' := (n, sl, wKK kk, (rdI I (nI (pa_sk tx T A)) (nI (pa_sk tx T A)) 39 xm 1 (nI (pa_sk tx T A)) (nI ce) cd), L, wQQ q)) 1 rfl ?_
          have hld : (pa_lt (tx (pa_sk tx T A)) || pa_dg (tx (pa_sk tx T A))) = true := by rw [Bool.or_eq_true]; exact Or.inl c42.2
          have E := pa_c_adj (b := tx) c22 hld (by omega) (by rw [Bool.or_eq_true]; exact Or.inl c91.2)
          refine tv_rv rfl ⟨rfl, _, rfl, ?_⟩
          rw [E]
          exact ⟨_, _, _, _, _, hsk, hce, rfl⟩
