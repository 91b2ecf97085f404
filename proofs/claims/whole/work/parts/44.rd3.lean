/-! THE CLASS'S READER: taking a word, a number, the next token -/
theorem pa_rn_in {P : Nat → Bool} : ∀ m A j, j < pa_rn P A m → P (A + j) = true := by
  intro m
  induction m with
  | zero => intro A j h; exact absurd h (Nat.not_lt_zero _)
  | succ m ih =>
    intro A j h
    cases hp : P A with
    | false => rw [pa_rn_0 hp] at h; omega
    | true =>
      rw [pa_rn_s hp] at h
      cases j with
      | zero => exact hp
      | succ j => rw [show A + (j + 1) = A + 1 + j by omega]; exact ih (A + 1) j (by omega)
theorem pa_rn_out {P : Nat → Bool} : ∀ m A, pa_rn P A m < m → P (A + pa_rn P A m) = false := by
  intro m
  induction m with
  | zero => intro A h; omega
  | succ m ih =>
    intro A h
    cases hp : P A with
    | false => rw [pa_rn_0 hp]; exact hp
    | true =>
      rw [pa_rn_s hp] at h ⊢
      rw [show A + (pa_rn P (A + 1) m + 1) = A + 1 + pa_rn P (A + 1) m by omega]
      exact ih (A + 1) (by omega)
theorem pa_idx_hit {l : List Nat} : ∀ (ws : List (List Nat)) (w : Nat), w < ws.length → ws.getD w [] = l → (∀ v, v < w → ws.getD v [] ≠ l) → ws.idxOf l = w := by
  intro ws
  induction ws with
  | nil => intro w h; exact absurd h (Nat.not_lt_zero _)
  | cons x ws ih =>
    intro w h h1 h2
    cases w with
    | zero =>
      have h1' : x = l := h1
      rw [h1', List.idxOf_cons_self]
    | succ w =>
      have h0 : x ≠ l := h2 0 (Nat.succ_pos _)
      rw [List.idxOf_cons, show (x == l) = false from beq_false_of_ne h0, cond_false, ih w (Nat.lt_of_succ_lt_succ h) h1 (fun v hv => h2 (v + 1) (by omega))]
theorem pa_idx_miss {l : List Nat} : ∀ (ws : List (List Nat)), (∀ v, v < ws.length → ws.getD v [] ≠ l) → ws.idxOf l = ws.length := by
  intro ws
  induction ws with
  | nil => intro _; rfl
  | cons x ws ih =>
    intro h
    have h0 : x ≠ l := h 0 (Nat.succ_pos _)
    rw [List.idxOf_cons, show (x == l) = false from beq_false_of_ne h0, cond_false, ih (fun v hv => h (v + 1) (Nat.succ_lt_succ hv))]
    rfl
theorem rdI_hi {I : Nat → Nat → Int32} {xs xa xt xm xf xl xc : Int32} {cd : Nat → Int32} {j : Nat} (h1 : j ≠ 57) (h2 : j ≠ 59) : rdI I xs xa xt xm xf xl xc cd j = I j := by
  funext i
  unfold rdI
  rw [show Nat.beq j 57 = false from rdI_nb h1, show Nat.beq j 59 = false from rdI_nb h2]
  rfl
theorem rdW_c {kk : Nat → Nat × Nat} {I : Nat → Nat → Int32} {xs xa xt xm xf xl xc : Int32} {cd : Nat → Int32} (h : rdW kk I) : rdW kk (rdI I xs xa xt xm xf xl xc cd) := fun w hw => ⟨(h w hw).1, by rw [rdI_hi (by unfold am_B; omega) (by unfold am_B; omega)]; exact (h w hw).2⟩
theorem rdH_c {tx : Nat → Nat} {T : Nat} {I : Nat → Nat → Int32} {xs xa xt xm xf xl xc : Int32} {cd : Nat → Int32} (h : rdH tx T I) : rdH tx T (rdI I xs xa xt xm xf xl xc cd) := h
theorem pa_by_nI {x : Nat} (h : x < 128) : pa_by x = nI x := if_pos h
theorem tv_r_takeWord {d n sl : Nat} {kk : Nat → Nat × Nat} {I : Nat → Nat → Int32} {L : Nat → Nat → Int64} {q : Nat → Nat → Option Nat} {tx : Nat → Nat} {T : Nat} {xt xm xl xc : Int32} {cd : Nat → Int32} {S : Nat} (hH : rdH tx T I) (hW : rdW kk I) (hS : S < T) : am_T (d + 2) 84 0 (am_ent 2 [.ref 57]) [] (n, sl, wKK kk, (rdI I (nI S) (nI S) xt xm 0 xl xc cd), L, wQQ q) (fun rv h' => rv = none ∧ ((8 < pa_wl tx T S ∧ h' = (n, sl, wKK kk, (rdI I (nI S) (nI (S + 8)) 39 xm 1 (nI (S + 8)) xc cd), L, wQQ q)) ∨ (pa_wl tx T S ≤ 8 ∧ h' = (n, sl, wKK kk, (rdI I (nI S) (nI (S + (pa_wl tx T S))) (nI (pa_wtk (pa_bs tx S (pa_wl tx T S)))) xm 0 xl xc cd), L, wQQ q)))) := by
  have hT := hH.2.1
  have hW1 : ∀ j, j < (pa_wl tx T S) → pa_lt (tx (S + j)) = true := fun j hj => pa_rn_in (P := fun i => pa_lt (tx i)) _ _ j hj
  have hW2 : (pa_wl tx T S) ≤ T - S := pa_rn_le _ _ _
  have hW3 : (pa_wl tx T S) < T - S → pa_lt (tx (S + (pa_wl tx T S))) = false := fun h => pa_rn_out (P := fun i => pa_lt (tx i)) _ _ h
  have loop2 : pa_wl tx T S ≤ 8 → ∀ mm w : Nat, w + mm = 21 → (∀ v, v < w → pa_words.getD v [] ≠ pa_bs tx S (pa_wl tx T S)) → am_T (d + 2) 84 78 [some (.ref 57), some (.int (nI w))] [] (n, sl, wKK kk, (rdI I (nI S) (nI (S + (pa_wl tx T S))) 39 xm 0 xl xc cd), L, wQQ q) (fun rv h' => rv = none ∧ ((8 < pa_wl tx T S ∧ h' = (n, sl, wKK kk, (rdI I (nI S) (nI (S + 8)) 39 xm 1 (nI (S + 8)) xc cd), L, wQQ q)) ∨ (pa_wl tx T S ≤ 8 ∧ h' = (n, sl, wKK kk, (rdI I (nI S) (nI (S + (pa_wl tx T S))) (nI (pa_wtk (pa_bs tx S (pa_wl tx T S)))) xm 0 xl xc cd), L, wQQ q)))) := by
    intro h8 mm
    induction mm with
    | zero =>
      intro w hw hn
      have hw : w = 21 := by omega
      subst hw
      refine tv_b (pc' := (if 20 < (nI 21) then 115 else 84)) (ls' := [some (.ref 57), some (.int (nI 21))]) (st' := []) (h' := (n, sl, wKK kk, (rdI I (nI S) (nI (S + (pa_wl tx T S))) 39 xm 0 xl xc cd), L, wQQ q)) 3 rfl ?_
      refine tv_t ((nI_ltI (a := 20) (b := 21) (by omega) (by omega)).mpr (by omega)) ?_
      refine tv_rv rfl ⟨rfl, Or.inr ⟨h8, ?_⟩⟩
      have e : pa_wtk (pa_bs tx S (pa_wl tx T S)) = 39 := by unfold pa_wtk; rw [pa_idx_miss pa_words (fun v hv => hn v (by have : pa_words.length = 21 := rfl; omega))]; rfl
      rw [e]; rfl
    | succ mm ih =>
      intro w hw hn
      refine tv_b (pc' := (if 20 < (nI w) then 115 else 84)) (ls' := [some (.ref 57), some (.int (nI w))]) (st' := []) (h' := (n, sl, wKK kk, (rdI I (nI S) (nI (S + (pa_wl tx T S))) 39 xm 0 xl xc cd), L, wQQ q)) 3 rfl ?_
      refine tv_f (fun hq => absurd ((nI_ltI (a := 20) (b := w) (by omega) (by omega)).mp hq) (by omega)) ?_
      refine tv_b (pc' := 95) (ls' := [some (.ref 57), some (.int (nI w))]) (st' := [.int (nI w), .ref 57]) (h' := (n, sl, wKK kk, (rdI I (nI S) (nI (S + (pa_wl tx T S))) 39 xm 0 xl xc cd), L, wQQ q)) 6 rfl ?_
      refine tv_csE [.int (nI w)] [.ref 57] rfl rfl (by omega) rfl (Nat.le_of_ble_eq_true rfl) (Nat.le_of_ble_eq_true rfl) (ev_r_spelling (by omega)) ?_
      refine tv_cvE [.ref (am_B + 1 + w)] [] rfl rfl (by omega) rfl (Nat.le_of_ble_eq_true rfl) (Nat.le_of_ble_eq_true rfl) (Or.inr (Or.inr rfl)) (ev_r_isSpelled (rdH_c hH) (rdW_c hW) (by omega) rfl rfl (by omega) (by omega)) ?_
      refine tv_b (pc' := (if (if pa_words.getD w [] = pa_bs tx S (S + (pa_wl tx T S) - S) then 1 else 0) = 0 then 109 else 104)) (ls' := [some (.ref 57), some (.int (nI w))]) (st' := []) (h' := (n, sl, wKK kk, (rdI I (nI S) (nI (S + (pa_wl tx T S))) 39 xm 0 xl xc cd), L, wQQ q)) 1 rfl ?_
      refine tv_b0 (fun c101 => ?_) (fun c101 => ?_)
      · refine tv_iincN (k := w) (ls' := [some (.ref 57), some (.int (nI (w + 1)))]) rfl rfl rfl ?_
        refine tv_b (pc' := 78) (ls' := [some (.ref 57), some (.int (nI (w + 1)))]) (st' := []) (h' := (n, sl, wKK kk, (rdI I (nI S) (nI (S + (pa_wl tx T S))) 39 xm 0 xl xc cd), L, wQQ q)) 1 rfl ?_
        refine ih (w + 1) (by omega) (fun v hv => ?_)
        by_cases e : v < w
        · exact hn v e
        · rw [show v = w by omega]; intro q; apply c101; rw [show S + (pa_wl tx T S) - S = pa_wl tx T S by omega]; exact q
      · refine tv_b (pc' := 109) (ls' := [some (.ref 57), some (.int (nI w))]) (st' := []) (h' := (n, sl, wKK kk, va_up (rdI I (nI S) (nI (S + (pa_wl tx T S))) 39 xm 0 xl xc cd) 57 (upd ((rdI I (nI S) (nI (S + (pa_wl tx T S))) 39 xm 0 xl xc cd) 57) 4 (nI w)), L, wQQ q)) 3 rfl ?_
        refine tv_hI rdI_w_xt ?_
        refine tv_iincN (k := w) (ls' := [some (.ref 57), some (.int (nI (w + 1)))]) rfl rfl rfl ?_
        refine tv_b (pc' := 78) (ls' := [some (.ref 57), some (.int (nI (w + 1)))]) (st' := []) (h' := (n, sl, wKK kk, (rdI I (nI S) (nI (S + (pa_wl tx T S))) (nI w) xm 0 xl xc cd), L, wQQ q)) 1 rfl ?_
        refine tv_b (pc' := (if 20 < (nI (w + 1)) then 115 else 84)) (ls' := [some (.ref 57), some (.int (nI (w + 1)))]) (st' := []) (h' := (n, sl, wKK kk, (rdI I (nI S) (nI (S + (pa_wl tx T S))) (nI w) xm 0 xl xc cd), L, wQQ q)) 3 rfl ?_
        refine tv_ifq (nI_ltI (a := 20) (b := w + 1) (by omega) (by omega)) (fun c81 => ?_) (fun c81 => ?_)
        · refine tv_rv rfl ⟨rfl, Or.inr ⟨h8, ?_⟩⟩
          have e : pa_wtk (pa_bs tx S (pa_wl tx T S)) = w := by
            have e2 := pa_idx_hit pa_words w (by have : pa_words.length = 21 := rfl; omega) (by have := c101; rwa [show S + (pa_wl tx T S) - S = pa_wl tx T S by omega] at this) hn
            unfold pa_wtk
            rw [e2, if_pos (by omega)]
          rw [e]
        · refine tv_b (pc' := (if (nI w) = 39 then 93 else 115)) (ls' := [some (.ref 57), some (.int (nI (w + 1)))]) (st' := []) (h' := (n, sl, wKK kk, (rdI I (nI S) (nI (S + (pa_wl tx T S))) (nI w) xm 0 xl xc cd), L, wQQ q)) 4 rfl ?_
          refine tv_f (fun hq => absurd ((nI_eq (a := w) (b := 39) (by omega) (by omega)).mp hq) (by omega)) ?_
          refine tv_rv rfl ⟨rfl, Or.inr ⟨h8, ?_⟩⟩
          have e : pa_wtk (pa_bs tx S (pa_wl tx T S)) = w := by
            have e2 := pa_idx_hit pa_words w (by have : pa_words.length = 21 := rfl; omega) (by have := c101; rwa [show S + (pa_wl tx T S) - S = pa_wl tx T S by omega] at this) hn
            unfold pa_wtk
            rw [e2, if_pos (by omega)]
          rw [e]
  have tail : am_T (d + 2) 84 49 [some (.ref 57), none] [] (n, sl, wKK kk, (rdI I (nI S) (nI (S + (min (pa_wl tx T S) 8))) xt xm 0 xl xc cd), L, wQQ q) (fun rv h' => rv = none ∧ ((8 < pa_wl tx T S ∧ h' = (n, sl, wKK kk, (rdI I (nI S) (nI (S + 8)) 39 xm 1 (nI (S + 8)) xc cd), L, wQQ q)) ∨ (pa_wl tx T S ≤ 8 ∧ h' = (n, sl, wKK kk, (rdI I (nI S) (nI (S + (pa_wl tx T S))) (nI (pa_wtk (pa_bs tx S (pa_wl tx T S)))) xm 0 xl xc cd), L, wQQ q)))) := by
    refine tv_b (pc' := 54) (ls' := [some (.ref 57), none]) (st' := [.int (nI (S + (min (pa_wl tx T S) 8))), .ref 57]) (h' := (n, sl, wKK kk, (rdI I (nI S) (nI (S + (min (pa_wl tx T S) 8))) xt xm 0 xl xc cd), L, wQQ q)) 3 rfl ?_
    refine tv_cvE [.int (nI (S + (min (pa_wl tx T S) 8)))] [] rfl rfl (by omega) rfl (Nat.le_of_ble_eq_true rfl) (Nat.le_of_ble_eq_true rfl) (Or.inr (Or.inr rfl)) (ev_r_isLetter (rdH_c hH) (by omega)) ?_
    refine tv_b (pc' := (if (if S + (min (pa_wl tx T S) 8) < T ∧ pa_lt (tx (S + (min (pa_wl tx T S) 8))) = true then 1 else 0) = 0 then 70 else 60)) (ls' := [some (.ref 57), none]) (st' := []) (h' := (n, sl, wKK kk, (rdI I (nI S) (nI (S + (min (pa_wl tx T S) 8))) xt xm 0 xl xc cd), L, wQQ q)) 1 rfl ?_
    refine tv_b0 (fun c57 => ?_) (fun c57 => ?_)
    · refine tv_b (pc' := 76) (ls' := [some (.ref 57), none]) (st' := []) (h' := (n, sl, wKK kk, va_up (rdI I (nI S) (nI (S + (min (pa_wl tx T S) 8))) xt xm 0 xl xc cd) 57 (upd ((rdI I (nI S) (nI (S + (min (pa_wl tx T S) 8))) xt xm 0 xl xc cd) 57) 4 39), L, wQQ q)) 3 rfl ?_
      refine tv_hI rdI_w_xt ?_
      refine tv_b (pc' := 78) (ls' := [some (.ref 57), some (.int 0)]) (st' := []) (h' := (n, sl, wKK kk, (rdI I (nI S) (nI (S + (min (pa_wl tx T S) 8))) 39 xm 0 xl xc cd), L, wQQ q)) 2 rfl ?_
      have h8 : pa_wl tx T S ≤ 8 := by
        apply Nat.le_of_not_lt; intro q; apply c57; rw [show min (pa_wl tx T S) 8 = 8 by omega]; exact ⟨by omega, hW1 8 q⟩
      have e : min (pa_wl tx T S) 8 = pa_wl tx T S := by omega
      rw [e]; exact loop2 h8 21 0 (by omega) (fun v hv => absurd hv (Nat.not_lt_zero _))
    · refine tv_b (pc' := 66) (ls' := [some (.ref 57), none]) (st' := [.int (nI (S + (min (pa_wl tx T S) 8))), .int 1, .ref 57]) (h' := (n, sl, wKK kk, (rdI I (nI S) (nI (S + (min (pa_wl tx T S) 8))) xt xm 0 xl xc cd), L, wQQ q)) 4 rfl ?_
      refine tv_cvE [.int 1, .int (nI (S + (min (pa_wl tx T S) 8)))] [] rfl rfl (by omega) rfl (Nat.le_of_ble_eq_true rfl) (Nat.le_of_ble_eq_true rfl) (Or.inr (Or.inr rfl)) (ev_r_fail0) ?_
      refine tv_rv rfl ⟨rfl, Or.inl ?_⟩
      have h8 : 8 < pa_wl tx T S := by
        apply Nat.lt_of_not_le; intro q; rw [show min (pa_wl tx T S) 8 = pa_wl tx T S by omega] at c57; have := hW3 (by omega); rw [this] at c57; exact Bool.noConfusion c57.2
      have e : min (pa_wl tx T S) 8 = 8 := by omega
      rw [e]; exact ⟨h8, rfl⟩
  have loop : ∀ mm k : Nat, k + mm = (min (pa_wl tx T S) 8) → am_T (d + 2) 84 0 [some (.ref 57), none] [] (n, sl, wKK kk, (rdI I (nI S) (nI (S + k)) xt xm 0 xl xc cd), L, wQQ q) (fun rv h' => rv = none ∧ ((8 < pa_wl tx T S ∧ h' = (n, sl, wKK kk, (rdI I (nI S) (nI (S + 8)) 39 xm 1 (nI (S + 8)) xc cd), L, wQQ q)) ∨ (pa_wl tx T S ≤ 8 ∧ h' = (n, sl, wKK kk, (rdI I (nI S) (nI (S + (pa_wl tx T S))) (nI (pa_wtk (pa_bs tx S (pa_wl tx T S)))) xm 0 xl xc cd), L, wQQ q)))) := by
    intro mm
    induction mm with
    | zero =>
      intro k hk
      have hk : k = (min (pa_wl tx T S) 8) := by omega
      subst hk
      refine tv_b (pc' := 8) (ls' := [some (.ref 57), none]) (st' := [.int (I 57 1), .int (nI (S + (min (pa_wl tx T S) 8)))]) (h' := (n, sl, wKK kk, (rdI I (nI S) (nI (S + (min (pa_wl tx T S) 8))) xt xm 0 xl xc cd), L, wQQ q)) 4 rfl ?_
      refine tv_top (hH.1) ?_
      refine tv_b (pc' := (if (nI T) ≤ (nI (S + (min (pa_wl tx T S) 8))) then 49 else 11)) (ls' := [some (.ref 57), none]) (st' := []) (h' := (n, sl, wKK kk, (rdI I (nI S) (nI (S + (min (pa_wl tx T S) 8))) xt xm 0 xl xc cd), L, wQQ q)) 1 rfl ?_
      refine tv_ifq (nI_leI (a := T) (b := S + (min (pa_wl tx T S) 8)) (by omega) (by omega)) (fun c8 => ?_) (fun c8 => ?_)
      · exact tail
      · refine tv_b (pc' := 19) (ls' := [some (.ref 57), none]) (st' := [.int (nI S), .int (nI (S + (min (pa_wl tx T S) 8)))]) (h' := (n, sl, wKK kk, (rdI I (nI S) (nI (S + (min (pa_wl tx T S) 8))) xt xm 0 xl xc cd), L, wQQ q)) 4 rfl ?_
        refine tv_b (pc' := 20) (ls' := [some (.ref 57), none]) (st' := [.int ((nI (S + (min (pa_wl tx T S) 8))) - (nI S))]) (h' := (n, sl, wKK kk, (rdI I (nI S) (nI (S + (min (pa_wl tx T S) 8))) xt xm 0 xl xc cd), L, wQQ q)) 1 rfl ?_
        refine tv_top (show (nI (S + (min (pa_wl tx T S) 8))) - (nI S) = nI ((S + (min (pa_wl tx T S) 8)) - S) from nI_sub (a := S + (min (pa_wl tx T S) 8)) (b := S) (by omega)) ?_
        refine tv_b (pc' := (if 8 ≤ (nI ((S + (min (pa_wl tx T S) 8)) - S)) then 49 else 25)) (ls' := [some (.ref 57), none]) (st' := []) (h' := (n, sl, wKK kk, (rdI I (nI S) (nI (S + (min (pa_wl tx T S) 8))) xt xm 0 xl xc cd), L, wQQ q)) 2 rfl ?_
        refine tv_ifq (nI_leI (a := 8) (b := (S + (min (pa_wl tx T S) 8)) - S) (by omega) (by omega)) (fun c22 => ?_) (fun c22 => ?_)
        · exact tail
        · refine tv_b (pc' := 30) (ls' := [some (.ref 57), none]) (st' := [.int (nI (S + (min (pa_wl tx T S) 8))), .ref 57]) (h' := (n, sl, wKK kk, (rdI I (nI S) (nI (S + (min (pa_wl tx T S) 8))) xt xm 0 xl xc cd), L, wQQ q)) 3 rfl ?_
          refine tv_cvE [.int (nI (S + (min (pa_wl tx T S) 8)))] [] rfl rfl (by omega) rfl (Nat.le_of_ble_eq_true rfl) (Nat.le_of_ble_eq_true rfl) (Or.inr (Or.inr rfl)) (ev_r_isLetter (rdH_c hH) (by omega)) ?_
          refine tv_b (pc' := (if (if S + (min (pa_wl tx T S) 8) < T ∧ pa_lt (tx (S + (min (pa_wl tx T S) 8))) = true then 1 else 0) = 0 then 49 else 36)) (ls' := [some (.ref 57), none]) (st' := []) (h' := (n, sl, wKK kk, (rdI I (nI S) (nI (S + (min (pa_wl tx T S) 8))) xt xm 0 xl xc cd), L, wQQ q)) 1 rfl ?_
          refine tv_b0f (fun q => by have e : min (pa_wl tx T S) 8 = pa_wl tx T S := (by omega); rw [e] at q; have := hW3 (by omega); rw [this] at q; exact Bool.noConfusion q.2) ?_
          exact tail
    | succ mm ih =>
      intro k hk
      refine tv_b (pc' := 8) (ls' := [some (.ref 57), none]) (st' := [.int (I 57 1), .int (nI (S + k))]) (h' := (n, sl, wKK kk, (rdI I (nI S) (nI (S + k)) xt xm 0 xl xc cd), L, wQQ q)) 4 rfl ?_
      refine tv_top (hH.1) ?_
      refine tv_b (pc' := (if (nI T) ≤ (nI (S + k)) then 49 else 11)) (ls' := [some (.ref 57), none]) (st' := []) (h' := (n, sl, wKK kk, (rdI I (nI S) (nI (S + k)) xt xm 0 xl xc cd), L, wQQ q)) 1 rfl ?_
      refine tv_f (fun hq => absurd ((nI_leI (a := T) (b := S + k) (by omega) (by omega)).mp hq) (by omega)) ?_
      refine tv_b (pc' := 19) (ls' := [some (.ref 57), none]) (st' := [.int (nI S), .int (nI (S + k))]) (h' := (n, sl, wKK kk, (rdI I (nI S) (nI (S + k)) xt xm 0 xl xc cd), L, wQQ q)) 4 rfl ?_
      refine tv_b (pc' := 20) (ls' := [some (.ref 57), none]) (st' := [.int ((nI (S + k)) - (nI S))]) (h' := (n, sl, wKK kk, (rdI I (nI S) (nI (S + k)) xt xm 0 xl xc cd), L, wQQ q)) 1 rfl ?_
      refine tv_top (show (nI (S + k)) - (nI S) = nI ((S + k) - S) from nI_sub (a := S + k) (b := S) (by omega)) ?_
      refine tv_b (pc' := (if 8 ≤ (nI ((S + k) - S)) then 49 else 25)) (ls' := [some (.ref 57), none]) (st' := []) (h' := (n, sl, wKK kk, (rdI I (nI S) (nI (S + k)) xt xm 0 xl xc cd), L, wQQ q)) 2 rfl ?_
      refine tv_f (fun hq => absurd ((nI_leI (a := 8) (b := (S + k) - S) (by omega) (by omega)).mp hq) (by omega)) ?_
      refine tv_b (pc' := 30) (ls' := [some (.ref 57), none]) (st' := [.int (nI (S + k)), .ref 57]) (h' := (n, sl, wKK kk, (rdI I (nI S) (nI (S + k)) xt xm 0 xl xc cd), L, wQQ q)) 3 rfl ?_
      refine tv_cvE [.int (nI (S + k))] [] rfl rfl (by omega) rfl (Nat.le_of_ble_eq_true rfl) (Nat.le_of_ble_eq_true rfl) (Or.inr (Or.inr rfl)) (ev_r_isLetter (rdH_c hH) (by omega)) ?_
      refine tv_b (pc' := (if (if S + k < T ∧ pa_lt (tx (S + k)) = true then 1 else 0) = 0 then 49 else 36)) (ls' := [some (.ref 57), none]) (st' := []) (h' := (n, sl, wKK kk, (rdI I (nI S) (nI (S + k)) xt xm 0 xl xc cd), L, wQQ q)) 1 rfl ?_
      refine tv_b0t (⟨by omega, hW1 k (by omega)⟩) ?_
      refine tv_b (pc' := 42) (ls' := [some (.ref 57), none]) (st' := [.int 1, .int (nI (S + k)), .ref 57]) (h' := (n, sl, wKK kk, (rdI I (nI S) (nI (S + k)) xt xm 0 xl xc cd), L, wQQ q)) 4 rfl ?_
      refine tv_b (pc' := 43) (ls' := [some (.ref 57), none]) (st' := [.int ((nI (S + k)) + 1), .ref 57]) (h' := (n, sl, wKK kk, (rdI I (nI S) (nI (S + k)) xt xm 0 xl xc cd), L, wQQ q)) 1 rfl ?_
      refine tv_top (show (nI (S + k)) + 1 = nI ((S + k) + 1) from nI_add (S + k) 1) ?_
      refine tv_b (pc' := 46) (ls' := [some (.ref 57), none]) (st' := []) (h' := (n, sl, wKK kk, va_up (rdI I (nI S) (nI (S + k)) xt xm 0 xl xc cd) 57 (upd ((rdI I (nI S) (nI (S + k)) xt xm 0 xl xc cd) 57) 3 (nI ((S + k) + 1))), L, wQQ q)) 1 rfl ?_
      refine tv_hI rdI_w_xa ?_
      refine tv_b (pc' := 0) (ls' := [some (.ref 57), none]) (st' := []) (h' := (n, sl, wKK kk, (rdI I (nI S) (nI ((S + k) + 1)) xt xm 0 xl xc cd), L, wQQ q)) 1 rfl ?_
      exact ih (k + 1) (by omega)
  exact loop (min (pa_wl tx T S) 8) 0 (by omega)
theorem pa_dv_lt {b : Nat → Nat} {s : Nat} : ∀ m, (∀ j, j < m → pa_dg (b (s + j)) = true) → pa_dv b s m < 10 ^ m := by
  intro m
  induction m with
  | zero => intro _; exact Nat.one_pos
  | succ m ih =>
    intro h
    have h1 := ih (fun j hj => h j (by omega))
    have h2 : b (s + m) ≤ 57 := by
      have := h m (by omega)
      unfold pa_dg at this
      rw [Bool.and_eq_true] at this
      exact Nat.le_of_ble_eq_true this.2
    show 10 * pa_dv b s m + (b (s + m) - 48) < _
    rw [Nat.pow_succ]
    omega
theorem pa_nm_e {b : Nat → Nat} {n p : Nat} (h : pa_dl b n (pa_sk b n p) ≤ 7) : pa_nm b n p = pa_dv b (pa_sk b n p) (pa_dl b n (pa_sk b n p)) := by
  have h1 := pa_dv_lt (b := b) (s := pa_sk b n p) (pa_dl b n (pa_sk b n p)) (fun j hj => pa_rn_in (P := fun i => pa_dg (b i)) _ _ j hj)
  have h2 : 10 ^ pa_dl b n (pa_sk b n p) ≤ 10 ^ 7 := Nat.pow_le_pow_right (by decide) h
  exact Nat.mod_eq_of_lt (by omega)
theorem tv_r_takeNumber {d n sl : Nat} {kk : Nat → Nat × Nat} {I : Nat → Nat → Int32} {L : Nat → Nat → Int64} {q : Nat → Nat → Option Nat} {tx : Nat → Nat} {T : Nat} {xt xm xl xc : Int32} {cd : Nat → Int32} {S : Nat} (hH : rdH tx T I) (hS : S < T) : am_T (d + 2) 85 0 (am_ent 1 [.ref 57]) [] (n, sl, wKK kk, (rdI I (nI S) (nI S) xt xm 0 xl xc cd), L, wQQ q) (fun rv h' => rv = none ∧ ((7 < pa_dl tx T S ∧ h' = (n, sl, wKK kk, (rdI I (nI S) (nI (S + 7)) 39 (nI (pa_dv tx S 7)) 1 (nI (S + 7)) xc cd), L, wQQ q)) ∨ (pa_dl tx T S ≤ 7 ∧ h' = (n, sl, wKK kk, (rdI I (nI S) (nI (S + (pa_dl tx T S))) 21 (nI (pa_dv tx S (pa_dl tx T S))) 0 xl xc cd), L, wQQ q)))) := by
  have hT := hH.2.1
  have hW1 : ∀ j, j < (pa_dl tx T S) → pa_dg (tx (S + j)) = true := fun j hj => pa_rn_in (P := fun i => pa_dg (tx i)) _ _ j hj
  have hW2 : (pa_dl tx T S) ≤ T - S := pa_rn_le _ _ _
  have hW3 : (pa_dl tx T S) < T - S → pa_dg (tx (S + (pa_dl tx T S))) = false := fun h => pa_rn_out (P := fun i => pa_dg (tx i)) _ _ h
  have hdv : ∀ k, k ≤ (min (pa_dl tx T S) 7) → pa_dv tx S k < 10000000 := by
    intro k hk
    have h1 := pa_dv_lt (b := tx) (s := S) k (fun j hj => hW1 j (by omega))
    have h2 : 10 ^ k ≤ 10 ^ 7 := Nat.pow_le_pow_right (by decide) (by omega)
    omega
  have tail : am_T (d + 2) 85 78 [some (.ref 57)] [] (n, sl, wKK kk, (rdI I (nI S) (nI (S + (min (pa_dl tx T S) 7))) xt (nI (pa_dv tx S (min (pa_dl tx T S) 7))) 0 xl xc cd), L, wQQ q) (fun rv h' => rv = none ∧ ((7 < pa_dl tx T S ∧ h' = (n, sl, wKK kk, (rdI I (nI S) (nI (S + 7)) 39 (nI (pa_dv tx S 7)) 1 (nI (S + 7)) xc cd), L, wQQ q)) ∨ (pa_dl tx T S ≤ 7 ∧ h' = (n, sl, wKK kk, (rdI I (nI S) (nI (S + (pa_dl tx T S))) 21 (nI (pa_dv tx S (pa_dl tx T S))) 0 xl xc cd), L, wQQ q)))) := by
    refine tv_b (pc' := 83) (ls' := [some (.ref 57)]) (st' := [.int (nI (S + (min (pa_dl tx T S) 7))), .ref 57]) (h' := (n, sl, wKK kk, (rdI I (nI S) (nI (S + (min (pa_dl tx T S) 7))) xt (nI (pa_dv tx S (min (pa_dl tx T S) 7))) 0 xl xc cd), L, wQQ q)) 3 rfl ?_
    refine tv_cvE [.int (nI (S + (min (pa_dl tx T S) 7)))] [] rfl rfl (by omega) rfl (Nat.le_of_ble_eq_true rfl) (Nat.le_of_ble_eq_true rfl) (Or.inr (Or.inr rfl)) (ev_r_isDigit (rdH_c hH) (by omega)) ?_
    refine tv_b (pc' := (if (if S + (min (pa_dl tx T S) 7) < T ∧ pa_dg (tx (S + (min (pa_dl tx T S) 7))) = true then 1 else 0) = 0 then 101 else 89)) (ls' := [some (.ref 57)]) (st' := []) (h' := (n, sl, wKK kk, (rdI I (nI S) (nI (S + (min (pa_dl tx T S) 7))) xt (nI (pa_dv tx S (min (pa_dl tx T S) 7))) 0 xl xc cd), L, wQQ q)) 1 rfl ?_
    refine tv_b0 (fun c86 => ?_) (fun c86 => ?_)
    · refine tv_b (pc' := 107) (ls' := [some (.ref 57)]) (st' := []) (h' := (n, sl, wKK kk, va_up (rdI I (nI S) (nI (S + (min (pa_dl tx T S) 7))) xt (nI (pa_dv tx S (min (pa_dl tx T S) 7))) 0 xl xc cd) 57 (upd ((rdI I (nI S) (nI (S + (min (pa_dl tx T S) 7))) xt (nI (pa_dv tx S (min (pa_dl tx T S) 7))) 0 xl xc cd) 57) 4 21), L, wQQ q)) 3 rfl ?_
      refine tv_hI rdI_w_xt ?_
      refine tv_rv rfl ⟨rfl, Or.inr ?_⟩
      have h8 : pa_dl tx T S ≤ 7 := by
        apply Nat.le_of_not_lt; intro q; apply c86; rw [show min (pa_dl tx T S) 7 = 7 by omega]; exact ⟨by omega, hW1 7 q⟩
      have e : min (pa_dl tx T S) 7 = pa_dl tx T S := by omega
      rw [e]; exact ⟨h8, rfl⟩
    · refine tv_b (pc' := 95) (ls' := [some (.ref 57)]) (st' := [.int (nI (S + (min (pa_dl tx T S) 7))), .int 1, .ref 57]) (h' := (n, sl, wKK kk, (rdI I (nI S) (nI (S + (min (pa_dl tx T S) 7))) xt (nI (pa_dv tx S (min (pa_dl tx T S) 7))) 0 xl xc cd), L, wQQ q)) 4 rfl ?_
      refine tv_cvE [.int 1, .int (nI (S + (min (pa_dl tx T S) 7)))] [] rfl rfl (by omega) rfl (Nat.le_of_ble_eq_true rfl) (Nat.le_of_ble_eq_true rfl) (Or.inr (Or.inr rfl)) (ev_r_fail0) ?_
      refine tv_b (pc' := 107) (ls' := [some (.ref 57)]) (st' := []) (h' := (n, sl, wKK kk, (rdI I (nI S) (nI (S + (min (pa_dl tx T S) 7))) 39 (nI (pa_dv tx S (min (pa_dl tx T S) 7))) 1 (nI (S + (min (pa_dl tx T S) 7))) xc cd), L, wQQ q)) 1 rfl ?_
      refine tv_rv rfl ⟨rfl, Or.inl ?_⟩
      have h8 : 7 < pa_dl tx T S := by
        apply Nat.lt_of_not_le; intro q; rw [show min (pa_dl tx T S) 7 = pa_dl tx T S by omega] at c86; have := hW3 (by omega); rw [this] at c86; exact Bool.noConfusion c86.2
      have e : min (pa_dl tx T S) 7 = 7 := by omega
      rw [e]; exact ⟨h8, rfl⟩
  have loop : ∀ mm k : Nat, k + mm = (min (pa_dl tx T S) 7) → am_T (d + 2) 85 5 [some (.ref 57)] [] (n, sl, wKK kk, (rdI I (nI S) (nI (S + k)) xt (nI (pa_dv tx S k)) 0 xl xc cd), L, wQQ q) (fun rv h' => rv = none ∧ ((7 < pa_dl tx T S ∧ h' = (n, sl, wKK kk, (rdI I (nI S) (nI (S + 7)) 39 (nI (pa_dv tx S 7)) 1 (nI (S + 7)) xc cd), L, wQQ q)) ∨ (pa_dl tx T S ≤ 7 ∧ h' = (n, sl, wKK kk, (rdI I (nI S) (nI (S + (pa_dl tx T S))) 21 (nI (pa_dv tx S (pa_dl tx T S))) 0 xl xc cd), L, wQQ q)))) := by
    intro mm
    induction mm with
    | zero =>
      intro k hk
      have hk : k = (min (pa_dl tx T S) 7) := by omega
      subst hk
      refine tv_b (pc' := 13) (ls' := [some (.ref 57)]) (st' := [.int (I 57 1), .int (nI (S + (min (pa_dl tx T S) 7)))]) (h' := (n, sl, wKK kk, (rdI I (nI S) (nI (S + (min (pa_dl tx T S) 7))) xt (nI (pa_dv tx S (min (pa_dl tx T S) 7))) 0 xl xc cd), L, wQQ q)) 4 rfl ?_
      refine tv_top (hH.1) ?_
      refine tv_b (pc' := (if (nI T) ≤ (nI (S + (min (pa_dl tx T S) 7))) then 78 else 16)) (ls' := [some (.ref 57)]) (st' := []) (h' := (n, sl, wKK kk, (rdI I (nI S) (nI (S + (min (pa_dl tx T S) 7))) xt (nI (pa_dv tx S (min (pa_dl tx T S) 7))) 0 xl xc cd), L, wQQ q)) 1 rfl ?_
      refine tv_ifq (nI_leI (a := T) (b := S + (min (pa_dl tx T S) 7)) (by omega) (by omega)) (fun c13 => ?_) (fun c13 => ?_)
      · exact tail
      · refine tv_b (pc' := 24) (ls' := [some (.ref 57)]) (st' := [.int (nI S), .int (nI (S + (min (pa_dl tx T S) 7)))]) (h' := (n, sl, wKK kk, (rdI I (nI S) (nI (S + (min (pa_dl tx T S) 7))) xt (nI (pa_dv tx S (min (pa_dl tx T S) 7))) 0 xl xc cd), L, wQQ q)) 4 rfl ?_
        refine tv_b (pc' := 25) (ls' := [some (.ref 57)]) (st' := [.int ((nI (S + (min (pa_dl tx T S) 7))) - (nI S))]) (h' := (n, sl, wKK kk, (rdI I (nI S) (nI (S + (min (pa_dl tx T S) 7))) xt (nI (pa_dv tx S (min (pa_dl tx T S) 7))) 0 xl xc cd), L, wQQ q)) 1 rfl ?_
        refine tv_top (show (nI (S + (min (pa_dl tx T S) 7))) - (nI S) = nI ((S + (min (pa_dl tx T S) 7)) - S) from nI_sub (a := S + (min (pa_dl tx T S) 7)) (b := S) (by omega)) ?_
        refine tv_b (pc' := (if 7 ≤ (nI ((S + (min (pa_dl tx T S) 7)) - S)) then 78 else 30)) (ls' := [some (.ref 57)]) (st' := []) (h' := (n, sl, wKK kk, (rdI I (nI S) (nI (S + (min (pa_dl tx T S) 7))) xt (nI (pa_dv tx S (min (pa_dl tx T S) 7))) 0 xl xc cd), L, wQQ q)) 2 rfl ?_
        refine tv_ifq (nI_leI (a := 7) (b := (S + (min (pa_dl tx T S) 7)) - S) (by omega) (by omega)) (fun c27 => ?_) (fun c27 => ?_)
        · exact tail
        · refine tv_b (pc' := 35) (ls' := [some (.ref 57)]) (st' := [.int (nI (S + (min (pa_dl tx T S) 7))), .ref 57]) (h' := (n, sl, wKK kk, (rdI I (nI S) (nI (S + (min (pa_dl tx T S) 7))) xt (nI (pa_dv tx S (min (pa_dl tx T S) 7))) 0 xl xc cd), L, wQQ q)) 3 rfl ?_
          refine tv_cvE [.int (nI (S + (min (pa_dl tx T S) 7)))] [] rfl rfl (by omega) rfl (Nat.le_of_ble_eq_true rfl) (Nat.le_of_ble_eq_true rfl) (Or.inr (Or.inr rfl)) (ev_r_isDigit (rdH_c hH) (by omega)) ?_
          refine tv_b (pc' := (if (if S + (min (pa_dl tx T S) 7) < T ∧ pa_dg (tx (S + (min (pa_dl tx T S) 7))) = true then 1 else 0) = 0 then 78 else 41)) (ls' := [some (.ref 57)]) (st' := []) (h' := (n, sl, wKK kk, (rdI I (nI S) (nI (S + (min (pa_dl tx T S) 7))) xt (nI (pa_dv tx S (min (pa_dl tx T S) 7))) 0 xl xc cd), L, wQQ q)) 1 rfl ?_
          refine tv_b0f (fun q => by have e : min (pa_dl tx T S) 7 = pa_dl tx T S := (by omega); rw [e] at q; have := hW3 (by omega); rw [this] at q; exact Bool.noConfusion q.2) ?_
          exact tail
    | succ mm ih =>
      intro k hk
      have hd0 := hdv k (by omega)
      have hdk := hW1 k (by omega)
      have hdd : 48 ≤ tx (S + k) ∧ tx (S + k) ≤ 57 := by
        unfold pa_dg at hdk
        rw [Bool.and_eq_true] at hdk
        exact ⟨Nat.le_of_ble_eq_true hdk.1, Nat.le_of_ble_eq_true hdk.2⟩
      have hdn : I 58 (S + k) = nI (tx (S + k)) := by rw [(hH.2.2 (S + k) (by omega)).2]; exact pa_by_nI (by omega)
      have hde : 10 * (pa_dv tx S k) + (tx (S + k)) - 48 = pa_dv tx S (k + 1) := by
        show _ = 10 * pa_dv tx S k + (tx (S + k) - 48)
        omega
      refine tv_b (pc' := 13) (ls' := [some (.ref 57)]) (st' := [.int (I 57 1), .int (nI (S + k))]) (h' := (n, sl, wKK kk, (rdI I (nI S) (nI (S + k)) xt (nI (pa_dv tx S k)) 0 xl xc cd), L, wQQ q)) 4 rfl ?_
      refine tv_top (hH.1) ?_
      refine tv_b (pc' := (if (nI T) ≤ (nI (S + k)) then 78 else 16)) (ls' := [some (.ref 57)]) (st' := []) (h' := (n, sl, wKK kk, (rdI I (nI S) (nI (S + k)) xt (nI (pa_dv tx S k)) 0 xl xc cd), L, wQQ q)) 1 rfl ?_
      refine tv_f (fun hq => absurd ((nI_leI (a := T) (b := S + k) (by omega) (by omega)).mp hq) (by omega)) ?_
      refine tv_b (pc' := 24) (ls' := [some (.ref 57)]) (st' := [.int (nI S), .int (nI (S + k))]) (h' := (n, sl, wKK kk, (rdI I (nI S) (nI (S + k)) xt (nI (pa_dv tx S k)) 0 xl xc cd), L, wQQ q)) 4 rfl ?_
      refine tv_b (pc' := 25) (ls' := [some (.ref 57)]) (st' := [.int ((nI (S + k)) - (nI S))]) (h' := (n, sl, wKK kk, (rdI I (nI S) (nI (S + k)) xt (nI (pa_dv tx S k)) 0 xl xc cd), L, wQQ q)) 1 rfl ?_
      refine tv_top (show (nI (S + k)) - (nI S) = nI ((S + k) - S) from nI_sub (a := S + k) (b := S) (by omega)) ?_
      refine tv_b (pc' := (if 7 ≤ (nI ((S + k) - S)) then 78 else 30)) (ls' := [some (.ref 57)]) (st' := []) (h' := (n, sl, wKK kk, (rdI I (nI S) (nI (S + k)) xt (nI (pa_dv tx S k)) 0 xl xc cd), L, wQQ q)) 2 rfl ?_
      refine tv_f (fun hq => absurd ((nI_leI (a := 7) (b := (S + k) - S) (by omega) (by omega)).mp hq) (by omega)) ?_
      refine tv_b (pc' := 35) (ls' := [some (.ref 57)]) (st' := [.int (nI (S + k)), .ref 57]) (h' := (n, sl, wKK kk, (rdI I (nI S) (nI (S + k)) xt (nI (pa_dv tx S k)) 0 xl xc cd), L, wQQ q)) 3 rfl ?_
      refine tv_cvE [.int (nI (S + k))] [] rfl rfl (by omega) rfl (Nat.le_of_ble_eq_true rfl) (Nat.le_of_ble_eq_true rfl) (Or.inr (Or.inr rfl)) (ev_r_isDigit (rdH_c hH) (by omega)) ?_
      refine tv_b (pc' := (if (if S + k < T ∧ pa_dg (tx (S + k)) = true then 1 else 0) = 0 then 78 else 41)) (ls' := [some (.ref 57)]) (st' := []) (h' := (n, sl, wKK kk, (rdI I (nI S) (nI (S + k)) xt (nI (pa_dv tx S k)) 0 xl xc cd), L, wQQ q)) 1 rfl ?_
      refine tv_b0t (⟨by omega, hdk⟩) ?_
      refine tv_b (pc' := 48) (ls' := [some (.ref 57)]) (st' := [.int (nI (pa_dv tx S k)), .int 10, .ref 57]) (h' := (n, sl, wKK kk, (rdI I (nI S) (nI (S + k)) xt (nI (pa_dv tx S k)) 0 xl xc cd), L, wQQ q)) 4 rfl ?_
      refine tv_b (pc' := 49) (ls' := [some (.ref 57)]) (st' := [.int (10 * (nI (pa_dv tx S k))), .ref 57]) (h' := (n, sl, wKK kk, (rdI I (nI S) (nI (S + k)) xt (nI (pa_dv tx S k)) 0 xl xc cd), L, wQQ q)) 1 rfl ?_
      refine tv_top (show 10 * (nI (pa_dv tx S k)) = nI (10 * (pa_dv tx S k)) from nI_mul 10 (pa_dv tx S k)) ?_
      refine tv_b (pc' := 57) (ls' := [some (.ref 57)]) (st' := [.int (nI (S + k)), .ref 58, .int (nI (10 * (pa_dv tx S k))), .ref 57]) (h' := (n, sl, wKK kk, (rdI I (nI S) (nI (S + k)) xt (nI (pa_dv tx S k)) 0 xl xc cd), L, wQQ q)) 4 rfl ?_
      refine tv_balN (k := (S + k)) rfl (rfl) (⟨by first | exact Or.inl rfl | exact Or.inr rfl, by omega, by omega⟩) ?_
      refine tv_top (hdn) ?_
      refine tv_b (pc' := 59) (ls' := [some (.ref 57)]) (st' := [.int ((nI (10 * (pa_dv tx S k))) + (nI (tx (S + k)))), .ref 57]) (h' := (n, sl, wKK kk, (rdI I (nI S) (nI (S + k)) xt (nI (pa_dv tx S k)) 0 xl xc cd), L, wQQ q)) 1 rfl ?_
      refine tv_top (show (nI (10 * (pa_dv tx S k))) + (nI (tx (S + k))) = nI ((10 * (pa_dv tx S k)) + (tx (S + k))) from nI_add (10 * (pa_dv tx S k)) (tx (S + k))) ?_
      refine tv_b (pc' := 61) (ls' := [some (.ref 57)]) (st' := [.int 48, .int (nI ((10 * (pa_dv tx S k)) + (tx (S + k)))), .ref 57]) (h' := (n, sl, wKK kk, (rdI I (nI S) (nI (S + k)) xt (nI (pa_dv tx S k)) 0 xl xc cd), L, wQQ q)) 1 rfl ?_
      refine tv_b (pc' := 62) (ls' := [some (.ref 57)]) (st' := [.int ((nI ((10 * (pa_dv tx S k)) + (tx (S + k)))) - 48), .ref 57]) (h' := (n, sl, wKK kk, (rdI I (nI S) (nI (S + k)) xt (nI (pa_dv tx S k)) 0 xl xc cd), L, wQQ q)) 1 rfl ?_
      refine tv_top (show (nI ((10 * (pa_dv tx S k)) + (tx (S + k)))) - 48 = nI (((10 * (pa_dv tx S k)) + (tx (S + k))) - 48) from nI_sub (a := (10 * (pa_dv tx S k)) + (tx (S + k))) (b := 48) (by omega)) ?_
      refine tv_b (pc' := 65) (ls' := [some (.ref 57)]) (st' := []) (h' := (n, sl, wKK kk, va_up (rdI I (nI S) (nI (S + k)) xt (nI (pa_dv tx S k)) 0 xl xc cd) 57 (upd ((rdI I (nI S) (nI (S + k)) xt (nI (pa_dv tx S k)) 0 xl xc cd) 57) 5 (nI (((10 * (pa_dv tx S k)) + (tx (S + k))) - 48))), L, wQQ q)) 1 rfl ?_
      refine tv_hI rdI_w_xm ?_
      refine tv_b (pc' := 71) (ls' := [some (.ref 57)]) (st' := [.int 1, .int (nI (S + k)), .ref 57]) (h' := (n, sl, wKK kk, (rdI I (nI S) (nI (S + k)) xt (nI (((10 * (pa_dv tx S k)) + (tx (S + k))) - 48)) 0 xl xc cd), L, wQQ q)) 4 rfl ?_
      refine tv_b (pc' := 72) (ls' := [some (.ref 57)]) (st' := [.int ((nI (S + k)) + 1), .ref 57]) (h' := (n, sl, wKK kk, (rdI I (nI S) (nI (S + k)) xt (nI (((10 * (pa_dv tx S k)) + (tx (S + k))) - 48)) 0 xl xc cd), L, wQQ q)) 1 rfl ?_
      refine tv_top (show (nI (S + k)) + 1 = nI ((S + k) + 1) from nI_add (S + k) 1) ?_
      refine tv_b (pc' := 75) (ls' := [some (.ref 57)]) (st' := []) (h' := (n, sl, wKK kk, va_up (rdI I (nI S) (nI (S + k)) xt (nI (((10 * (pa_dv tx S k)) + (tx (S + k))) - 48)) 0 xl xc cd) 57 (upd ((rdI I (nI S) (nI (S + k)) xt (nI (((10 * (pa_dv tx S k)) + (tx (S + k))) - 48)) 0 xl xc cd) 57) 3 (nI ((S + k) + 1))), L, wQQ q)) 1 rfl ?_
      refine tv_hI rdI_w_xa ?_
      refine tv_b (pc' := 5) (ls' := [some (.ref 57)]) (st' := []) (h' := (n, sl, wKK kk, (rdI I (nI S) (nI ((S + k) + 1)) xt (nI (((10 * (pa_dv tx S k)) + (tx (S + k))) - 48)) 0 xl xc cd), L, wQQ q)) 1 rfl ?_
      rw [hde]
      exact ih (k + 1) (by omega)
  show am_T _ _ 0 [some (.ref 57)] _ _ _
  refine tv_b (pc' := 5) (ls' := [some (.ref 57)]) (st' := []) (h' := (n, sl, wKK kk, va_up (rdI I (nI S) (nI S) xt xm 0 xl xc cd) 57 (upd ((rdI I (nI S) (nI S) xt xm 0 xl xc cd) 57) 5 0), L, wQQ q)) 3 rfl ?_
  refine tv_hI rdI_w_xm ?_
  exact loop (min (pa_dl tx T S) 7) 0 (by omega)
