/-! THE REFERENCE'S READER: the next token -/
theorem ev_mlet {d x : Nat} {h : am_H} (hx : x < 256) : am_Ev d 160 0 (am_ent 1 [.int (nI x)]) [] h (some (.int (if pa_lt x = true then 1 else 0)), h) := by
  cases e : pa_lt x with
  | true => exact ev_mlet1 hx e
  | false => exact ev_mlet0 hx e
theorem ev_mdig {d x : Nat} {h : am_H} (hx : x < 256) : am_Ev d 161 0 (am_ent 1 [.int (nI x)]) [] h (some (.int (if pa_dg x = true then 1 else 0)), h) := by
  cases e : pa_dg x with
  | true => exact ev_mdig1 hx e
  | false => exact ev_mdig0 hx e
theorem mlo_n {b s k : Nat} (h : ¬ b < k) : mlo b s k = -1 := if_neg h
theorem mlo_y {b s k : Nat} (h : b < k) : mlo b s k = nI (s + b) := if_pos h
theorem mlo_ne {b s k : Nat} (h : b < k) (hs : s + b < 1000) : ¬ mlo b s k = -1 := by
  rw [mlo_y h]
  intro q
  have := congrArg Int32.toInt q
  rw [nI_toInt (by omega)] at this
  have e : (-1 : Int32).toInt = -1 := by decide
  rw [e] at this
  omega
/-- a word or number stands right behind one -/
def pa_adj (tx : Nat → Nat) (T A : Nat) : Prop := 0 < pa_sk tx T A ∧ (pa_lt (tx (pa_sk tx T A - 1)) || pa_dg (tx (pa_sk tx T A - 1))) = true
/-- what next leaves: the fault's fields, the token's -/
def nxP (tx : Nat → Nat) (T A : Nat) (be fp sg sa se va fk' fp' lo : Int32) (w : Int64) : Prop := match pa_lf tx T A with
  | none => fk' = 0 ∧ fp' = fp ∧ lo = -1 ∧ tkP tx T A sg sa se va w
  | some f => f ≤ 800 ∧ ((fk' = 1 ∧ fp' = nI f ∧ (be = 0 ∨ pa_adj tx T A)) ∨ (¬ be = 0 ∧ fk' = 0 ∧ fp' = fp ∧ lo = nI f ∧ sa = nI (pa_sk tx T A) ∧ (sg = 1 ∨ sg = 2)))
set_option maxHeartbeats 4000000 in
theorem tv_m_next {d n sl : Nat} {kk : Nat → Nat × Nat} {I : Nat → Nat → Int32} {L : Nat → Nat → Int64} {q : Nat → Nat → Option Nat} {tx : Nat → Nat} {T : Nat} {sg sa va fp lo : Int32} {w : Int64} {A : Nat} (hR : mrH tx T I) (hA : A ≤ T) : am_T (d + 2) 162 0 (am_ent 6 [.ref 80]) [] (n, sl, wKK kk, (mqI I sg sa (nI A) va 0 fp lo), (mwL L w), wQQ q) (fun rv h' => rv = none ∧ ∃ sg' sa' se' va' fk' fp' lo' w', h' = (n, sl, wKK kk, mqI I sg' sa' se' va' fk' fp' lo', mwL L w', wQQ q) ∧ nxP tx T A (I 80 13) fp sg' sa' se' va' fk' fp' lo' w') := by
  have hT := hR.2.1
  have hsk := pa_sk_le (b := tx) hA
  show am_T _ _ 0 [some (.ref 80), none, none, none, none, none] _ _ _
  refine tv_b (pc' := 5) (ls' := [some (.ref 80), some (.int (nI A)), none, none, none, none]) (st' := []) (h' := (n, sl, wKK kk, (mqI I sg sa (nI A) va 0 fp lo), (mwL L w), wQQ q)) 3 rfl ?_
  refine tv_m_sk hR (T - A) A rfl hA ?_
  refine tv_b (pc' := 46) (ls' := [some (.ref 80), some (.int (nI (pa_sk tx T A))), none, none, none, none]) (st' := []) (h' := (n, sl, wKK kk, va_up (mqI I sg sa (nI A) va 0 fp lo) 80 (upd ((mqI I sg sa (nI A) va 0 fp lo) 80) 4 (nI (pa_sk tx T A))), (mwL L w), wQQ q)) 3 rfl ?_
  refine tv_hI mqI_w_sa ?_
  refine tv_b (pc' := 51) (ls' := [some (.ref 80), some (.int (nI (pa_sk tx T A))), none, none, none, none]) (st' := []) (h' := (n, sl, wKK kk, va_up (mqI I sg (nI (pa_sk tx T A)) (nI A) va 0 fp lo) 80 (upd ((mqI I sg (nI (pa_sk tx T A)) (nI A) va 0 fp lo) 80) 5 (nI (pa_sk tx T A))), (mwL L w), wQQ q)) 3 rfl ?_
  refine tv_hI mqI_w_se ?_
  refine tv_b (pc' := 56) (ls' := [some (.ref 80), some (.int (nI (pa_sk tx T A))), none, none, none, none]) (st' := []) (h' := (n, sl, wKK kk, va_up (mqI I sg (nI (pa_sk tx T A)) (nI (pa_sk tx T A)) va 0 fp lo) 80 (upd ((mqI I sg (nI (pa_sk tx T A)) (nI (pa_sk tx T A)) va 0 fp lo) 80) 3 0), (mwL L w), wQQ q)) 3 rfl ?_
  refine tv_hI mqI_w_sg ?_
  refine tv_b (pc' := 61) (ls' := [some (.ref 80), some (.int (nI (pa_sk tx T A))), none, none, none, none]) (st' := []) (h' := (n, sl, wKK kk, va_up (mqI I 0 (nI (pa_sk tx T A)) (nI (pa_sk tx T A)) va 0 fp lo) 80 (upd ((mqI I 0 (nI (pa_sk tx T A)) (nI (pa_sk tx T A)) va 0 fp lo) 80) 12 (-1)), (mwL L w), wQQ q)) 3 rfl ?_
  refine tv_hI mqI_w_lo ?_
  refine tv_b (pc' := 66) (ls' := [some (.ref 80), some (.int (nI (pa_sk tx T A))), none, none, none, none]) (st' := [.int (I 80 2), .int (nI (pa_sk tx T A))]) (h' := (n, sl, wKK kk, (mqI I 0 (nI (pa_sk tx T A)) (nI (pa_sk tx T A)) va 0 fp (-1)), (mwL L w), wQQ q)) 3 rfl ?_
  refine tv_top (hR.1) ?_
  refine tv_b (pc' := (if (nI (pa_sk tx T A)) < (nI T) then 70 else 69)) (ls' := [some (.ref 80), some (.int (nI (pa_sk tx T A))), none, none, none, none]) (st' := []) (h' := (n, sl, wKK kk, (mqI I 0 (nI (pa_sk tx T A)) (nI (pa_sk tx T A)) va 0 fp (-1)), (mwL L w), wQQ q)) 1 rfl ?_
  refine tv_ifq (nI_ltI (a := (pa_sk tx T A)) (b := T) (by omega) (by omega)) (fun c66 => ?_) (fun c66 => ?_)
  · have hST : (pa_sk tx T A) < T := by omega
    have hxS := (hR.2.2 _ hST).1
    cases hl : pa_lt (tx (pa_sk tx T A)) with
    | true =>
      have hd := pa_lt_dg hl
      refine tv_b (pc' := 75) (ls' := [some (.ref 80), some (.int (nI (pa_sk tx T A))), none, none, none, none]) (st' := [.int (nI (pa_sk tx T A)), .ref 81]) (h' := (n, sl, wKK kk, (mqI I 0 (nI (pa_sk tx T A)) (nI (pa_sk tx T A)) va 0 fp (-1)), (mwL L w), wQQ q)) 3 rfl ?_
      refine tv_ialN (k := (pa_sk tx T A)) rfl (rfl) (⟨by omega, by omega⟩) ?_
      refine tv_top ((hR.2.2 (pa_sk tx T A) (by omega)).2) ?_
      refine tv_csE [.int (nI (tx (pa_sk tx T A)))] [] rfl rfl (by omega) rfl (Nat.le_of_ble_eq_true rfl) (Nat.le_of_ble_eq_true rfl) (ev_mlet1 (hR.2.2 _ hST).1 hl) ?_
      refine tv_b (pc' := 85) (ls' := [some (.ref 80), some (.int (nI (pa_sk tx T A))), some (.int 1), none, none, none]) (st' := [.int (nI (pa_sk tx T A)), .ref 81]) (h' := (n, sl, wKK kk, (mqI I 0 (nI (pa_sk tx T A)) (nI (pa_sk tx T A)) va 0 fp (-1)), (mwL L w), wQQ q)) 4 rfl ?_
      refine tv_ialN (k := (pa_sk tx T A)) rfl (rfl) (⟨by omega, by omega⟩) ?_
      refine tv_top ((hR.2.2 (pa_sk tx T A) (by omega)).2) ?_
      refine tv_csE [.int (nI (tx (pa_sk tx T A)))] [] rfl rfl (by omega) rfl (Nat.le_of_ble_eq_true rfl) (Nat.le_of_ble_eq_true rfl) (ev_mdig0 (hR.2.2 _ hST).1 hd) ?_
      refine tv_b (pc' := (if (nI (pa_sk tx T A)) ≤ 0 then 136 else 102)) (ls' := [some (.ref 80), some (.int (nI (pa_sk tx T A))), some (.int 1), some (.int 0), none, none]) (st' := []) (h' := (n, sl, wKK kk, (mqI I 0 (nI (pa_sk tx T A)) (nI (pa_sk tx T A)) va 0 fp (-1)), (mwL L w), wQQ q)) 5 rfl ?_
      refine tv_ifq (nI_leI (a := (pa_sk tx T A)) (b := 0) (by omega) (by omega)) (fun c99 => ?_) (fun c99 => ?_)
      · refine tv_b (pc' := 141) (ls' := [some (.ref 80), some (.int (nI (pa_sk tx T A))), some (.int 1), some (.int 0), none, none]) (st' := []) (h' := (n, sl, wKK kk, va_up (mqI I 0 (nI (pa_sk tx T A)) (nI (pa_sk tx T A)) va 0 fp (-1)) 80 (upd ((mqI I 0 (nI (pa_sk tx T A)) (nI (pa_sk tx T A)) va 0 fp (-1)) 80) 6 0), (mwL L w), wQQ q)) 3 rfl ?_
        refine tv_hI mqI_w_va ?_
        refine tv_b (pc' := 146) (ls' := [some (.ref 80), some (.int (nI (pa_sk tx T A))), some (.int 1), some (.int 0), none, none]) (st' := []) (h' := (n, sl, wKK kk, (mqI I 0 (nI (pa_sk tx T A)) (nI (pa_sk tx T A)) 0 0 fp (-1)), va_up (mwL L w) 80 (vp_updL ((mwL L w) 80) 7 0), wQQ q)) 3 rfl ?_
        refine tv_hL mwL_w_w ?_
        refine tv_b (pc' := 151) (ls' := [some (.ref 80), some (.int (nI (pa_sk tx T A))), some (.int 1), some (.int 0), none, none]) (st' := []) (h' := (n, sl, wKK kk, va_up (mqI I 0 (nI (pa_sk tx T A)) (nI (pa_sk tx T A)) 0 0 fp (-1)) 80 (upd ((mqI I 0 (nI (pa_sk tx T A)) (nI (pa_sk tx T A)) 0 0 fp (-1)) 80) 3 3), (mwL L 0), wQQ q)) 3 rfl ?_
        refine tv_hI mqI_w_sg ?_
        refine tv_b (pc' := 154) (ls' := [some (.ref 80), some (.int (nI (pa_sk tx T A))), some (.int 1), some (.int 0), none, none]) (st' := [.int 1, .int (nI (pa_sk tx T A)), .ref 80]) (h' := (n, sl, wKK kk, (mqI I 3 (nI (pa_sk tx T A)) (nI (pa_sk tx T A)) 0 0 fp (-1)), (mwL L 0), wQQ q)) 3 rfl ?_
        refine tv_b (pc' := 155) (ls' := [some (.ref 80), some (.int (nI (pa_sk tx T A))), some (.int 1), some (.int 0), none, none]) (st' := [.int ((nI (pa_sk tx T A)) + 1), .ref 80]) (h' := (n, sl, wKK kk, (mqI I 3 (nI (pa_sk tx T A)) (nI (pa_sk tx T A)) 0 0 fp (-1)), (mwL L 0), wQQ q)) 1 rfl ?_
        refine tv_top (show (nI (pa_sk tx T A)) + 1 = nI ((pa_sk tx T A) + 1) from nI_add (pa_sk tx T A) 1) ?_
        refine tv_b (pc' := 158) (ls' := [some (.ref 80), some (.int (nI (pa_sk tx T A))), some (.int 1), some (.int 0), none, none]) (st' := []) (h' := (n, sl, wKK kk, va_up (mqI I 3 (nI (pa_sk tx T A)) (nI (pa_sk tx T A)) 0 0 fp (-1)) 80 (upd ((mqI I 3 (nI (pa_sk tx T A)) (nI (pa_sk tx T A)) 0 0 fp (-1)) 80) 5 (nI ((pa_sk tx T A) + 1))), (mwL L 0), wQQ q)) 1 rfl ?_
        refine tv_hI mqI_w_se ?_
        refine tv_b (pc' := 190) (ls' := [some (.ref 80), some (.int (nI (pa_sk tx T A))), some (.int 1), some (.int 0), none, none]) (st' := []) (h' := (n, sl, wKK kk, va_up (mqI I 3 (nI (pa_sk tx T A)) (nI ((pa_sk tx T A) + 1)) 0 0 fp (-1)) 80 (upd ((mqI I 3 (nI (pa_sk tx T A)) (nI ((pa_sk tx T A) + 1)) 0 0 fp (-1)) 80) 3 1), (mwL L 0), wQQ q)) 8 rfl ?_
        refine tv_hI mqI_w_sg ?_
        refine tv_b (pc' := 206) (ls' := [some (.ref 80), some (.int (nI (pa_sk tx T A))), some (.int 1), some (.int 0), some (.int 8), some (.int 0)]) (st' := []) (h' := (n, sl, wKK kk, (mqI I 1 (nI (pa_sk tx T A)) (nI ((pa_sk tx T A) + 1)) 0 0 fp (-1)), (mwL L 0), wQQ q)) 7 rfl ?_
        have hLT : pa_wl tx T (pa_sk tx T A) ≤ T - (pa_sk tx T A) := pa_rn_le _ _ _
        refine tv_m_wl (S := (pa_sk tx T A)) (w := 0) hR (by omega) ?_ (pa_wl tx T (pa_sk tx T A)) 0 (by omega) (Nat.zero_le _)
        by_cases h8 : 8 < pa_wl tx T (pa_sk tx T A)
        · refine tv_b (pc' := 333) (ls' := [some (.ref 80), some (.int (nI ((pa_sk tx T A) + pa_wl tx T (pa_sk tx T A)))), some (.int 1), some (.int 0), some (.int 8), some (.int (nI (pa_wl tx T (pa_sk tx T A))))]) (st' := []) (h' := (n, sl, wKK kk, va_up (mqI I 1 (nI (pa_sk tx T A)) (nI ((pa_sk tx T A) + 1)) 0 0 fp (mlo 8 (pa_sk tx T A) (pa_wl tx T (pa_sk tx T A)))) 80 (upd ((mqI I 1 (nI (pa_sk tx T A)) (nI ((pa_sk tx T A) + 1)) 0 0 fp (mlo 8 (pa_sk tx T A) (pa_wl tx T (pa_sk tx T A)))) 80) 5 (nI ((pa_sk tx T A) + pa_wl tx T (pa_sk tx T A)))), (mwL L (lN (mpk (pa_bs tx (pa_sk tx T A) (min (pa_wl tx T (pa_sk tx T A)) 8))))), wQQ q)) 3 rfl ?_
          refine tv_hI mqI_w_se ?_
          refine tv_b (pc' := (if (mlo 8 (pa_sk tx T A) (pa_wl tx T (pa_sk tx T A))) = (-1) then 357 else 341)) (ls' := [some (.ref 80), some (.int (nI ((pa_sk tx T A) + pa_wl tx T (pa_sk tx T A)))), some (.int 1), some (.int 0), some (.int 8), some (.int (nI (pa_wl tx T (pa_sk tx T A))))]) (st' := []) (h' := (n, sl, wKK kk, (mqI I 1 (nI (pa_sk tx T A)) (nI ((pa_sk tx T A) + pa_wl tx T (pa_sk tx T A))) 0 0 fp (mlo 8 (pa_sk tx T A) (pa_wl tx T (pa_sk tx T A)))), (mwL L (lN (mpk (pa_bs tx (pa_sk tx T A) (min (pa_wl tx T (pa_sk tx T A)) 8))))), wQQ q)) 4 rfl ?_
          refine tv_f (mlo_ne h8 (by omega)) ?_
          refine tv_b (pc' := (if (I 80 13) = 0 then 348 else 357)) (ls' := [some (.ref 80), some (.int (nI ((pa_sk tx T A) + pa_wl tx T (pa_sk tx T A)))), some (.int 1), some (.int 0), some (.int 8), some (.int (nI (pa_wl tx T (pa_sk tx T A))))]) (st' := []) (h' := (n, sl, wKK kk, (mqI I 1 (nI (pa_sk tx T A)) (nI ((pa_sk tx T A) + pa_wl tx T (pa_sk tx T A))) 0 0 fp (mlo 8 (pa_sk tx T A) (pa_wl tx T (pa_sk tx T A)))), (mwL L (lN (mpk (pa_bs tx (pa_sk tx T A) (min (pa_wl tx T (pa_sk tx T A)) 8))))), wQQ q)) 3 rfl ?_
          refine tv_if (fun c345 => ?_) (fun c345 => ?_)
          · refine tv_b (pc' := 354) (ls' := [some (.ref 80), some (.int (nI ((pa_sk tx T A) + pa_wl tx T (pa_sk tx T A)))), some (.int 1), some (.int 0), some (.int 8), some (.int (nI (pa_wl tx T (pa_sk tx T A))))]) (st' := [.int (mlo 8 (pa_sk tx T A) (pa_wl tx T (pa_sk tx T A))), .int 1, .ref 80]) (h' := (n, sl, wKK kk, (mqI I 1 (nI (pa_sk tx T A)) (nI ((pa_sk tx T A) + pa_wl tx T (pa_sk tx T A))) 0 0 fp (mlo 8 (pa_sk tx T A) (pa_wl tx T (pa_sk tx T A)))), (mwL L (lN (mpk (pa_bs tx (pa_sk tx T A) (min (pa_wl tx T (pa_sk tx T A)) 8))))), wQQ q)) 4 rfl ?_
            refine tv_cvE [.int 1, .int (mlo 8 (pa_sk tx T A) (pa_wl tx T (pa_sk tx T A)))] [] rfl rfl (by omega) rfl (Nat.le_of_ble_eq_true rfl) (Nat.le_of_ble_eq_true rfl) (Or.inr (Or.inr rfl)) (ev_mq_blame0) ?_
            have hld : (pa_lt (tx (pa_sk tx T A)) || pa_dg (tx (pa_sk tx T A))) = true := by rw [hl]; rfl
            have ha : ¬ (0 < (pa_sk tx T A) ∧ (pa_lt (tx ((pa_sk tx T A) - 1)) || pa_dg (tx ((pa_sk tx T A) - 1))) = true) := fun q => by omega
            have E := pa_c_word (b := tx) hST hl ha
            refine tv_rv rfl ⟨rfl, _, _, _, _, _, _, _, _, rfl, ?_⟩
            unfold nxP
            rw [E.1, if_pos h8]
            exact ⟨by omega, Or.inl ⟨rfl, mlo_y h8, Or.inl c345⟩⟩
          · have hld : (pa_lt (tx (pa_sk tx T A)) || pa_dg (tx (pa_sk tx T A))) = true := by rw [hl]; rfl
            have ha : ¬ (0 < (pa_sk tx T A) ∧ (pa_lt (tx ((pa_sk tx T A) - 1)) || pa_dg (tx ((pa_sk tx T A) - 1))) = true) := fun q => by omega
            have E := pa_c_word (b := tx) hST hl ha
            refine tv_rv rfl ⟨rfl, _, _, _, _, _, _, _, _, rfl, ?_⟩
            unfold nxP
            rw [E.1, if_pos h8]
            exact ⟨by omega, Or.inr ⟨c345, rfl, rfl, mlo_y h8, rfl, Or.inl rfl⟩⟩
        · refine tv_b (pc' := 333) (ls' := [some (.ref 80), some (.int (nI ((pa_sk tx T A) + pa_wl tx T (pa_sk tx T A)))), some (.int 1), some (.int 0), some (.int 8), some (.int (nI (pa_wl tx T (pa_sk tx T A))))]) (st' := []) (h' := (n, sl, wKK kk, va_up (mqI I 1 (nI (pa_sk tx T A)) (nI ((pa_sk tx T A) + 1)) 0 0 fp (mlo 8 (pa_sk tx T A) (pa_wl tx T (pa_sk tx T A)))) 80 (upd ((mqI I 1 (nI (pa_sk tx T A)) (nI ((pa_sk tx T A) + 1)) 0 0 fp (mlo 8 (pa_sk tx T A) (pa_wl tx T (pa_sk tx T A)))) 80) 5 (nI ((pa_sk tx T A) + pa_wl tx T (pa_sk tx T A)))), (mwL L (lN (mpk (pa_bs tx (pa_sk tx T A) (min (pa_wl tx T (pa_sk tx T A)) 8))))), wQQ q)) 3 rfl ?_
          refine tv_hI mqI_w_se ?_
          refine tv_b (pc' := (if (mlo 8 (pa_sk tx T A) (pa_wl tx T (pa_sk tx T A))) = (-1) then 357 else 341)) (ls' := [some (.ref 80), some (.int (nI ((pa_sk tx T A) + pa_wl tx T (pa_sk tx T A)))), some (.int 1), some (.int 0), some (.int 8), some (.int (nI (pa_wl tx T (pa_sk tx T A))))]) (st' := []) (h' := (n, sl, wKK kk, (mqI I 1 (nI (pa_sk tx T A)) (nI ((pa_sk tx T A) + pa_wl tx T (pa_sk tx T A))) 0 0 fp (mlo 8 (pa_sk tx T A) (pa_wl tx T (pa_sk tx T A)))), (mwL L (lN (mpk (pa_bs tx (pa_sk tx T A) (min (pa_wl tx T (pa_sk tx T A)) 8))))), wQQ q)) 4 rfl ?_
          refine tv_t (mlo_n h8) ?_
          have hld : (pa_lt (tx (pa_sk tx T A)) || pa_dg (tx (pa_sk tx T A))) = true := by rw [hl]; rfl
          have ha : ¬ (0 < (pa_sk tx T A) ∧ (pa_lt (tx ((pa_sk tx T A) - 1)) || pa_dg (tx ((pa_sk tx T A) - 1))) = true) := fun q => by omega
          have E := pa_c_word (b := tx) hST hl ha
          refine tv_rv rfl ⟨rfl, _, _, _, _, _, _, _, _, rfl, ?_⟩
          unfold nxP
          rw [E.1, if_neg h8]
          exact ⟨rfl, rfl, mlo_n h8, rfl, by rw [E.2.2], Or.inl ⟨hST, hl, rfl, by omega, by rw [Nat.min_eq_left (by omega)]⟩⟩
      · refine tv_b (pc' := 108) (ls' := [some (.ref 80), some (.int (nI (pa_sk tx T A))), some (.int 1), some (.int 0), none, none]) (st' := [.int 1, .int (nI (pa_sk tx T A)), .ref 81]) (h' := (n, sl, wKK kk, (mqI I 0 (nI (pa_sk tx T A)) (nI (pa_sk tx T A)) va 0 fp (-1)), (mwL L w), wQQ q)) 4 rfl ?_
        refine tv_b (pc' := 109) (ls' := [some (.ref 80), some (.int (nI (pa_sk tx T A))), some (.int 1), some (.int 0), none, none]) (st' := [.int ((nI (pa_sk tx T A)) - 1), .ref 81]) (h' := (n, sl, wKK kk, (mqI I 0 (nI (pa_sk tx T A)) (nI (pa_sk tx T A)) va 0 fp (-1)), (mwL L w), wQQ q)) 1 rfl ?_
        refine tv_top (show (nI (pa_sk tx T A)) - 1 = nI ((pa_sk tx T A) - 1) from nI_sub (a := (pa_sk tx T A)) (b := 1) (by omega)) ?_
        refine tv_ialN (k := ((pa_sk tx T A) - 1)) rfl (rfl) (⟨by omega, by omega⟩) ?_
        refine tv_top ((hR.2.2 ((pa_sk tx T A) - 1) (by omega)).2) ?_
        refine tv_csE [.int (nI (tx ((pa_sk tx T A) - 1)))] [] rfl rfl (by omega) rfl (Nat.le_of_ble_eq_true rfl) (Nat.le_of_ble_eq_true rfl) (ev_mlet (hR.2.2 _ (by omega)).1) ?_
        refine tv_b (pc' := (if (if pa_lt (tx ((pa_sk tx T A) - 1)) = true then 1 else 0) = 0 then 116 else 130)) (ls' := [some (.ref 80), some (.int (nI (pa_sk tx T A))), some (.int 1), some (.int 0), none, none]) (st' := []) (h' := (n, sl, wKK kk, (mqI I 0 (nI (pa_sk tx T A)) (nI (pa_sk tx T A)) va 0 fp (-1)), (mwL L w), wQQ q)) 1 rfl ?_
        refine tv_b0 (fun c113 => ?_) (fun c113 => ?_)
        · refine tv_b (pc' := 122) (ls' := [some (.ref 80), some (.int (nI (pa_sk tx T A))), some (.int 1), some (.int 0), none, none]) (st' := [.int 1, .int (nI (pa_sk tx T A)), .ref 81]) (h' := (n, sl, wKK kk, (mqI I 0 (nI (pa_sk tx T A)) (nI (pa_sk tx T A)) va 0 fp (-1)), (mwL L w), wQQ q)) 4 rfl ?_
          refine tv_b (pc' := 123) (ls' := [some (.ref 80), some (.int (nI (pa_sk tx T A))), some (.int 1), some (.int 0), none, none]) (st' := [.int ((nI (pa_sk tx T A)) - 1), .ref 81]) (h' := (n, sl, wKK kk, (mqI I 0 (nI (pa_sk tx T A)) (nI (pa_sk tx T A)) va 0 fp (-1)), (mwL L w), wQQ q)) 1 rfl ?_
          refine tv_top (show (nI (pa_sk tx T A)) - 1 = nI ((pa_sk tx T A) - 1) from nI_sub (a := (pa_sk tx T A)) (b := 1) (by omega)) ?_
          refine tv_ialN (k := ((pa_sk tx T A) - 1)) rfl (rfl) (⟨by omega, by omega⟩) ?_
          refine tv_top ((hR.2.2 ((pa_sk tx T A) - 1) (by omega)).2) ?_
          refine tv_csE [.int (nI (tx ((pa_sk tx T A) - 1)))] [] rfl rfl (by omega) rfl (Nat.le_of_ble_eq_true rfl) (Nat.le_of_ble_eq_true rfl) (ev_mdig (hR.2.2 _ (by omega)).1) ?_
          refine tv_b (pc' := (if (if pa_dg (tx ((pa_sk tx T A) - 1)) = true then 1 else 0) = 0 then 136 else 130)) (ls' := [some (.ref 80), some (.int (nI (pa_sk tx T A))), some (.int 1), some (.int 0), none, none]) (st' := []) (h' := (n, sl, wKK kk, (mqI I 0 (nI (pa_sk tx T A)) (nI (pa_sk tx T A)) va 0 fp (-1)), (mwL L w), wQQ q)) 1 rfl ?_
          refine tv_b0 (fun c127 => ?_) (fun c127 => ?_)
          · refine tv_b (pc' := 141) (ls' := [some (.ref 80), some (.int (nI (pa_sk tx T A))), some (.int 1), some (.int 0), none, none]) (st' := []) (h' := (n, sl, wKK kk, va_up (mqI I 0 (nI (pa_sk tx T A)) (nI (pa_sk tx T A)) va 0 fp (-1)) 80 (upd ((mqI I 0 (nI (pa_sk tx T A)) (nI (pa_sk tx T A)) va 0 fp (-1)) 80) 6 0), (mwL L w), wQQ q)) 3 rfl ?_
            refine tv_hI mqI_w_va ?_
            refine tv_b (pc' := 146) (ls' := [some (.ref 80), some (.int (nI (pa_sk tx T A))), some (.int 1), some (.int 0), none, none]) (st' := []) (h' := (n, sl, wKK kk, (mqI I 0 (nI (pa_sk tx T A)) (nI (pa_sk tx T A)) 0 0 fp (-1)), va_up (mwL L w) 80 (vp_updL ((mwL L w) 80) 7 0), wQQ q)) 3 rfl ?_
            refine tv_hL mwL_w_w ?_
            refine tv_b (pc' := 151) (ls' := [some (.ref 80), some (.int (nI (pa_sk tx T A))), some (.int 1), some (.int 0), none, none]) (st' := []) (h' := (n, sl, wKK kk, va_up (mqI I 0 (nI (pa_sk tx T A)) (nI (pa_sk tx T A)) 0 0 fp (-1)) 80 (upd ((mqI I 0 (nI (pa_sk tx T A)) (nI (pa_sk tx T A)) 0 0 fp (-1)) 80) 3 3), (mwL L 0), wQQ q)) 3 rfl ?_
            refine tv_hI mqI_w_sg ?_
            refine tv_b (pc' := 154) (ls' := [some (.ref 80), some (.int (nI (pa_sk tx T A))), some (.int 1), some (.int 0), none, none]) (st' := [.int 1, .int (nI (pa_sk tx T A)), .ref 80]) (h' := (n, sl, wKK kk, (mqI I 3 (nI (pa_sk tx T A)) (nI (pa_sk tx T A)) 0 0 fp (-1)), (mwL L 0), wQQ q)) 3 rfl ?_
            refine tv_b (pc' := 155) (ls' := [some (.ref 80), some (.int (nI (pa_sk tx T A))), some (.int 1), some (.int 0), none, none]) (st' := [.int ((nI (pa_sk tx T A)) + 1), .ref 80]) (h' := (n, sl, wKK kk, (mqI I 3 (nI (pa_sk tx T A)) (nI (pa_sk tx T A)) 0 0 fp (-1)), (mwL L 0), wQQ q)) 1 rfl ?_
            refine tv_top (show (nI (pa_sk tx T A)) + 1 = nI ((pa_sk tx T A) + 1) from nI_add (pa_sk tx T A) 1) ?_
            refine tv_b (pc' := 158) (ls' := [some (.ref 80), some (.int (nI (pa_sk tx T A))), some (.int 1), some (.int 0), none, none]) (st' := []) (h' := (n, sl, wKK kk, va_up (mqI I 3 (nI (pa_sk tx T A)) (nI (pa_sk tx T A)) 0 0 fp (-1)) 80 (upd ((mqI I 3 (nI (pa_sk tx T A)) (nI (pa_sk tx T A)) 0 0 fp (-1)) 80) 5 (nI ((pa_sk tx T A) + 1))), (mwL L 0), wQQ q)) 1 rfl ?_
            refine tv_hI mqI_w_se ?_
            refine tv_b (pc' := 190) (ls' := [some (.ref 80), some (.int (nI (pa_sk tx T A))), some (.int 1), some (.int 0), none, none]) (st' := []) (h' := (n, sl, wKK kk, va_up (mqI I 3 (nI (pa_sk tx T A)) (nI ((pa_sk tx T A) + 1)) 0 0 fp (-1)) 80 (upd ((mqI I 3 (nI (pa_sk tx T A)) (nI ((pa_sk tx T A) + 1)) 0 0 fp (-1)) 80) 3 1), (mwL L 0), wQQ q)) 8 rfl ?_
            refine tv_hI mqI_w_sg ?_
            refine tv_b (pc' := 206) (ls' := [some (.ref 80), some (.int (nI (pa_sk tx T A))), some (.int 1), some (.int 0), some (.int 8), some (.int 0)]) (st' := []) (h' := (n, sl, wKK kk, (mqI I 1 (nI (pa_sk tx T A)) (nI ((pa_sk tx T A) + 1)) 0 0 fp (-1)), (mwL L 0), wQQ q)) 7 rfl ?_
            have hLT : pa_wl tx T (pa_sk tx T A) ≤ T - (pa_sk tx T A) := pa_rn_le _ _ _
            refine tv_m_wl (S := (pa_sk tx T A)) (w := 0) hR (by omega) ?_ (pa_wl tx T (pa_sk tx T A)) 0 (by omega) (Nat.zero_le _)
            by_cases h8 : 8 < pa_wl tx T (pa_sk tx T A)
            · refine tv_b (pc' := 333) (ls' := [some (.ref 80), some (.int (nI ((pa_sk tx T A) + pa_wl tx T (pa_sk tx T A)))), some (.int 1), some (.int 0), some (.int 8), some (.int (nI (pa_wl tx T (pa_sk tx T A))))]) (st' := []) (h' := (n, sl, wKK kk, va_up (mqI I 1 (nI (pa_sk tx T A)) (nI ((pa_sk tx T A) + 1)) 0 0 fp (mlo 8 (pa_sk tx T A) (pa_wl tx T (pa_sk tx T A)))) 80 (upd ((mqI I 1 (nI (pa_sk tx T A)) (nI ((pa_sk tx T A) + 1)) 0 0 fp (mlo 8 (pa_sk tx T A) (pa_wl tx T (pa_sk tx T A)))) 80) 5 (nI ((pa_sk tx T A) + pa_wl tx T (pa_sk tx T A)))), (mwL L (lN (mpk (pa_bs tx (pa_sk tx T A) (min (pa_wl tx T (pa_sk tx T A)) 8))))), wQQ q)) 3 rfl ?_
              refine tv_hI mqI_w_se ?_
              refine tv_b (pc' := (if (mlo 8 (pa_sk tx T A) (pa_wl tx T (pa_sk tx T A))) = (-1) then 357 else 341)) (ls' := [some (.ref 80), some (.int (nI ((pa_sk tx T A) + pa_wl tx T (pa_sk tx T A)))), some (.int 1), some (.int 0), some (.int 8), some (.int (nI (pa_wl tx T (pa_sk tx T A))))]) (st' := []) (h' := (n, sl, wKK kk, (mqI I 1 (nI (pa_sk tx T A)) (nI ((pa_sk tx T A) + pa_wl tx T (pa_sk tx T A))) 0 0 fp (mlo 8 (pa_sk tx T A) (pa_wl tx T (pa_sk tx T A)))), (mwL L (lN (mpk (pa_bs tx (pa_sk tx T A) (min (pa_wl tx T (pa_sk tx T A)) 8))))), wQQ q)) 4 rfl ?_
              refine tv_f (mlo_ne h8 (by omega)) ?_
              refine tv_b (pc' := (if (I 80 13) = 0 then 348 else 357)) (ls' := [some (.ref 80), some (.int (nI ((pa_sk tx T A) + pa_wl tx T (pa_sk tx T A)))), some (.int 1), some (.int 0), some (.int 8), some (.int (nI (pa_wl tx T (pa_sk tx T A))))]) (st' := []) (h' := (n, sl, wKK kk, (mqI I 1 (nI (pa_sk tx T A)) (nI ((pa_sk tx T A) + pa_wl tx T (pa_sk tx T A))) 0 0 fp (mlo 8 (pa_sk tx T A) (pa_wl tx T (pa_sk tx T A)))), (mwL L (lN (mpk (pa_bs tx (pa_sk tx T A) (min (pa_wl tx T (pa_sk tx T A)) 8))))), wQQ q)) 3 rfl ?_
              refine tv_if (fun c345 => ?_) (fun c345 => ?_)
              · refine tv_b (pc' := 354) (ls' := [some (.ref 80), some (.int (nI ((pa_sk tx T A) + pa_wl tx T (pa_sk tx T A)))), some (.int 1), some (.int 0), some (.int 8), some (.int (nI (pa_wl tx T (pa_sk tx T A))))]) (st' := [.int (mlo 8 (pa_sk tx T A) (pa_wl tx T (pa_sk tx T A))), .int 1, .ref 80]) (h' := (n, sl, wKK kk, (mqI I 1 (nI (pa_sk tx T A)) (nI ((pa_sk tx T A) + pa_wl tx T (pa_sk tx T A))) 0 0 fp (mlo 8 (pa_sk tx T A) (pa_wl tx T (pa_sk tx T A)))), (mwL L (lN (mpk (pa_bs tx (pa_sk tx T A) (min (pa_wl tx T (pa_sk tx T A)) 8))))), wQQ q)) 4 rfl ?_
                refine tv_cvE [.int 1, .int (mlo 8 (pa_sk tx T A) (pa_wl tx T (pa_sk tx T A)))] [] rfl rfl (by omega) rfl (Nat.le_of_ble_eq_true rfl) (Nat.le_of_ble_eq_true rfl) (Or.inr (Or.inr rfl)) (ev_mq_blame0) ?_
                have hld : (pa_lt (tx (pa_sk tx T A)) || pa_dg (tx (pa_sk tx T A))) = true := by rw [hl]; rfl
                have ha : ¬ (0 < (pa_sk tx T A) ∧ (pa_lt (tx ((pa_sk tx T A) - 1)) || pa_dg (tx ((pa_sk tx T A) - 1))) = true) := by rintro ⟨_, q⟩; rw [Bool.or_eq_true] at q; exact q.elim c113 c127
                have E := pa_c_word (b := tx) hST hl ha
                refine tv_rv rfl ⟨rfl, _, _, _, _, _, _, _, _, rfl, ?_⟩
                unfold nxP
                rw [E.1, if_pos h8]
                exact ⟨by omega, Or.inl ⟨rfl, mlo_y h8, Or.inl c345⟩⟩
              · have hld : (pa_lt (tx (pa_sk tx T A)) || pa_dg (tx (pa_sk tx T A))) = true := by rw [hl]; rfl
                have ha : ¬ (0 < (pa_sk tx T A) ∧ (pa_lt (tx ((pa_sk tx T A) - 1)) || pa_dg (tx ((pa_sk tx T A) - 1))) = true) := by rintro ⟨_, q⟩; rw [Bool.or_eq_true] at q; exact q.elim c113 c127
                have E := pa_c_word (b := tx) hST hl ha
                refine tv_rv rfl ⟨rfl, _, _, _, _, _, _, _, _, rfl, ?_⟩
                unfold nxP
                rw [E.1, if_pos h8]
                exact ⟨by omega, Or.inr ⟨c345, rfl, rfl, mlo_y h8, rfl, Or.inl rfl⟩⟩
            · refine tv_b (pc' := 333) (ls' := [some (.ref 80), some (.int (nI ((pa_sk tx T A) + pa_wl tx T (pa_sk tx T A)))), some (.int 1), some (.int 0), some (.int 8), some (.int (nI (pa_wl tx T (pa_sk tx T A))))]) (st' := []) (h' := (n, sl, wKK kk, va_up (mqI I 1 (nI (pa_sk tx T A)) (nI ((pa_sk tx T A) + 1)) 0 0 fp (mlo 8 (pa_sk tx T A) (pa_wl tx T (pa_sk tx T A)))) 80 (upd ((mqI I 1 (nI (pa_sk tx T A)) (nI ((pa_sk tx T A) + 1)) 0 0 fp (mlo 8 (pa_sk tx T A) (pa_wl tx T (pa_sk tx T A)))) 80) 5 (nI ((pa_sk tx T A) + pa_wl tx T (pa_sk tx T A)))), (mwL L (lN (mpk (pa_bs tx (pa_sk tx T A) (min (pa_wl tx T (pa_sk tx T A)) 8))))), wQQ q)) 3 rfl ?_
              refine tv_hI mqI_w_se ?_
              refine tv_b (pc' := (if (mlo 8 (pa_sk tx T A) (pa_wl tx T (pa_sk tx T A))) = (-1) then 357 else 341)) (ls' := [some (.ref 80), some (.int (nI ((pa_sk tx T A) + pa_wl tx T (pa_sk tx T A)))), some (.int 1), some (.int 0), some (.int 8), some (.int (nI (pa_wl tx T (pa_sk tx T A))))]) (st' := []) (h' := (n, sl, wKK kk, (mqI I 1 (nI (pa_sk tx T A)) (nI ((pa_sk tx T A) + pa_wl tx T (pa_sk tx T A))) 0 0 fp (mlo 8 (pa_sk tx T A) (pa_wl tx T (pa_sk tx T A)))), (mwL L (lN (mpk (pa_bs tx (pa_sk tx T A) (min (pa_wl tx T (pa_sk tx T A)) 8))))), wQQ q)) 4 rfl ?_
              refine tv_t (mlo_n h8) ?_
              have hld : (pa_lt (tx (pa_sk tx T A)) || pa_dg (tx (pa_sk tx T A))) = true := by rw [hl]; rfl
              have ha : ¬ (0 < (pa_sk tx T A) ∧ (pa_lt (tx ((pa_sk tx T A) - 1)) || pa_dg (tx ((pa_sk tx T A) - 1))) = true) := by rintro ⟨_, q⟩; rw [Bool.or_eq_true] at q; exact q.elim c113 c127
              have E := pa_c_word (b := tx) hST hl ha
              refine tv_rv rfl ⟨rfl, _, _, _, _, _, _, _, _, rfl, ?_⟩
              unfold nxP
              rw [E.1, if_neg h8]
              exact ⟨rfl, rfl, mlo_n h8, rfl, by rw [E.2.2], Or.inl ⟨hST, hl, rfl, by omega, by rw [Nat.min_eq_left (by omega)]⟩⟩
          · refine tv_b (pc' := 133) (ls' := [some (.ref 80), some (.int (nI (pa_sk tx T A))), some (.int 1), some (.int 0), none, none]) (st' := [.int (nI (pa_sk tx T A)), .int 1, .ref 80]) (h' := (n, sl, wKK kk, (mqI I 0 (nI (pa_sk tx T A)) (nI (pa_sk tx T A)) va 0 fp (-1)), (mwL L w), wQQ q)) 3 rfl ?_
            refine tv_cvE [.int 1, .int (nI (pa_sk tx T A))] [] rfl rfl (by omega) rfl (Nat.le_of_ble_eq_true rfl) (Nat.le_of_ble_eq_true rfl) (Or.inr (Or.inr rfl)) (ev_mq_blame0) ?_
            refine tv_b (pc' := 141) (ls' := [some (.ref 80), some (.int (nI (pa_sk tx T A))), some (.int 1), some (.int 0), none, none]) (st' := []) (h' := (n, sl, wKK kk, va_up (mqI I 0 (nI (pa_sk tx T A)) (nI (pa_sk tx T A)) va 1 (nI (pa_sk tx T A)) (-1)) 80 (upd ((mqI I 0 (nI (pa_sk tx T A)) (nI (pa_sk tx T A)) va 1 (nI (pa_sk tx T A)) (-1)) 80) 6 0), (mwL L w), wQQ q)) 3 rfl ?_
            refine tv_hI mqI_w_va ?_
            refine tv_b (pc' := 146) (ls' := [some (.ref 80), some (.int (nI (pa_sk tx T A))), some (.int 1), some (.int 0), none, none]) (st' := []) (h' := (n, sl, wKK kk, (mqI I 0 (nI (pa_sk tx T A)) (nI (pa_sk tx T A)) 0 1 (nI (pa_sk tx T A)) (-1)), va_up (mwL L w) 80 (vp_updL ((mwL L w) 80) 7 0), wQQ q)) 3 rfl ?_
            refine tv_hL mwL_w_w ?_
            refine tv_b (pc' := 151) (ls' := [some (.ref 80), some (.int (nI (pa_sk tx T A))), some (.int 1), some (.int 0), none, none]) (st' := []) (h' := (n, sl, wKK kk, va_up (mqI I 0 (nI (pa_sk tx T A)) (nI (pa_sk tx T A)) 0 1 (nI (pa_sk tx T A)) (-1)) 80 (upd ((mqI I 0 (nI (pa_sk tx T A)) (nI (pa_sk tx T A)) 0 1 (nI (pa_sk tx T A)) (-1)) 80) 3 3), (mwL L 0), wQQ q)) 3 rfl ?_
            refine tv_hI mqI_w_sg ?_
            refine tv_b (pc' := 154) (ls' := [some (.ref 80), some (.int (nI (pa_sk tx T A))), some (.int 1), some (.int 0), none, none]) (st' := [.int 1, .int (nI (pa_sk tx T A)), .ref 80]) (h' := (n, sl, wKK kk, (mqI I 3 (nI (pa_sk tx T A)) (nI (pa_sk tx T A)) 0 1 (nI (pa_sk tx T A)) (-1)), (mwL L 0), wQQ q)) 3 rfl ?_
            refine tv_b (pc' := 155) (ls' := [some (.ref 80), some (.int (nI (pa_sk tx T A))), some (.int 1), some (.int 0), none, none]) (st' := [.int ((nI (pa_sk tx T A)) + 1), .ref 80]) (h' := (n, sl, wKK kk, (mqI I 3 (nI (pa_sk tx T A)) (nI (pa_sk tx T A)) 0 1 (nI (pa_sk tx T A)) (-1)), (mwL L 0), wQQ q)) 1 rfl ?_
            refine tv_top (show (nI (pa_sk tx T A)) + 1 = nI ((pa_sk tx T A) + 1) from nI_add (pa_sk tx T A) 1) ?_
            refine tv_b (pc' := 158) (ls' := [some (.ref 80), some (.int (nI (pa_sk tx T A))), some (.int 1), some (.int 0), none, none]) (st' := []) (h' := (n, sl, wKK kk, va_up (mqI I 3 (nI (pa_sk tx T A)) (nI (pa_sk tx T A)) 0 1 (nI (pa_sk tx T A)) (-1)) 80 (upd ((mqI I 3 (nI (pa_sk tx T A)) (nI (pa_sk tx T A)) 0 1 (nI (pa_sk tx T A)) (-1)) 80) 5 (nI ((pa_sk tx T A) + 1))), (mwL L 0), wQQ q)) 1 rfl ?_
            refine tv_hI mqI_w_se ?_
            refine tv_b (pc' := 190) (ls' := [some (.ref 80), some (.int (nI (pa_sk tx T A))), some (.int 1), some (.int 0), none, none]) (st' := []) (h' := (n, sl, wKK kk, va_up (mqI I 3 (nI (pa_sk tx T A)) (nI ((pa_sk tx T A) + 1)) 0 1 (nI (pa_sk tx T A)) (-1)) 80 (upd ((mqI I 3 (nI (pa_sk tx T A)) (nI ((pa_sk tx T A) + 1)) 0 1 (nI (pa_sk tx T A)) (-1)) 80) 3 1), (mwL L 0), wQQ q)) 8 rfl ?_
            refine tv_hI mqI_w_sg ?_
            refine tv_b (pc' := 206) (ls' := [some (.ref 80), some (.int (nI (pa_sk tx T A))), some (.int 1), some (.int 0), some (.int 8), some (.int 0)]) (st' := []) (h' := (n, sl, wKK kk, (mqI I 1 (nI (pa_sk tx T A)) (nI ((pa_sk tx T A) + 1)) 0 1 (nI (pa_sk tx T A)) (-1)), (mwL L 0), wQQ q)) 7 rfl ?_
            have hLT : pa_wl tx T (pa_sk tx T A) ≤ T - (pa_sk tx T A) := pa_rn_le _ _ _
            refine tv_m_wl (S := (pa_sk tx T A)) (w := 0) hR (by omega) ?_ (pa_wl tx T (pa_sk tx T A)) 0 (by omega) (Nat.zero_le _)
            by_cases h8 : 8 < pa_wl tx T (pa_sk tx T A)
            · refine tv_b (pc' := 333) (ls' := [some (.ref 80), some (.int (nI ((pa_sk tx T A) + pa_wl tx T (pa_sk tx T A)))), some (.int 1), some (.int 0), some (.int 8), some (.int (nI (pa_wl tx T (pa_sk tx T A))))]) (st' := []) (h' := (n, sl, wKK kk, va_up (mqI I 1 (nI (pa_sk tx T A)) (nI ((pa_sk tx T A) + 1)) 0 1 (nI (pa_sk tx T A)) (mlo 8 (pa_sk tx T A) (pa_wl tx T (pa_sk tx T A)))) 80 (upd ((mqI I 1 (nI (pa_sk tx T A)) (nI ((pa_sk tx T A) + 1)) 0 1 (nI (pa_sk tx T A)) (mlo 8 (pa_sk tx T A) (pa_wl tx T (pa_sk tx T A)))) 80) 5 (nI ((pa_sk tx T A) + pa_wl tx T (pa_sk tx T A)))), (mwL L (lN (mpk (pa_bs tx (pa_sk tx T A) (min (pa_wl tx T (pa_sk tx T A)) 8))))), wQQ q)) 3 rfl ?_
              refine tv_hI mqI_w_se ?_
              refine tv_b (pc' := (if (mlo 8 (pa_sk tx T A) (pa_wl tx T (pa_sk tx T A))) = (-1) then 357 else 341)) (ls' := [some (.ref 80), some (.int (nI ((pa_sk tx T A) + pa_wl tx T (pa_sk tx T A)))), some (.int 1), some (.int 0), some (.int 8), some (.int (nI (pa_wl tx T (pa_sk tx T A))))]) (st' := []) (h' := (n, sl, wKK kk, (mqI I 1 (nI (pa_sk tx T A)) (nI ((pa_sk tx T A) + pa_wl tx T (pa_sk tx T A))) 0 1 (nI (pa_sk tx T A)) (mlo 8 (pa_sk tx T A) (pa_wl tx T (pa_sk tx T A)))), (mwL L (lN (mpk (pa_bs tx (pa_sk tx T A) (min (pa_wl tx T (pa_sk tx T A)) 8))))), wQQ q)) 4 rfl ?_
              refine tv_f (mlo_ne h8 (by omega)) ?_
              refine tv_b (pc' := (if (I 80 13) = 0 then 348 else 357)) (ls' := [some (.ref 80), some (.int (nI ((pa_sk tx T A) + pa_wl tx T (pa_sk tx T A)))), some (.int 1), some (.int 0), some (.int 8), some (.int (nI (pa_wl tx T (pa_sk tx T A))))]) (st' := []) (h' := (n, sl, wKK kk, (mqI I 1 (nI (pa_sk tx T A)) (nI ((pa_sk tx T A) + pa_wl tx T (pa_sk tx T A))) 0 1 (nI (pa_sk tx T A)) (mlo 8 (pa_sk tx T A) (pa_wl tx T (pa_sk tx T A)))), (mwL L (lN (mpk (pa_bs tx (pa_sk tx T A) (min (pa_wl tx T (pa_sk tx T A)) 8))))), wQQ q)) 3 rfl ?_
              refine tv_if (fun c345 => ?_) (fun c345 => ?_)
              · refine tv_b (pc' := 354) (ls' := [some (.ref 80), some (.int (nI ((pa_sk tx T A) + pa_wl tx T (pa_sk tx T A)))), some (.int 1), some (.int 0), some (.int 8), some (.int (nI (pa_wl tx T (pa_sk tx T A))))]) (st' := [.int (mlo 8 (pa_sk tx T A) (pa_wl tx T (pa_sk tx T A))), .int 1, .ref 80]) (h' := (n, sl, wKK kk, (mqI I 1 (nI (pa_sk tx T A)) (nI ((pa_sk tx T A) + pa_wl tx T (pa_sk tx T A))) 0 1 (nI (pa_sk tx T A)) (mlo 8 (pa_sk tx T A) (pa_wl tx T (pa_sk tx T A)))), (mwL L (lN (mpk (pa_bs tx (pa_sk tx T A) (min (pa_wl tx T (pa_sk tx T A)) 8))))), wQQ q)) 4 rfl ?_
                refine tv_cvE [.int 1, .int (mlo 8 (pa_sk tx T A) (pa_wl tx T (pa_sk tx T A)))] [] rfl rfl (by omega) rfl (Nat.le_of_ble_eq_true rfl) (Nat.le_of_ble_eq_true rfl) (Or.inr (Or.inr rfl)) (ev_mq_blameF (by decide)) ?_
                have hld : (pa_lt (tx (pa_sk tx T A)) || pa_dg (tx (pa_sk tx T A))) = true := by rw [hl]; rfl
                have h0 : 0 < (pa_sk tx T A) := by omega
                have ha : (pa_lt (tx ((pa_sk tx T A) - 1)) || pa_dg (tx ((pa_sk tx T A) - 1))) = true := by rw [Bool.or_eq_true]; exact Or.inr c127
                have E := pa_c_adj (b := tx) hST hld h0 ha
                refine tv_rv rfl ⟨rfl, _, _, _, _, _, _, _, _, rfl, ?_⟩
                unfold nxP
                rw [E]
                exact ⟨by omega, Or.inl ⟨rfl, rfl, Or.inr ⟨h0, ha⟩⟩⟩
              · have hld : (pa_lt (tx (pa_sk tx T A)) || pa_dg (tx (pa_sk tx T A))) = true := by rw [hl]; rfl
                have h0 : 0 < (pa_sk tx T A) := by omega
                have ha : (pa_lt (tx ((pa_sk tx T A) - 1)) || pa_dg (tx ((pa_sk tx T A) - 1))) = true := by rw [Bool.or_eq_true]; exact Or.inr c127
                have E := pa_c_adj (b := tx) hST hld h0 ha
                refine tv_rv rfl ⟨rfl, _, _, _, _, _, _, _, _, rfl, ?_⟩
                unfold nxP
                rw [E]
                exact ⟨by omega, Or.inl ⟨rfl, rfl, Or.inr ⟨h0, ha⟩⟩⟩
            · refine tv_b (pc' := 333) (ls' := [some (.ref 80), some (.int (nI ((pa_sk tx T A) + pa_wl tx T (pa_sk tx T A)))), some (.int 1), some (.int 0), some (.int 8), some (.int (nI (pa_wl tx T (pa_sk tx T A))))]) (st' := []) (h' := (n, sl, wKK kk, va_up (mqI I 1 (nI (pa_sk tx T A)) (nI ((pa_sk tx T A) + 1)) 0 1 (nI (pa_sk tx T A)) (mlo 8 (pa_sk tx T A) (pa_wl tx T (pa_sk tx T A)))) 80 (upd ((mqI I 1 (nI (pa_sk tx T A)) (nI ((pa_sk tx T A) + 1)) 0 1 (nI (pa_sk tx T A)) (mlo 8 (pa_sk tx T A) (pa_wl tx T (pa_sk tx T A)))) 80) 5 (nI ((pa_sk tx T A) + pa_wl tx T (pa_sk tx T A)))), (mwL L (lN (mpk (pa_bs tx (pa_sk tx T A) (min (pa_wl tx T (pa_sk tx T A)) 8))))), wQQ q)) 3 rfl ?_
              refine tv_hI mqI_w_se ?_
              refine tv_b (pc' := (if (mlo 8 (pa_sk tx T A) (pa_wl tx T (pa_sk tx T A))) = (-1) then 357 else 341)) (ls' := [some (.ref 80), some (.int (nI ((pa_sk tx T A) + pa_wl tx T (pa_sk tx T A)))), some (.int 1), some (.int 0), some (.int 8), some (.int (nI (pa_wl tx T (pa_sk tx T A))))]) (st' := []) (h' := (n, sl, wKK kk, (mqI I 1 (nI (pa_sk tx T A)) (nI ((pa_sk tx T A) + pa_wl tx T (pa_sk tx T A))) 0 1 (nI (pa_sk tx T A)) (mlo 8 (pa_sk tx T A) (pa_wl tx T (pa_sk tx T A)))), (mwL L (lN (mpk (pa_bs tx (pa_sk tx T A) (min (pa_wl tx T (pa_sk tx T A)) 8))))), wQQ q)) 4 rfl ?_
              refine tv_t (mlo_n h8) ?_
              have hld : (pa_lt (tx (pa_sk tx T A)) || pa_dg (tx (pa_sk tx T A))) = true := by rw [hl]; rfl
              have h0 : 0 < (pa_sk tx T A) := by omega
              have ha : (pa_lt (tx ((pa_sk tx T A) - 1)) || pa_dg (tx ((pa_sk tx T A) - 1))) = true := by rw [Bool.or_eq_true]; exact Or.inr c127
              have E := pa_c_adj (b := tx) hST hld h0 ha
              refine tv_rv rfl ⟨rfl, _, _, _, _, _, _, _, _, rfl, ?_⟩
              unfold nxP
              rw [E]
              exact ⟨by omega, Or.inl ⟨rfl, rfl, Or.inr ⟨h0, ha⟩⟩⟩
        · refine tv_b (pc' := 133) (ls' := [some (.ref 80), some (.int (nI (pa_sk tx T A))), some (.int 1), some (.int 0), none, none]) (st' := [.int (nI (pa_sk tx T A)), .int 1, .ref 80]) (h' := (n, sl, wKK kk, (mqI I 0 (nI (pa_sk tx T A)) (nI (pa_sk tx T A)) va 0 fp (-1)), (mwL L w), wQQ q)) 3 rfl ?_
          refine tv_cvE [.int 1, .int (nI (pa_sk tx T A))] [] rfl rfl (by omega) rfl (Nat.le_of_ble_eq_true rfl) (Nat.le_of_ble_eq_true rfl) (Or.inr (Or.inr rfl)) (ev_mq_blame0) ?_
          refine tv_b (pc' := 141) (ls' := [some (.ref 80), some (.int (nI (pa_sk tx T A))), some (.int 1), some (.int 0), none, none]) (st' := []) (h' := (n, sl, wKK kk, va_up (mqI I 0 (nI (pa_sk tx T A)) (nI (pa_sk tx T A)) va 1 (nI (pa_sk tx T A)) (-1)) 80 (upd ((mqI I 0 (nI (pa_sk tx T A)) (nI (pa_sk tx T A)) va 1 (nI (pa_sk tx T A)) (-1)) 80) 6 0), (mwL L w), wQQ q)) 3 rfl ?_
          refine tv_hI mqI_w_va ?_
          refine tv_b (pc' := 146) (ls' := [some (.ref 80), some (.int (nI (pa_sk tx T A))), some (.int 1), some (.int 0), none, none]) (st' := []) (h' := (n, sl, wKK kk, (mqI I 0 (nI (pa_sk tx T A)) (nI (pa_sk tx T A)) 0 1 (nI (pa_sk tx T A)) (-1)), va_up (mwL L w) 80 (vp_updL ((mwL L w) 80) 7 0), wQQ q)) 3 rfl ?_
          refine tv_hL mwL_w_w ?_
          refine tv_b (pc' := 151) (ls' := [some (.ref 80), some (.int (nI (pa_sk tx T A))), some (.int 1), some (.int 0), none, none]) (st' := []) (h' := (n, sl, wKK kk, va_up (mqI I 0 (nI (pa_sk tx T A)) (nI (pa_sk tx T A)) 0 1 (nI (pa_sk tx T A)) (-1)) 80 (upd ((mqI I 0 (nI (pa_sk tx T A)) (nI (pa_sk tx T A)) 0 1 (nI (pa_sk tx T A)) (-1)) 80) 3 3), (mwL L 0), wQQ q)) 3 rfl ?_
          refine tv_hI mqI_w_sg ?_
          refine tv_b (pc' := 154) (ls' := [some (.ref 80), some (.int (nI (pa_sk tx T A))), some (.int 1), some (.int 0), none, none]) (st' := [.int 1, .int (nI (pa_sk tx T A)), .ref 80]) (h' := (n, sl, wKK kk, (mqI I 3 (nI (pa_sk tx T A)) (nI (pa_sk tx T A)) 0 1 (nI (pa_sk tx T A)) (-1)), (mwL L 0), wQQ q)) 3 rfl ?_
          refine tv_b (pc' := 155) (ls' := [some (.ref 80), some (.int (nI (pa_sk tx T A))), some (.int 1), some (.int 0), none, none]) (st' := [.int ((nI (pa_sk tx T A)) + 1), .ref 80]) (h' := (n, sl, wKK kk, (mqI I 3 (nI (pa_sk tx T A)) (nI (pa_sk tx T A)) 0 1 (nI (pa_sk tx T A)) (-1)), (mwL L 0), wQQ q)) 1 rfl ?_
          refine tv_top (show (nI (pa_sk tx T A)) + 1 = nI ((pa_sk tx T A) + 1) from nI_add (pa_sk tx T A) 1) ?_
          refine tv_b (pc' := 158) (ls' := [some (.ref 80), some (.int (nI (pa_sk tx T A))), some (.int 1), some (.int 0), none, none]) (st' := []) (h' := (n, sl, wKK kk, va_up (mqI I 3 (nI (pa_sk tx T A)) (nI (pa_sk tx T A)) 0 1 (nI (pa_sk tx T A)) (-1)) 80 (upd ((mqI I 3 (nI (pa_sk tx T A)) (nI (pa_sk tx T A)) 0 1 (nI (pa_sk tx T A)) (-1)) 80) 5 (nI ((pa_sk tx T A) + 1))), (mwL L 0), wQQ q)) 1 rfl ?_
          refine tv_hI mqI_w_se ?_
          refine tv_b (pc' := 190) (ls' := [some (.ref 80), some (.int (nI (pa_sk tx T A))), some (.int 1), some (.int 0), none, none]) (st' := []) (h' := (n, sl, wKK kk, va_up (mqI I 3 (nI (pa_sk tx T A)) (nI ((pa_sk tx T A) + 1)) 0 1 (nI (pa_sk tx T A)) (-1)) 80 (upd ((mqI I 3 (nI (pa_sk tx T A)) (nI ((pa_sk tx T A) + 1)) 0 1 (nI (pa_sk tx T A)) (-1)) 80) 3 1), (mwL L 0), wQQ q)) 8 rfl ?_
          refine tv_hI mqI_w_sg ?_
          refine tv_b (pc' := 206) (ls' := [some (.ref 80), some (.int (nI (pa_sk tx T A))), some (.int 1), some (.int 0), some (.int 8), some (.int 0)]) (st' := []) (h' := (n, sl, wKK kk, (mqI I 1 (nI (pa_sk tx T A)) (nI ((pa_sk tx T A) + 1)) 0 1 (nI (pa_sk tx T A)) (-1)), (mwL L 0), wQQ q)) 7 rfl ?_
          have hLT : pa_wl tx T (pa_sk tx T A) ≤ T - (pa_sk tx T A) := pa_rn_le _ _ _
          refine tv_m_wl (S := (pa_sk tx T A)) (w := 0) hR (by omega) ?_ (pa_wl tx T (pa_sk tx T A)) 0 (by omega) (Nat.zero_le _)
          by_cases h8 : 8 < pa_wl tx T (pa_sk tx T A)
          · refine tv_b (pc' := 333) (ls' := [some (.ref 80), some (.int (nI ((pa_sk tx T A) + pa_wl tx T (pa_sk tx T A)))), some (.int 1), some (.int 0), some (.int 8), some (.int (nI (pa_wl tx T (pa_sk tx T A))))]) (st' := []) (h' := (n, sl, wKK kk, va_up (mqI I 1 (nI (pa_sk tx T A)) (nI ((pa_sk tx T A) + 1)) 0 1 (nI (pa_sk tx T A)) (mlo 8 (pa_sk tx T A) (pa_wl tx T (pa_sk tx T A)))) 80 (upd ((mqI I 1 (nI (pa_sk tx T A)) (nI ((pa_sk tx T A) + 1)) 0 1 (nI (pa_sk tx T A)) (mlo 8 (pa_sk tx T A) (pa_wl tx T (pa_sk tx T A)))) 80) 5 (nI ((pa_sk tx T A) + pa_wl tx T (pa_sk tx T A)))), (mwL L (lN (mpk (pa_bs tx (pa_sk tx T A) (min (pa_wl tx T (pa_sk tx T A)) 8))))), wQQ q)) 3 rfl ?_
            refine tv_hI mqI_w_se ?_
            refine tv_b (pc' := (if (mlo 8 (pa_sk tx T A) (pa_wl tx T (pa_sk tx T A))) = (-1) then 357 else 341)) (ls' := [some (.ref 80), some (.int (nI ((pa_sk tx T A) + pa_wl tx T (pa_sk tx T A)))), some (.int 1), some (.int 0), some (.int 8), some (.int (nI (pa_wl tx T (pa_sk tx T A))))]) (st' := []) (h' := (n, sl, wKK kk, (mqI I 1 (nI (pa_sk tx T A)) (nI ((pa_sk tx T A) + pa_wl tx T (pa_sk tx T A))) 0 1 (nI (pa_sk tx T A)) (mlo 8 (pa_sk tx T A) (pa_wl tx T (pa_sk tx T A)))), (mwL L (lN (mpk (pa_bs tx (pa_sk tx T A) (min (pa_wl tx T (pa_sk tx T A)) 8))))), wQQ q)) 4 rfl ?_
            refine tv_f (mlo_ne h8 (by omega)) ?_
            refine tv_b (pc' := (if (I 80 13) = 0 then 348 else 357)) (ls' := [some (.ref 80), some (.int (nI ((pa_sk tx T A) + pa_wl tx T (pa_sk tx T A)))), some (.int 1), some (.int 0), some (.int 8), some (.int (nI (pa_wl tx T (pa_sk tx T A))))]) (st' := []) (h' := (n, sl, wKK kk, (mqI I 1 (nI (pa_sk tx T A)) (nI ((pa_sk tx T A) + pa_wl tx T (pa_sk tx T A))) 0 1 (nI (pa_sk tx T A)) (mlo 8 (pa_sk tx T A) (pa_wl tx T (pa_sk tx T A)))), (mwL L (lN (mpk (pa_bs tx (pa_sk tx T A) (min (pa_wl tx T (pa_sk tx T A)) 8))))), wQQ q)) 3 rfl ?_
            refine tv_if (fun c345 => ?_) (fun c345 => ?_)
            · refine tv_b (pc' := 354) (ls' := [some (.ref 80), some (.int (nI ((pa_sk tx T A) + pa_wl tx T (pa_sk tx T A)))), some (.int 1), some (.int 0), some (.int 8), some (.int (nI (pa_wl tx T (pa_sk tx T A))))]) (st' := [.int (mlo 8 (pa_sk tx T A) (pa_wl tx T (pa_sk tx T A))), .int 1, .ref 80]) (h' := (n, sl, wKK kk, (mqI I 1 (nI (pa_sk tx T A)) (nI ((pa_sk tx T A) + pa_wl tx T (pa_sk tx T A))) 0 1 (nI (pa_sk tx T A)) (mlo 8 (pa_sk tx T A) (pa_wl tx T (pa_sk tx T A)))), (mwL L (lN (mpk (pa_bs tx (pa_sk tx T A) (min (pa_wl tx T (pa_sk tx T A)) 8))))), wQQ q)) 4 rfl ?_
              refine tv_cvE [.int 1, .int (mlo 8 (pa_sk tx T A) (pa_wl tx T (pa_sk tx T A)))] [] rfl rfl (by omega) rfl (Nat.le_of_ble_eq_true rfl) (Nat.le_of_ble_eq_true rfl) (Or.inr (Or.inr rfl)) (ev_mq_blameF (by decide)) ?_
              have hld : (pa_lt (tx (pa_sk tx T A)) || pa_dg (tx (pa_sk tx T A))) = true := by rw [hl]; rfl
              have h0 : 0 < (pa_sk tx T A) := by omega
              have ha : (pa_lt (tx ((pa_sk tx T A) - 1)) || pa_dg (tx ((pa_sk tx T A) - 1))) = true := by rw [Bool.or_eq_true]; exact Or.inl c113
              have E := pa_c_adj (b := tx) hST hld h0 ha
              refine tv_rv rfl ⟨rfl, _, _, _, _, _, _, _, _, rfl, ?_⟩
              unfold nxP
              rw [E]
              exact ⟨by omega, Or.inl ⟨rfl, rfl, Or.inr ⟨h0, ha⟩⟩⟩
            · have hld : (pa_lt (tx (pa_sk tx T A)) || pa_dg (tx (pa_sk tx T A))) = true := by rw [hl]; rfl
              have h0 : 0 < (pa_sk tx T A) := by omega
              have ha : (pa_lt (tx ((pa_sk tx T A) - 1)) || pa_dg (tx ((pa_sk tx T A) - 1))) = true := by rw [Bool.or_eq_true]; exact Or.inl c113
              have E := pa_c_adj (b := tx) hST hld h0 ha
              refine tv_rv rfl ⟨rfl, _, _, _, _, _, _, _, _, rfl, ?_⟩
              unfold nxP
              rw [E]
              exact ⟨by omega, Or.inl ⟨rfl, rfl, Or.inr ⟨h0, ha⟩⟩⟩
          · refine tv_b (pc' := 333) (ls' := [some (.ref 80), some (.int (nI ((pa_sk tx T A) + pa_wl tx T (pa_sk tx T A)))), some (.int 1), some (.int 0), some (.int 8), some (.int (nI (pa_wl tx T (pa_sk tx T A))))]) (st' := []) (h' := (n, sl, wKK kk, va_up (mqI I 1 (nI (pa_sk tx T A)) (nI ((pa_sk tx T A) + 1)) 0 1 (nI (pa_sk tx T A)) (mlo 8 (pa_sk tx T A) (pa_wl tx T (pa_sk tx T A)))) 80 (upd ((mqI I 1 (nI (pa_sk tx T A)) (nI ((pa_sk tx T A) + 1)) 0 1 (nI (pa_sk tx T A)) (mlo 8 (pa_sk tx T A) (pa_wl tx T (pa_sk tx T A)))) 80) 5 (nI ((pa_sk tx T A) + pa_wl tx T (pa_sk tx T A)))), (mwL L (lN (mpk (pa_bs tx (pa_sk tx T A) (min (pa_wl tx T (pa_sk tx T A)) 8))))), wQQ q)) 3 rfl ?_
            refine tv_hI mqI_w_se ?_
            refine tv_b (pc' := (if (mlo 8 (pa_sk tx T A) (pa_wl tx T (pa_sk tx T A))) = (-1) then 357 else 341)) (ls' := [some (.ref 80), some (.int (nI ((pa_sk tx T A) + pa_wl tx T (pa_sk tx T A)))), some (.int 1), some (.int 0), some (.int 8), some (.int (nI (pa_wl tx T (pa_sk tx T A))))]) (st' := []) (h' := (n, sl, wKK kk, (mqI I 1 (nI (pa_sk tx T A)) (nI ((pa_sk tx T A) + pa_wl tx T (pa_sk tx T A))) 0 1 (nI (pa_sk tx T A)) (mlo 8 (pa_sk tx T A) (pa_wl tx T (pa_sk tx T A)))), (mwL L (lN (mpk (pa_bs tx (pa_sk tx T A) (min (pa_wl tx T (pa_sk tx T A)) 8))))), wQQ q)) 4 rfl ?_
            refine tv_t (mlo_n h8) ?_
            have hld : (pa_lt (tx (pa_sk tx T A)) || pa_dg (tx (pa_sk tx T A))) = true := by rw [hl]; rfl
            have h0 : 0 < (pa_sk tx T A) := by omega
            have ha : (pa_lt (tx ((pa_sk tx T A) - 1)) || pa_dg (tx ((pa_sk tx T A) - 1))) = true := by rw [Bool.or_eq_true]; exact Or.inl c113
            have E := pa_c_adj (b := tx) hST hld h0 ha
            refine tv_rv rfl ⟨rfl, _, _, _, _, _, _, _, _, rfl, ?_⟩
            unfold nxP
            rw [E]
            exact ⟨by omega, Or.inl ⟨rfl, rfl, Or.inr ⟨h0, ha⟩⟩⟩
    | false =>
      cases hd : pa_dg (tx (pa_sk tx T A)) with
      | true =>
        refine tv_b (pc' := 75) (ls' := [some (.ref 80), some (.int (nI (pa_sk tx T A))), none, none, none, none]) (st' := [.int (nI (pa_sk tx T A)), .ref 81]) (h' := (n, sl, wKK kk, (mqI I 0 (nI (pa_sk tx T A)) (nI (pa_sk tx T A)) va 0 fp (-1)), (mwL L w), wQQ q)) 3 rfl ?_
        refine tv_ialN (k := (pa_sk tx T A)) rfl (rfl) (⟨by omega, by omega⟩) ?_
        refine tv_top ((hR.2.2 (pa_sk tx T A) (by omega)).2) ?_
        refine tv_csE [.int (nI (tx (pa_sk tx T A)))] [] rfl rfl (by omega) rfl (Nat.le_of_ble_eq_true rfl) (Nat.le_of_ble_eq_true rfl) (ev_mlet0 (hR.2.2 _ hST).1 hl) ?_
        refine tv_b (pc' := 85) (ls' := [some (.ref 80), some (.int (nI (pa_sk tx T A))), some (.int 0), none, none, none]) (st' := [.int (nI (pa_sk tx T A)), .ref 81]) (h' := (n, sl, wKK kk, (mqI I 0 (nI (pa_sk tx T A)) (nI (pa_sk tx T A)) va 0 fp (-1)), (mwL L w), wQQ q)) 4 rfl ?_
        refine tv_ialN (k := (pa_sk tx T A)) rfl (rfl) (⟨by omega, by omega⟩) ?_
        refine tv_top ((hR.2.2 (pa_sk tx T A) (by omega)).2) ?_
        refine tv_csE [.int (nI (tx (pa_sk tx T A)))] [] rfl rfl (by omega) rfl (Nat.le_of_ble_eq_true rfl) (Nat.le_of_ble_eq_true rfl) (ev_mdig1 (hR.2.2 _ hST).1 hd) ?_
        refine tv_b (pc' := (if (nI (pa_sk tx T A)) ≤ 0 then 136 else 102)) (ls' := [some (.ref 80), some (.int (nI (pa_sk tx T A))), some (.int 0), some (.int 1), none, none]) (st' := []) (h' := (n, sl, wKK kk, (mqI I 0 (nI (pa_sk tx T A)) (nI (pa_sk tx T A)) va 0 fp (-1)), (mwL L w), wQQ q)) 7 rfl ?_
        refine tv_ifq (nI_leI (a := (pa_sk tx T A)) (b := 0) (by omega) (by omega)) (fun c99 => ?_) (fun c99 => ?_)
        · refine tv_b (pc' := 141) (ls' := [some (.ref 80), some (.int (nI (pa_sk tx T A))), some (.int 0), some (.int 1), none, none]) (st' := []) (h' := (n, sl, wKK kk, va_up (mqI I 0 (nI (pa_sk tx T A)) (nI (pa_sk tx T A)) va 0 fp (-1)) 80 (upd ((mqI I 0 (nI (pa_sk tx T A)) (nI (pa_sk tx T A)) va 0 fp (-1)) 80) 6 0), (mwL L w), wQQ q)) 3 rfl ?_
          refine tv_hI mqI_w_va ?_
          refine tv_b (pc' := 146) (ls' := [some (.ref 80), some (.int (nI (pa_sk tx T A))), some (.int 0), some (.int 1), none, none]) (st' := []) (h' := (n, sl, wKK kk, (mqI I 0 (nI (pa_sk tx T A)) (nI (pa_sk tx T A)) 0 0 fp (-1)), va_up (mwL L w) 80 (vp_updL ((mwL L w) 80) 7 0), wQQ q)) 3 rfl ?_
          refine tv_hL mwL_w_w ?_
          refine tv_b (pc' := 151) (ls' := [some (.ref 80), some (.int (nI (pa_sk tx T A))), some (.int 0), some (.int 1), none, none]) (st' := []) (h' := (n, sl, wKK kk, va_up (mqI I 0 (nI (pa_sk tx T A)) (nI (pa_sk tx T A)) 0 0 fp (-1)) 80 (upd ((mqI I 0 (nI (pa_sk tx T A)) (nI (pa_sk tx T A)) 0 0 fp (-1)) 80) 3 3), (mwL L 0), wQQ q)) 3 rfl ?_
          refine tv_hI mqI_w_sg ?_
          refine tv_b (pc' := 154) (ls' := [some (.ref 80), some (.int (nI (pa_sk tx T A))), some (.int 0), some (.int 1), none, none]) (st' := [.int 1, .int (nI (pa_sk tx T A)), .ref 80]) (h' := (n, sl, wKK kk, (mqI I 3 (nI (pa_sk tx T A)) (nI (pa_sk tx T A)) 0 0 fp (-1)), (mwL L 0), wQQ q)) 3 rfl ?_
          refine tv_b (pc' := 155) (ls' := [some (.ref 80), some (.int (nI (pa_sk tx T A))), some (.int 0), some (.int 1), none, none]) (st' := [.int ((nI (pa_sk tx T A)) + 1), .ref 80]) (h' := (n, sl, wKK kk, (mqI I 3 (nI (pa_sk tx T A)) (nI (pa_sk tx T A)) 0 0 fp (-1)), (mwL L 0), wQQ q)) 1 rfl ?_
          refine tv_top (show (nI (pa_sk tx T A)) + 1 = nI ((pa_sk tx T A) + 1) from nI_add (pa_sk tx T A) 1) ?_
          refine tv_b (pc' := 158) (ls' := [some (.ref 80), some (.int (nI (pa_sk tx T A))), some (.int 0), some (.int 1), none, none]) (st' := []) (h' := (n, sl, wKK kk, va_up (mqI I 3 (nI (pa_sk tx T A)) (nI (pa_sk tx T A)) 0 0 fp (-1)) 80 (upd ((mqI I 3 (nI (pa_sk tx T A)) (nI (pa_sk tx T A)) 0 0 fp (-1)) 80) 5 (nI ((pa_sk tx T A) + 1))), (mwL L 0), wQQ q)) 1 rfl ?_
          refine tv_hI mqI_w_se ?_
          refine tv_b (pc' := 190) (ls' := [some (.ref 80), some (.int (nI (pa_sk tx T A))), some (.int 0), some (.int 1), none, none]) (st' := []) (h' := (n, sl, wKK kk, va_up (mqI I 3 (nI (pa_sk tx T A)) (nI ((pa_sk tx T A) + 1)) 0 0 fp (-1)) 80 (upd ((mqI I 3 (nI (pa_sk tx T A)) (nI ((pa_sk tx T A) + 1)) 0 0 fp (-1)) 80) 3 2), (mwL L 0), wQQ q)) 9 rfl ?_
          refine tv_hI mqI_w_sg ?_
          refine tv_b (pc' := 206) (ls' := [some (.ref 80), some (.int (nI (pa_sk tx T A))), some (.int 0), some (.int 1), some (.int 7), some (.int 0)]) (st' := []) (h' := (n, sl, wKK kk, (mqI I 2 (nI (pa_sk tx T A)) (nI ((pa_sk tx T A) + 1)) 0 0 fp (-1)), (mwL L 0), wQQ q)) 6 rfl ?_
          have hLT : pa_dl tx T (pa_sk tx T A) ≤ T - (pa_sk tx T A) := pa_rn_le _ _ _
          refine tv_m_dl (S := (pa_sk tx T A)) (va := 0) hR (by omega) ?_ (pa_dl tx T (pa_sk tx T A)) 0 (by omega) (Nat.zero_le _)
          by_cases h8 : 7 < pa_dl tx T (pa_sk tx T A)
          · refine tv_b (pc' := 333) (ls' := [some (.ref 80), some (.int (nI ((pa_sk tx T A) + pa_dl tx T (pa_sk tx T A)))), some (.int 0), some (.int 1), some (.int 7), some (.int (nI (pa_dl tx T (pa_sk tx T A))))]) (st' := []) (h' := (n, sl, wKK kk, va_up (mqI I 2 (nI (pa_sk tx T A)) (nI ((pa_sk tx T A) + 1)) (nI (pa_dv tx (pa_sk tx T A) (min (pa_dl tx T (pa_sk tx T A)) 7))) 0 fp (mlo 7 (pa_sk tx T A) (pa_dl tx T (pa_sk tx T A)))) 80 (upd ((mqI I 2 (nI (pa_sk tx T A)) (nI ((pa_sk tx T A) + 1)) (nI (pa_dv tx (pa_sk tx T A) (min (pa_dl tx T (pa_sk tx T A)) 7))) 0 fp (mlo 7 (pa_sk tx T A) (pa_dl tx T (pa_sk tx T A)))) 80) 5 (nI ((pa_sk tx T A) + pa_dl tx T (pa_sk tx T A)))), (mwL L 0), wQQ q)) 3 rfl ?_
            refine tv_hI mqI_w_se ?_
            refine tv_b (pc' := (if (mlo 7 (pa_sk tx T A) (pa_dl tx T (pa_sk tx T A))) = (-1) then 357 else 341)) (ls' := [some (.ref 80), some (.int (nI ((pa_sk tx T A) + pa_dl tx T (pa_sk tx T A)))), some (.int 0), some (.int 1), some (.int 7), some (.int (nI (pa_dl tx T (pa_sk tx T A))))]) (st' := []) (h' := (n, sl, wKK kk, (mqI I 2 (nI (pa_sk tx T A)) (nI ((pa_sk tx T A) + pa_dl tx T (pa_sk tx T A))) (nI (pa_dv tx (pa_sk tx T A) (min (pa_dl tx T (pa_sk tx T A)) 7))) 0 fp (mlo 7 (pa_sk tx T A) (pa_dl tx T (pa_sk tx T A)))), (mwL L 0), wQQ q)) 4 rfl ?_
            refine tv_f (mlo_ne h8 (by omega)) ?_
            refine tv_b (pc' := (if (I 80 13) = 0 then 348 else 357)) (ls' := [some (.ref 80), some (.int (nI ((pa_sk tx T A) + pa_dl tx T (pa_sk tx T A)))), some (.int 0), some (.int 1), some (.int 7), some (.int (nI (pa_dl tx T (pa_sk tx T A))))]) (st' := []) (h' := (n, sl, wKK kk, (mqI I 2 (nI (pa_sk tx T A)) (nI ((pa_sk tx T A) + pa_dl tx T (pa_sk tx T A))) (nI (pa_dv tx (pa_sk tx T A) (min (pa_dl tx T (pa_sk tx T A)) 7))) 0 fp (mlo 7 (pa_sk tx T A) (pa_dl tx T (pa_sk tx T A)))), (mwL L 0), wQQ q)) 3 rfl ?_
            refine tv_if (fun c345 => ?_) (fun c345 => ?_)
            · refine tv_b (pc' := 354) (ls' := [some (.ref 80), some (.int (nI ((pa_sk tx T A) + pa_dl tx T (pa_sk tx T A)))), some (.int 0), some (.int 1), some (.int 7), some (.int (nI (pa_dl tx T (pa_sk tx T A))))]) (st' := [.int (mlo 7 (pa_sk tx T A) (pa_dl tx T (pa_sk tx T A))), .int 1, .ref 80]) (h' := (n, sl, wKK kk, (mqI I 2 (nI (pa_sk tx T A)) (nI ((pa_sk tx T A) + pa_dl tx T (pa_sk tx T A))) (nI (pa_dv tx (pa_sk tx T A) (min (pa_dl tx T (pa_sk tx T A)) 7))) 0 fp (mlo 7 (pa_sk tx T A) (pa_dl tx T (pa_sk tx T A)))), (mwL L 0), wQQ q)) 4 rfl ?_
              refine tv_cvE [.int 1, .int (mlo 7 (pa_sk tx T A) (pa_dl tx T (pa_sk tx T A)))] [] rfl rfl (by omega) rfl (Nat.le_of_ble_eq_true rfl) (Nat.le_of_ble_eq_true rfl) (Or.inr (Or.inr rfl)) (ev_mq_blame0) ?_
              have hld : (pa_lt (tx (pa_sk tx T A)) || pa_dg (tx (pa_sk tx T A))) = true := by rw [hl, hd]; rfl
              have ha : ¬ (0 < (pa_sk tx T A) ∧ (pa_lt (tx ((pa_sk tx T A) - 1)) || pa_dg (tx ((pa_sk tx T A) - 1))) = true) := fun q => by omega
              have E := pa_c_num (b := tx) hST hl hd ha
              refine tv_rv rfl ⟨rfl, _, _, _, _, _, _, _, _, rfl, ?_⟩
              unfold nxP
              rw [E.1, if_pos h8]
              exact ⟨by omega, Or.inl ⟨rfl, mlo_y h8, Or.inl c345⟩⟩
            · have hld : (pa_lt (tx (pa_sk tx T A)) || pa_dg (tx (pa_sk tx T A))) = true := by rw [hl, hd]; rfl
              have ha : ¬ (0 < (pa_sk tx T A) ∧ (pa_lt (tx ((pa_sk tx T A) - 1)) || pa_dg (tx ((pa_sk tx T A) - 1))) = true) := fun q => by omega
              have E := pa_c_num (b := tx) hST hl hd ha
              refine tv_rv rfl ⟨rfl, _, _, _, _, _, _, _, _, rfl, ?_⟩
              unfold nxP
              rw [E.1, if_pos h8]
              exact ⟨by omega, Or.inr ⟨c345, rfl, rfl, mlo_y h8, rfl, Or.inr rfl⟩⟩
          · refine tv_b (pc' := 333) (ls' := [some (.ref 80), some (.int (nI ((pa_sk tx T A) + pa_dl tx T (pa_sk tx T A)))), some (.int 0), some (.int 1), some (.int 7), some (.int (nI (pa_dl tx T (pa_sk tx T A))))]) (st' := []) (h' := (n, sl, wKK kk, va_up (mqI I 2 (nI (pa_sk tx T A)) (nI ((pa_sk tx T A) + 1)) (nI (pa_dv tx (pa_sk tx T A) (min (pa_dl tx T (pa_sk tx T A)) 7))) 0 fp (mlo 7 (pa_sk tx T A) (pa_dl tx T (pa_sk tx T A)))) 80 (upd ((mqI I 2 (nI (pa_sk tx T A)) (nI ((pa_sk tx T A) + 1)) (nI (pa_dv tx (pa_sk tx T A) (min (pa_dl tx T (pa_sk tx T A)) 7))) 0 fp (mlo 7 (pa_sk tx T A) (pa_dl tx T (pa_sk tx T A)))) 80) 5 (nI ((pa_sk tx T A) + pa_dl tx T (pa_sk tx T A)))), (mwL L 0), wQQ q)) 3 rfl ?_
            refine tv_hI mqI_w_se ?_
            refine tv_b (pc' := (if (mlo 7 (pa_sk tx T A) (pa_dl tx T (pa_sk tx T A))) = (-1) then 357 else 341)) (ls' := [some (.ref 80), some (.int (nI ((pa_sk tx T A) + pa_dl tx T (pa_sk tx T A)))), some (.int 0), some (.int 1), some (.int 7), some (.int (nI (pa_dl tx T (pa_sk tx T A))))]) (st' := []) (h' := (n, sl, wKK kk, (mqI I 2 (nI (pa_sk tx T A)) (nI ((pa_sk tx T A) + pa_dl tx T (pa_sk tx T A))) (nI (pa_dv tx (pa_sk tx T A) (min (pa_dl tx T (pa_sk tx T A)) 7))) 0 fp (mlo 7 (pa_sk tx T A) (pa_dl tx T (pa_sk tx T A)))), (mwL L 0), wQQ q)) 4 rfl ?_
            refine tv_t (mlo_n h8) ?_
            have hld : (pa_lt (tx (pa_sk tx T A)) || pa_dg (tx (pa_sk tx T A))) = true := by rw [hl, hd]; rfl
            have ha : ¬ (0 < (pa_sk tx T A) ∧ (pa_lt (tx ((pa_sk tx T A) - 1)) || pa_dg (tx ((pa_sk tx T A) - 1))) = true) := fun q => by omega
            have E := pa_c_num (b := tx) hST hl hd ha
            refine tv_rv rfl ⟨rfl, _, _, _, _, _, _, _, _, rfl, ?_⟩
            unfold nxP
            rw [E.1, if_neg h8]
            exact ⟨rfl, rfl, mlo_n h8, rfl, by rw [E.2.2], Or.inr (Or.inl ⟨hST, hl, hd, rfl, by rw [Nat.min_eq_left (by omega), pa_nm_e (by omega)]⟩)⟩
        · refine tv_b (pc' := 108) (ls' := [some (.ref 80), some (.int (nI (pa_sk tx T A))), some (.int 0), some (.int 1), none, none]) (st' := [.int 1, .int (nI (pa_sk tx T A)), .ref 81]) (h' := (n, sl, wKK kk, (mqI I 0 (nI (pa_sk tx T A)) (nI (pa_sk tx T A)) va 0 fp (-1)), (mwL L w), wQQ q)) 4 rfl ?_
          refine tv_b (pc' := 109) (ls' := [some (.ref 80), some (.int (nI (pa_sk tx T A))), some (.int 0), some (.int 1), none, none]) (st' := [.int ((nI (pa_sk tx T A)) - 1), .ref 81]) (h' := (n, sl, wKK kk, (mqI I 0 (nI (pa_sk tx T A)) (nI (pa_sk tx T A)) va 0 fp (-1)), (mwL L w), wQQ q)) 1 rfl ?_
          refine tv_top (show (nI (pa_sk tx T A)) - 1 = nI ((pa_sk tx T A) - 1) from nI_sub (a := (pa_sk tx T A)) (b := 1) (by omega)) ?_
          refine tv_ialN (k := ((pa_sk tx T A) - 1)) rfl (rfl) (⟨by omega, by omega⟩) ?_
          refine tv_top ((hR.2.2 ((pa_sk tx T A) - 1) (by omega)).2) ?_
          refine tv_csE [.int (nI (tx ((pa_sk tx T A) - 1)))] [] rfl rfl (by omega) rfl (Nat.le_of_ble_eq_true rfl) (Nat.le_of_ble_eq_true rfl) (ev_mlet (hR.2.2 _ (by omega)).1) ?_
          refine tv_b (pc' := (if (if pa_lt (tx ((pa_sk tx T A) - 1)) = true then 1 else 0) = 0 then 116 else 130)) (ls' := [some (.ref 80), some (.int (nI (pa_sk tx T A))), some (.int 0), some (.int 1), none, none]) (st' := []) (h' := (n, sl, wKK kk, (mqI I 0 (nI (pa_sk tx T A)) (nI (pa_sk tx T A)) va 0 fp (-1)), (mwL L w), wQQ q)) 1 rfl ?_
          refine tv_b0 (fun c113 => ?_) (fun c113 => ?_)
          · refine tv_b (pc' := 122) (ls' := [some (.ref 80), some (.int (nI (pa_sk tx T A))), some (.int 0), some (.int 1), none, none]) (st' := [.int 1, .int (nI (pa_sk tx T A)), .ref 81]) (h' := (n, sl, wKK kk, (mqI I 0 (nI (pa_sk tx T A)) (nI (pa_sk tx T A)) va 0 fp (-1)), (mwL L w), wQQ q)) 4 rfl ?_
            refine tv_b (pc' := 123) (ls' := [some (.ref 80), some (.int (nI (pa_sk tx T A))), some (.int 0), some (.int 1), none, none]) (st' := [.int ((nI (pa_sk tx T A)) - 1), .ref 81]) (h' := (n, sl, wKK kk, (mqI I 0 (nI (pa_sk tx T A)) (nI (pa_sk tx T A)) va 0 fp (-1)), (mwL L w), wQQ q)) 1 rfl ?_
            refine tv_top (show (nI (pa_sk tx T A)) - 1 = nI ((pa_sk tx T A) - 1) from nI_sub (a := (pa_sk tx T A)) (b := 1) (by omega)) ?_
            refine tv_ialN (k := ((pa_sk tx T A) - 1)) rfl (rfl) (⟨by omega, by omega⟩) ?_
            refine tv_top ((hR.2.2 ((pa_sk tx T A) - 1) (by omega)).2) ?_
            refine tv_csE [.int (nI (tx ((pa_sk tx T A) - 1)))] [] rfl rfl (by omega) rfl (Nat.le_of_ble_eq_true rfl) (Nat.le_of_ble_eq_true rfl) (ev_mdig (hR.2.2 _ (by omega)).1) ?_
            refine tv_b (pc' := (if (if pa_dg (tx ((pa_sk tx T A) - 1)) = true then 1 else 0) = 0 then 136 else 130)) (ls' := [some (.ref 80), some (.int (nI (pa_sk tx T A))), some (.int 0), some (.int 1), none, none]) (st' := []) (h' := (n, sl, wKK kk, (mqI I 0 (nI (pa_sk tx T A)) (nI (pa_sk tx T A)) va 0 fp (-1)), (mwL L w), wQQ q)) 1 rfl ?_
            refine tv_b0 (fun c127 => ?_) (fun c127 => ?_)
            · refine tv_b (pc' := 141) (ls' := [some (.ref 80), some (.int (nI (pa_sk tx T A))), some (.int 0), some (.int 1), none, none]) (st' := []) (h' := (n, sl, wKK kk, va_up (mqI I 0 (nI (pa_sk tx T A)) (nI (pa_sk tx T A)) va 0 fp (-1)) 80 (upd ((mqI I 0 (nI (pa_sk tx T A)) (nI (pa_sk tx T A)) va 0 fp (-1)) 80) 6 0), (mwL L w), wQQ q)) 3 rfl ?_
              refine tv_hI mqI_w_va ?_
              refine tv_b (pc' := 146) (ls' := [some (.ref 80), some (.int (nI (pa_sk tx T A))), some (.int 0), some (.int 1), none, none]) (st' := []) (h' := (n, sl, wKK kk, (mqI I 0 (nI (pa_sk tx T A)) (nI (pa_sk tx T A)) 0 0 fp (-1)), va_up (mwL L w) 80 (vp_updL ((mwL L w) 80) 7 0), wQQ q)) 3 rfl ?_
              refine tv_hL mwL_w_w ?_
              refine tv_b (pc' := 151) (ls' := [some (.ref 80), some (.int (nI (pa_sk tx T A))), some (.int 0), some (.int 1), none, none]) (st' := []) (h' := (n, sl, wKK kk, va_up (mqI I 0 (nI (pa_sk tx T A)) (nI (pa_sk tx T A)) 0 0 fp (-1)) 80 (upd ((mqI I 0 (nI (pa_sk tx T A)) (nI (pa_sk tx T A)) 0 0 fp (-1)) 80) 3 3), (mwL L 0), wQQ q)) 3 rfl ?_
              refine tv_hI mqI_w_sg ?_
              refine tv_b (pc' := 154) (ls' := [some (.ref 80), some (.int (nI (pa_sk tx T A))), some (.int 0), some (.int 1), none, none]) (st' := [.int 1, .int (nI (pa_sk tx T A)), .ref 80]) (h' := (n, sl, wKK kk, (mqI I 3 (nI (pa_sk tx T A)) (nI (pa_sk tx T A)) 0 0 fp (-1)), (mwL L 0), wQQ q)) 3 rfl ?_
              refine tv_b (pc' := 155) (ls' := [some (.ref 80), some (.int (nI (pa_sk tx T A))), some (.int 0), some (.int 1), none, none]) (st' := [.int ((nI (pa_sk tx T A)) + 1), .ref 80]) (h' := (n, sl, wKK kk, (mqI I 3 (nI (pa_sk tx T A)) (nI (pa_sk tx T A)) 0 0 fp (-1)), (mwL L 0), wQQ q)) 1 rfl ?_
              refine tv_top (show (nI (pa_sk tx T A)) + 1 = nI ((pa_sk tx T A) + 1) from nI_add (pa_sk tx T A) 1) ?_
              refine tv_b (pc' := 158) (ls' := [some (.ref 80), some (.int (nI (pa_sk tx T A))), some (.int 0), some (.int 1), none, none]) (st' := []) (h' := (n, sl, wKK kk, va_up (mqI I 3 (nI (pa_sk tx T A)) (nI (pa_sk tx T A)) 0 0 fp (-1)) 80 (upd ((mqI I 3 (nI (pa_sk tx T A)) (nI (pa_sk tx T A)) 0 0 fp (-1)) 80) 5 (nI ((pa_sk tx T A) + 1))), (mwL L 0), wQQ q)) 1 rfl ?_
              refine tv_hI mqI_w_se ?_
              refine tv_b (pc' := 190) (ls' := [some (.ref 80), some (.int (nI (pa_sk tx T A))), some (.int 0), some (.int 1), none, none]) (st' := []) (h' := (n, sl, wKK kk, va_up (mqI I 3 (nI (pa_sk tx T A)) (nI ((pa_sk tx T A) + 1)) 0 0 fp (-1)) 80 (upd ((mqI I 3 (nI (pa_sk tx T A)) (nI ((pa_sk tx T A) + 1)) 0 0 fp (-1)) 80) 3 2), (mwL L 0), wQQ q)) 9 rfl ?_
              refine tv_hI mqI_w_sg ?_
              refine tv_b (pc' := 206) (ls' := [some (.ref 80), some (.int (nI (pa_sk tx T A))), some (.int 0), some (.int 1), some (.int 7), some (.int 0)]) (st' := []) (h' := (n, sl, wKK kk, (mqI I 2 (nI (pa_sk tx T A)) (nI ((pa_sk tx T A) + 1)) 0 0 fp (-1)), (mwL L 0), wQQ q)) 6 rfl ?_
              have hLT : pa_dl tx T (pa_sk tx T A) ≤ T - (pa_sk tx T A) := pa_rn_le _ _ _
              refine tv_m_dl (S := (pa_sk tx T A)) (va := 0) hR (by omega) ?_ (pa_dl tx T (pa_sk tx T A)) 0 (by omega) (Nat.zero_le _)
              by_cases h8 : 7 < pa_dl tx T (pa_sk tx T A)
              · refine tv_b (pc' := 333) (ls' := [some (.ref 80), some (.int (nI ((pa_sk tx T A) + pa_dl tx T (pa_sk tx T A)))), some (.int 0), some (.int 1), some (.int 7), some (.int (nI (pa_dl tx T (pa_sk tx T A))))]) (st' := []) (h' := (n, sl, wKK kk, va_up (mqI I 2 (nI (pa_sk tx T A)) (nI ((pa_sk tx T A) + 1)) (nI (pa_dv tx (pa_sk tx T A) (min (pa_dl tx T (pa_sk tx T A)) 7))) 0 fp (mlo 7 (pa_sk tx T A) (pa_dl tx T (pa_sk tx T A)))) 80 (upd ((mqI I 2 (nI (pa_sk tx T A)) (nI ((pa_sk tx T A) + 1)) (nI (pa_dv tx (pa_sk tx T A) (min (pa_dl tx T (pa_sk tx T A)) 7))) 0 fp (mlo 7 (pa_sk tx T A) (pa_dl tx T (pa_sk tx T A)))) 80) 5 (nI ((pa_sk tx T A) + pa_dl tx T (pa_sk tx T A)))), (mwL L 0), wQQ q)) 3 rfl ?_
                refine tv_hI mqI_w_se ?_
                refine tv_b (pc' := (if (mlo 7 (pa_sk tx T A) (pa_dl tx T (pa_sk tx T A))) = (-1) then 357 else 341)) (ls' := [some (.ref 80), some (.int (nI ((pa_sk tx T A) + pa_dl tx T (pa_sk tx T A)))), some (.int 0), some (.int 1), some (.int 7), some (.int (nI (pa_dl tx T (pa_sk tx T A))))]) (st' := []) (h' := (n, sl, wKK kk, (mqI I 2 (nI (pa_sk tx T A)) (nI ((pa_sk tx T A) + pa_dl tx T (pa_sk tx T A))) (nI (pa_dv tx (pa_sk tx T A) (min (pa_dl tx T (pa_sk tx T A)) 7))) 0 fp (mlo 7 (pa_sk tx T A) (pa_dl tx T (pa_sk tx T A)))), (mwL L 0), wQQ q)) 4 rfl ?_
                refine tv_f (mlo_ne h8 (by omega)) ?_
                refine tv_b (pc' := (if (I 80 13) = 0 then 348 else 357)) (ls' := [some (.ref 80), some (.int (nI ((pa_sk tx T A) + pa_dl tx T (pa_sk tx T A)))), some (.int 0), some (.int 1), some (.int 7), some (.int (nI (pa_dl tx T (pa_sk tx T A))))]) (st' := []) (h' := (n, sl, wKK kk, (mqI I 2 (nI (pa_sk tx T A)) (nI ((pa_sk tx T A) + pa_dl tx T (pa_sk tx T A))) (nI (pa_dv tx (pa_sk tx T A) (min (pa_dl tx T (pa_sk tx T A)) 7))) 0 fp (mlo 7 (pa_sk tx T A) (pa_dl tx T (pa_sk tx T A)))), (mwL L 0), wQQ q)) 3 rfl ?_
                refine tv_if (fun c345 => ?_) (fun c345 => ?_)
                · refine tv_b (pc' := 354) (ls' := [some (.ref 80), some (.int (nI ((pa_sk tx T A) + pa_dl tx T (pa_sk tx T A)))), some (.int 0), some (.int 1), some (.int 7), some (.int (nI (pa_dl tx T (pa_sk tx T A))))]) (st' := [.int (mlo 7 (pa_sk tx T A) (pa_dl tx T (pa_sk tx T A))), .int 1, .ref 80]) (h' := (n, sl, wKK kk, (mqI I 2 (nI (pa_sk tx T A)) (nI ((pa_sk tx T A) + pa_dl tx T (pa_sk tx T A))) (nI (pa_dv tx (pa_sk tx T A) (min (pa_dl tx T (pa_sk tx T A)) 7))) 0 fp (mlo 7 (pa_sk tx T A) (pa_dl tx T (pa_sk tx T A)))), (mwL L 0), wQQ q)) 4 rfl ?_
                  refine tv_cvE [.int 1, .int (mlo 7 (pa_sk tx T A) (pa_dl tx T (pa_sk tx T A)))] [] rfl rfl (by omega) rfl (Nat.le_of_ble_eq_true rfl) (Nat.le_of_ble_eq_true rfl) (Or.inr (Or.inr rfl)) (ev_mq_blame0) ?_
                  have hld : (pa_lt (tx (pa_sk tx T A)) || pa_dg (tx (pa_sk tx T A))) = true := by rw [hl, hd]; rfl
                  have ha : ¬ (0 < (pa_sk tx T A) ∧ (pa_lt (tx ((pa_sk tx T A) - 1)) || pa_dg (tx ((pa_sk tx T A) - 1))) = true) := by rintro ⟨_, q⟩; rw [Bool.or_eq_true] at q; exact q.elim c113 c127
                  have E := pa_c_num (b := tx) hST hl hd ha
                  refine tv_rv rfl ⟨rfl, _, _, _, _, _, _, _, _, rfl, ?_⟩
                  unfold nxP
                  rw [E.1, if_pos h8]
                  exact ⟨by omega, Or.inl ⟨rfl, mlo_y h8, Or.inl c345⟩⟩
                · have hld : (pa_lt (tx (pa_sk tx T A)) || pa_dg (tx (pa_sk tx T A))) = true := by rw [hl, hd]; rfl
                  have ha : ¬ (0 < (pa_sk tx T A) ∧ (pa_lt (tx ((pa_sk tx T A) - 1)) || pa_dg (tx ((pa_sk tx T A) - 1))) = true) := by rintro ⟨_, q⟩; rw [Bool.or_eq_true] at q; exact q.elim c113 c127
                  have E := pa_c_num (b := tx) hST hl hd ha
                  refine tv_rv rfl ⟨rfl, _, _, _, _, _, _, _, _, rfl, ?_⟩
                  unfold nxP
                  rw [E.1, if_pos h8]
                  exact ⟨by omega, Or.inr ⟨c345, rfl, rfl, mlo_y h8, rfl, Or.inr rfl⟩⟩
              · refine tv_b (pc' := 333) (ls' := [some (.ref 80), some (.int (nI ((pa_sk tx T A) + pa_dl tx T (pa_sk tx T A)))), some (.int 0), some (.int 1), some (.int 7), some (.int (nI (pa_dl tx T (pa_sk tx T A))))]) (st' := []) (h' := (n, sl, wKK kk, va_up (mqI I 2 (nI (pa_sk tx T A)) (nI ((pa_sk tx T A) + 1)) (nI (pa_dv tx (pa_sk tx T A) (min (pa_dl tx T (pa_sk tx T A)) 7))) 0 fp (mlo 7 (pa_sk tx T A) (pa_dl tx T (pa_sk tx T A)))) 80 (upd ((mqI I 2 (nI (pa_sk tx T A)) (nI ((pa_sk tx T A) + 1)) (nI (pa_dv tx (pa_sk tx T A) (min (pa_dl tx T (pa_sk tx T A)) 7))) 0 fp (mlo 7 (pa_sk tx T A) (pa_dl tx T (pa_sk tx T A)))) 80) 5 (nI ((pa_sk tx T A) + pa_dl tx T (pa_sk tx T A)))), (mwL L 0), wQQ q)) 3 rfl ?_
                refine tv_hI mqI_w_se ?_
                refine tv_b (pc' := (if (mlo 7 (pa_sk tx T A) (pa_dl tx T (pa_sk tx T A))) = (-1) then 357 else 341)) (ls' := [some (.ref 80), some (.int (nI ((pa_sk tx T A) + pa_dl tx T (pa_sk tx T A)))), some (.int 0), some (.int 1), some (.int 7), some (.int (nI (pa_dl tx T (pa_sk tx T A))))]) (st' := []) (h' := (n, sl, wKK kk, (mqI I 2 (nI (pa_sk tx T A)) (nI ((pa_sk tx T A) + pa_dl tx T (pa_sk tx T A))) (nI (pa_dv tx (pa_sk tx T A) (min (pa_dl tx T (pa_sk tx T A)) 7))) 0 fp (mlo 7 (pa_sk tx T A) (pa_dl tx T (pa_sk tx T A)))), (mwL L 0), wQQ q)) 4 rfl ?_
                refine tv_t (mlo_n h8) ?_
                have hld : (pa_lt (tx (pa_sk tx T A)) || pa_dg (tx (pa_sk tx T A))) = true := by rw [hl, hd]; rfl
                have ha : ¬ (0 < (pa_sk tx T A) ∧ (pa_lt (tx ((pa_sk tx T A) - 1)) || pa_dg (tx ((pa_sk tx T A) - 1))) = true) := by rintro ⟨_, q⟩; rw [Bool.or_eq_true] at q; exact q.elim c113 c127
                have E := pa_c_num (b := tx) hST hl hd ha
                refine tv_rv rfl ⟨rfl, _, _, _, _, _, _, _, _, rfl, ?_⟩
                unfold nxP
                rw [E.1, if_neg h8]
                exact ⟨rfl, rfl, mlo_n h8, rfl, by rw [E.2.2], Or.inr (Or.inl ⟨hST, hl, hd, rfl, by rw [Nat.min_eq_left (by omega), pa_nm_e (by omega)]⟩)⟩
            · refine tv_b (pc' := 133) (ls' := [some (.ref 80), some (.int (nI (pa_sk tx T A))), some (.int 0), some (.int 1), none, none]) (st' := [.int (nI (pa_sk tx T A)), .int 1, .ref 80]) (h' := (n, sl, wKK kk, (mqI I 0 (nI (pa_sk tx T A)) (nI (pa_sk tx T A)) va 0 fp (-1)), (mwL L w), wQQ q)) 3 rfl ?_
              refine tv_cvE [.int 1, .int (nI (pa_sk tx T A))] [] rfl rfl (by omega) rfl (Nat.le_of_ble_eq_true rfl) (Nat.le_of_ble_eq_true rfl) (Or.inr (Or.inr rfl)) (ev_mq_blame0) ?_
              refine tv_b (pc' := 141) (ls' := [some (.ref 80), some (.int (nI (pa_sk tx T A))), some (.int 0), some (.int 1), none, none]) (st' := []) (h' := (n, sl, wKK kk, va_up (mqI I 0 (nI (pa_sk tx T A)) (nI (pa_sk tx T A)) va 1 (nI (pa_sk tx T A)) (-1)) 80 (upd ((mqI I 0 (nI (pa_sk tx T A)) (nI (pa_sk tx T A)) va 1 (nI (pa_sk tx T A)) (-1)) 80) 6 0), (mwL L w), wQQ q)) 3 rfl ?_
              refine tv_hI mqI_w_va ?_
              refine tv_b (pc' := 146) (ls' := [some (.ref 80), some (.int (nI (pa_sk tx T A))), some (.int 0), some (.int 1), none, none]) (st' := []) (h' := (n, sl, wKK kk, (mqI I 0 (nI (pa_sk tx T A)) (nI (pa_sk tx T A)) 0 1 (nI (pa_sk tx T A)) (-1)), va_up (mwL L w) 80 (vp_updL ((mwL L w) 80) 7 0), wQQ q)) 3 rfl ?_
              refine tv_hL mwL_w_w ?_
              refine tv_b (pc' := 151) (ls' := [some (.ref 80), some (.int (nI (pa_sk tx T A))), some (.int 0), some (.int 1), none, none]) (st' := []) (h' := (n, sl, wKK kk, va_up (mqI I 0 (nI (pa_sk tx T A)) (nI (pa_sk tx T A)) 0 1 (nI (pa_sk tx T A)) (-1)) 80 (upd ((mqI I 0 (nI (pa_sk tx T A)) (nI (pa_sk tx T A)) 0 1 (nI (pa_sk tx T A)) (-1)) 80) 3 3), (mwL L 0), wQQ q)) 3 rfl ?_
              refine tv_hI mqI_w_sg ?_
              refine tv_b (pc' := 154) (ls' := [some (.ref 80), some (.int (nI (pa_sk tx T A))), some (.int 0), some (.int 1), none, none]) (st' := [.int 1, .int (nI (pa_sk tx T A)), .ref 80]) (h' := (n, sl, wKK kk, (mqI I 3 (nI (pa_sk tx T A)) (nI (pa_sk tx T A)) 0 1 (nI (pa_sk tx T A)) (-1)), (mwL L 0), wQQ q)) 3 rfl ?_
              refine tv_b (pc' := 155) (ls' := [some (.ref 80), some (.int (nI (pa_sk tx T A))), some (.int 0), some (.int 1), none, none]) (st' := [.int ((nI (pa_sk tx T A)) + 1), .ref 80]) (h' := (n, sl, wKK kk, (mqI I 3 (nI (pa_sk tx T A)) (nI (pa_sk tx T A)) 0 1 (nI (pa_sk tx T A)) (-1)), (mwL L 0), wQQ q)) 1 rfl ?_
              refine tv_top (show (nI (pa_sk tx T A)) + 1 = nI ((pa_sk tx T A) + 1) from nI_add (pa_sk tx T A) 1) ?_
              refine tv_b (pc' := 158) (ls' := [some (.ref 80), some (.int (nI (pa_sk tx T A))), some (.int 0), some (.int 1), none, none]) (st' := []) (h' := (n, sl, wKK kk, va_up (mqI I 3 (nI (pa_sk tx T A)) (nI (pa_sk tx T A)) 0 1 (nI (pa_sk tx T A)) (-1)) 80 (upd ((mqI I 3 (nI (pa_sk tx T A)) (nI (pa_sk tx T A)) 0 1 (nI (pa_sk tx T A)) (-1)) 80) 5 (nI ((pa_sk tx T A) + 1))), (mwL L 0), wQQ q)) 1 rfl ?_
              refine tv_hI mqI_w_se ?_
              refine tv_b (pc' := 190) (ls' := [some (.ref 80), some (.int (nI (pa_sk tx T A))), some (.int 0), some (.int 1), none, none]) (st' := []) (h' := (n, sl, wKK kk, va_up (mqI I 3 (nI (pa_sk tx T A)) (nI ((pa_sk tx T A) + 1)) 0 1 (nI (pa_sk tx T A)) (-1)) 80 (upd ((mqI I 3 (nI (pa_sk tx T A)) (nI ((pa_sk tx T A) + 1)) 0 1 (nI (pa_sk tx T A)) (-1)) 80) 3 2), (mwL L 0), wQQ q)) 9 rfl ?_
              refine tv_hI mqI_w_sg ?_
              refine tv_b (pc' := 206) (ls' := [some (.ref 80), some (.int (nI (pa_sk tx T A))), some (.int 0), some (.int 1), some (.int 7), some (.int 0)]) (st' := []) (h' := (n, sl, wKK kk, (mqI I 2 (nI (pa_sk tx T A)) (nI ((pa_sk tx T A) + 1)) 0 1 (nI (pa_sk tx T A)) (-1)), (mwL L 0), wQQ q)) 6 rfl ?_
              have hLT : pa_dl tx T (pa_sk tx T A) ≤ T - (pa_sk tx T A) := pa_rn_le _ _ _
              refine tv_m_dl (S := (pa_sk tx T A)) (va := 0) hR (by omega) ?_ (pa_dl tx T (pa_sk tx T A)) 0 (by omega) (Nat.zero_le _)
              by_cases h8 : 7 < pa_dl tx T (pa_sk tx T A)
              · refine tv_b (pc' := 333) (ls' := [some (.ref 80), some (.int (nI ((pa_sk tx T A) + pa_dl tx T (pa_sk tx T A)))), some (.int 0), some (.int 1), some (.int 7), some (.int (nI (pa_dl tx T (pa_sk tx T A))))]) (st' := []) (h' := (n, sl, wKK kk, va_up (mqI I 2 (nI (pa_sk tx T A)) (nI ((pa_sk tx T A) + 1)) (nI (pa_dv tx (pa_sk tx T A) (min (pa_dl tx T (pa_sk tx T A)) 7))) 1 (nI (pa_sk tx T A)) (mlo 7 (pa_sk tx T A) (pa_dl tx T (pa_sk tx T A)))) 80 (upd ((mqI I 2 (nI (pa_sk tx T A)) (nI ((pa_sk tx T A) + 1)) (nI (pa_dv tx (pa_sk tx T A) (min (pa_dl tx T (pa_sk tx T A)) 7))) 1 (nI (pa_sk tx T A)) (mlo 7 (pa_sk tx T A) (pa_dl tx T (pa_sk tx T A)))) 80) 5 (nI ((pa_sk tx T A) + pa_dl tx T (pa_sk tx T A)))), (mwL L 0), wQQ q)) 3 rfl ?_
                refine tv_hI mqI_w_se ?_
                refine tv_b (pc' := (if (mlo 7 (pa_sk tx T A) (pa_dl tx T (pa_sk tx T A))) = (-1) then 357 else 341)) (ls' := [some (.ref 80), some (.int (nI ((pa_sk tx T A) + pa_dl tx T (pa_sk tx T A)))), some (.int 0), some (.int 1), some (.int 7), some (.int (nI (pa_dl tx T (pa_sk tx T A))))]) (st' := []) (h' := (n, sl, wKK kk, (mqI I 2 (nI (pa_sk tx T A)) (nI ((pa_sk tx T A) + pa_dl tx T (pa_sk tx T A))) (nI (pa_dv tx (pa_sk tx T A) (min (pa_dl tx T (pa_sk tx T A)) 7))) 1 (nI (pa_sk tx T A)) (mlo 7 (pa_sk tx T A) (pa_dl tx T (pa_sk tx T A)))), (mwL L 0), wQQ q)) 4 rfl ?_
                refine tv_f (mlo_ne h8 (by omega)) ?_
                refine tv_b (pc' := (if (I 80 13) = 0 then 348 else 357)) (ls' := [some (.ref 80), some (.int (nI ((pa_sk tx T A) + pa_dl tx T (pa_sk tx T A)))), some (.int 0), some (.int 1), some (.int 7), some (.int (nI (pa_dl tx T (pa_sk tx T A))))]) (st' := []) (h' := (n, sl, wKK kk, (mqI I 2 (nI (pa_sk tx T A)) (nI ((pa_sk tx T A) + pa_dl tx T (pa_sk tx T A))) (nI (pa_dv tx (pa_sk tx T A) (min (pa_dl tx T (pa_sk tx T A)) 7))) 1 (nI (pa_sk tx T A)) (mlo 7 (pa_sk tx T A) (pa_dl tx T (pa_sk tx T A)))), (mwL L 0), wQQ q)) 3 rfl ?_
                refine tv_if (fun c345 => ?_) (fun c345 => ?_)
                · refine tv_b (pc' := 354) (ls' := [some (.ref 80), some (.int (nI ((pa_sk tx T A) + pa_dl tx T (pa_sk tx T A)))), some (.int 0), some (.int 1), some (.int 7), some (.int (nI (pa_dl tx T (pa_sk tx T A))))]) (st' := [.int (mlo 7 (pa_sk tx T A) (pa_dl tx T (pa_sk tx T A))), .int 1, .ref 80]) (h' := (n, sl, wKK kk, (mqI I 2 (nI (pa_sk tx T A)) (nI ((pa_sk tx T A) + pa_dl tx T (pa_sk tx T A))) (nI (pa_dv tx (pa_sk tx T A) (min (pa_dl tx T (pa_sk tx T A)) 7))) 1 (nI (pa_sk tx T A)) (mlo 7 (pa_sk tx T A) (pa_dl tx T (pa_sk tx T A)))), (mwL L 0), wQQ q)) 4 rfl ?_
                  refine tv_cvE [.int 1, .int (mlo 7 (pa_sk tx T A) (pa_dl tx T (pa_sk tx T A)))] [] rfl rfl (by omega) rfl (Nat.le_of_ble_eq_true rfl) (Nat.le_of_ble_eq_true rfl) (Or.inr (Or.inr rfl)) (ev_mq_blameF (by decide)) ?_
                  have hld : (pa_lt (tx (pa_sk tx T A)) || pa_dg (tx (pa_sk tx T A))) = true := by rw [hl, hd]; rfl
                  have h0 : 0 < (pa_sk tx T A) := by omega
                  have ha : (pa_lt (tx ((pa_sk tx T A) - 1)) || pa_dg (tx ((pa_sk tx T A) - 1))) = true := by rw [Bool.or_eq_true]; exact Or.inr c127
                  have E := pa_c_adj (b := tx) hST hld h0 ha
                  refine tv_rv rfl ⟨rfl, _, _, _, _, _, _, _, _, rfl, ?_⟩
                  unfold nxP
                  rw [E]
                  exact ⟨by omega, Or.inl ⟨rfl, rfl, Or.inr ⟨h0, ha⟩⟩⟩
                · have hld : (pa_lt (tx (pa_sk tx T A)) || pa_dg (tx (pa_sk tx T A))) = true := by rw [hl, hd]; rfl
                  have h0 : 0 < (pa_sk tx T A) := by omega
                  have ha : (pa_lt (tx ((pa_sk tx T A) - 1)) || pa_dg (tx ((pa_sk tx T A) - 1))) = true := by rw [Bool.or_eq_true]; exact Or.inr c127
                  have E := pa_c_adj (b := tx) hST hld h0 ha
                  refine tv_rv rfl ⟨rfl, _, _, _, _, _, _, _, _, rfl, ?_⟩
                  unfold nxP
                  rw [E]
                  exact ⟨by omega, Or.inl ⟨rfl, rfl, Or.inr ⟨h0, ha⟩⟩⟩
              · refine tv_b (pc' := 333) (ls' := [some (.ref 80), some (.int (nI ((pa_sk tx T A) + pa_dl tx T (pa_sk tx T A)))), some (.int 0), some (.int 1), some (.int 7), some (.int (nI (pa_dl tx T (pa_sk tx T A))))]) (st' := []) (h' := (n, sl, wKK kk, va_up (mqI I 2 (nI (pa_sk tx T A)) (nI ((pa_sk tx T A) + 1)) (nI (pa_dv tx (pa_sk tx T A) (min (pa_dl tx T (pa_sk tx T A)) 7))) 1 (nI (pa_sk tx T A)) (mlo 7 (pa_sk tx T A) (pa_dl tx T (pa_sk tx T A)))) 80 (upd ((mqI I 2 (nI (pa_sk tx T A)) (nI ((pa_sk tx T A) + 1)) (nI (pa_dv tx (pa_sk tx T A) (min (pa_dl tx T (pa_sk tx T A)) 7))) 1 (nI (pa_sk tx T A)) (mlo 7 (pa_sk tx T A) (pa_dl tx T (pa_sk tx T A)))) 80) 5 (nI ((pa_sk tx T A) + pa_dl tx T (pa_sk tx T A)))), (mwL L 0), wQQ q)) 3 rfl ?_
                refine tv_hI mqI_w_se ?_
                refine tv_b (pc' := (if (mlo 7 (pa_sk tx T A) (pa_dl tx T (pa_sk tx T A))) = (-1) then 357 else 341)) (ls' := [some (.ref 80), some (.int (nI ((pa_sk tx T A) + pa_dl tx T (pa_sk tx T A)))), some (.int 0), some (.int 1), some (.int 7), some (.int (nI (pa_dl tx T (pa_sk tx T A))))]) (st' := []) (h' := (n, sl, wKK kk, (mqI I 2 (nI (pa_sk tx T A)) (nI ((pa_sk tx T A) + pa_dl tx T (pa_sk tx T A))) (nI (pa_dv tx (pa_sk tx T A) (min (pa_dl tx T (pa_sk tx T A)) 7))) 1 (nI (pa_sk tx T A)) (mlo 7 (pa_sk tx T A) (pa_dl tx T (pa_sk tx T A)))), (mwL L 0), wQQ q)) 4 rfl ?_
                refine tv_t (mlo_n h8) ?_
                have hld : (pa_lt (tx (pa_sk tx T A)) || pa_dg (tx (pa_sk tx T A))) = true := by rw [hl, hd]; rfl
                have h0 : 0 < (pa_sk tx T A) := by omega
                have ha : (pa_lt (tx ((pa_sk tx T A) - 1)) || pa_dg (tx ((pa_sk tx T A) - 1))) = true := by rw [Bool.or_eq_true]; exact Or.inr c127
                have E := pa_c_adj (b := tx) hST hld h0 ha
                refine tv_rv rfl ⟨rfl, _, _, _, _, _, _, _, _, rfl, ?_⟩
                unfold nxP
                rw [E]
                exact ⟨by omega, Or.inl ⟨rfl, rfl, Or.inr ⟨h0, ha⟩⟩⟩
          · refine tv_b (pc' := 133) (ls' := [some (.ref 80), some (.int (nI (pa_sk tx T A))), some (.int 0), some (.int 1), none, none]) (st' := [.int (nI (pa_sk tx T A)), .int 1, .ref 80]) (h' := (n, sl, wKK kk, (mqI I 0 (nI (pa_sk tx T A)) (nI (pa_sk tx T A)) va 0 fp (-1)), (mwL L w), wQQ q)) 3 rfl ?_
            refine tv_cvE [.int 1, .int (nI (pa_sk tx T A))] [] rfl rfl (by omega) rfl (Nat.le_of_ble_eq_true rfl) (Nat.le_of_ble_eq_true rfl) (Or.inr (Or.inr rfl)) (ev_mq_blame0) ?_
            refine tv_b (pc' := 141) (ls' := [some (.ref 80), some (.int (nI (pa_sk tx T A))), some (.int 0), some (.int 1), none, none]) (st' := []) (h' := (n, sl, wKK kk, va_up (mqI I 0 (nI (pa_sk tx T A)) (nI (pa_sk tx T A)) va 1 (nI (pa_sk tx T A)) (-1)) 80 (upd ((mqI I 0 (nI (pa_sk tx T A)) (nI (pa_sk tx T A)) va 1 (nI (pa_sk tx T A)) (-1)) 80) 6 0), (mwL L w), wQQ q)) 3 rfl ?_
            refine tv_hI mqI_w_va ?_
            refine tv_b (pc' := 146) (ls' := [some (.ref 80), some (.int (nI (pa_sk tx T A))), some (.int 0), some (.int 1), none, none]) (st' := []) (h' := (n, sl, wKK kk, (mqI I 0 (nI (pa_sk tx T A)) (nI (pa_sk tx T A)) 0 1 (nI (pa_sk tx T A)) (-1)), va_up (mwL L w) 80 (vp_updL ((mwL L w) 80) 7 0), wQQ q)) 3 rfl ?_
            refine tv_hL mwL_w_w ?_
            refine tv_b (pc' := 151) (ls' := [some (.ref 80), some (.int (nI (pa_sk tx T A))), some (.int 0), some (.int 1), none, none]) (st' := []) (h' := (n, sl, wKK kk, va_up (mqI I 0 (nI (pa_sk tx T A)) (nI (pa_sk tx T A)) 0 1 (nI (pa_sk tx T A)) (-1)) 80 (upd ((mqI I 0 (nI (pa_sk tx T A)) (nI (pa_sk tx T A)) 0 1 (nI (pa_sk tx T A)) (-1)) 80) 3 3), (mwL L 0), wQQ q)) 3 rfl ?_
            refine tv_hI mqI_w_sg ?_
            refine tv_b (pc' := 154) (ls' := [some (.ref 80), some (.int (nI (pa_sk tx T A))), some (.int 0), some (.int 1), none, none]) (st' := [.int 1, .int (nI (pa_sk tx T A)), .ref 80]) (h' := (n, sl, wKK kk, (mqI I 3 (nI (pa_sk tx T A)) (nI (pa_sk tx T A)) 0 1 (nI (pa_sk tx T A)) (-1)), (mwL L 0), wQQ q)) 3 rfl ?_
            refine tv_b (pc' := 155) (ls' := [some (.ref 80), some (.int (nI (pa_sk tx T A))), some (.int 0), some (.int 1), none, none]) (st' := [.int ((nI (pa_sk tx T A)) + 1), .ref 80]) (h' := (n, sl, wKK kk, (mqI I 3 (nI (pa_sk tx T A)) (nI (pa_sk tx T A)) 0 1 (nI (pa_sk tx T A)) (-1)), (mwL L 0), wQQ q)) 1 rfl ?_
            refine tv_top (show (nI (pa_sk tx T A)) + 1 = nI ((pa_sk tx T A) + 1) from nI_add (pa_sk tx T A) 1) ?_
            refine tv_b (pc' := 158) (ls' := [some (.ref 80), some (.int (nI (pa_sk tx T A))), some (.int 0), some (.int 1), none, none]) (st' := []) (h' := (n, sl, wKK kk, va_up (mqI I 3 (nI (pa_sk tx T A)) (nI (pa_sk tx T A)) 0 1 (nI (pa_sk tx T A)) (-1)) 80 (upd ((mqI I 3 (nI (pa_sk tx T A)) (nI (pa_sk tx T A)) 0 1 (nI (pa_sk tx T A)) (-1)) 80) 5 (nI ((pa_sk tx T A) + 1))), (mwL L 0), wQQ q)) 1 rfl ?_
            refine tv_hI mqI_w_se ?_
            refine tv_b (pc' := 190) (ls' := [some (.ref 80), some (.int (nI (pa_sk tx T A))), some (.int 0), some (.int 1), none, none]) (st' := []) (h' := (n, sl, wKK kk, va_up (mqI I 3 (nI (pa_sk tx T A)) (nI ((pa_sk tx T A) + 1)) 0 1 (nI (pa_sk tx T A)) (-1)) 80 (upd ((mqI I 3 (nI (pa_sk tx T A)) (nI ((pa_sk tx T A) + 1)) 0 1 (nI (pa_sk tx T A)) (-1)) 80) 3 2), (mwL L 0), wQQ q)) 9 rfl ?_
            refine tv_hI mqI_w_sg ?_
            refine tv_b (pc' := 206) (ls' := [some (.ref 80), some (.int (nI (pa_sk tx T A))), some (.int 0), some (.int 1), some (.int 7), some (.int 0)]) (st' := []) (h' := (n, sl, wKK kk, (mqI I 2 (nI (pa_sk tx T A)) (nI ((pa_sk tx T A) + 1)) 0 1 (nI (pa_sk tx T A)) (-1)), (mwL L 0), wQQ q)) 6 rfl ?_
            have hLT : pa_dl tx T (pa_sk tx T A) ≤ T - (pa_sk tx T A) := pa_rn_le _ _ _
            refine tv_m_dl (S := (pa_sk tx T A)) (va := 0) hR (by omega) ?_ (pa_dl tx T (pa_sk tx T A)) 0 (by omega) (Nat.zero_le _)
            by_cases h8 : 7 < pa_dl tx T (pa_sk tx T A)
            · refine tv_b (pc' := 333) (ls' := [some (.ref 80), some (.int (nI ((pa_sk tx T A) + pa_dl tx T (pa_sk tx T A)))), some (.int 0), some (.int 1), some (.int 7), some (.int (nI (pa_dl tx T (pa_sk tx T A))))]) (st' := []) (h' := (n, sl, wKK kk, va_up (mqI I 2 (nI (pa_sk tx T A)) (nI ((pa_sk tx T A) + 1)) (nI (pa_dv tx (pa_sk tx T A) (min (pa_dl tx T (pa_sk tx T A)) 7))) 1 (nI (pa_sk tx T A)) (mlo 7 (pa_sk tx T A) (pa_dl tx T (pa_sk tx T A)))) 80 (upd ((mqI I 2 (nI (pa_sk tx T A)) (nI ((pa_sk tx T A) + 1)) (nI (pa_dv tx (pa_sk tx T A) (min (pa_dl tx T (pa_sk tx T A)) 7))) 1 (nI (pa_sk tx T A)) (mlo 7 (pa_sk tx T A) (pa_dl tx T (pa_sk tx T A)))) 80) 5 (nI ((pa_sk tx T A) + pa_dl tx T (pa_sk tx T A)))), (mwL L 0), wQQ q)) 3 rfl ?_
              refine tv_hI mqI_w_se ?_
              refine tv_b (pc' := (if (mlo 7 (pa_sk tx T A) (pa_dl tx T (pa_sk tx T A))) = (-1) then 357 else 341)) (ls' := [some (.ref 80), some (.int (nI ((pa_sk tx T A) + pa_dl tx T (pa_sk tx T A)))), some (.int 0), some (.int 1), some (.int 7), some (.int (nI (pa_dl tx T (pa_sk tx T A))))]) (st' := []) (h' := (n, sl, wKK kk, (mqI I 2 (nI (pa_sk tx T A)) (nI ((pa_sk tx T A) + pa_dl tx T (pa_sk tx T A))) (nI (pa_dv tx (pa_sk tx T A) (min (pa_dl tx T (pa_sk tx T A)) 7))) 1 (nI (pa_sk tx T A)) (mlo 7 (pa_sk tx T A) (pa_dl tx T (pa_sk tx T A)))), (mwL L 0), wQQ q)) 4 rfl ?_
              refine tv_f (mlo_ne h8 (by omega)) ?_
              refine tv_b (pc' := (if (I 80 13) = 0 then 348 else 357)) (ls' := [some (.ref 80), some (.int (nI ((pa_sk tx T A) + pa_dl tx T (pa_sk tx T A)))), some (.int 0), some (.int 1), some (.int 7), some (.int (nI (pa_dl tx T (pa_sk tx T A))))]) (st' := []) (h' := (n, sl, wKK kk, (mqI I 2 (nI (pa_sk tx T A)) (nI ((pa_sk tx T A) + pa_dl tx T (pa_sk tx T A))) (nI (pa_dv tx (pa_sk tx T A) (min (pa_dl tx T (pa_sk tx T A)) 7))) 1 (nI (pa_sk tx T A)) (mlo 7 (pa_sk tx T A) (pa_dl tx T (pa_sk tx T A)))), (mwL L 0), wQQ q)) 3 rfl ?_
              refine tv_if (fun c345 => ?_) (fun c345 => ?_)
              · refine tv_b (pc' := 354) (ls' := [some (.ref 80), some (.int (nI ((pa_sk tx T A) + pa_dl tx T (pa_sk tx T A)))), some (.int 0), some (.int 1), some (.int 7), some (.int (nI (pa_dl tx T (pa_sk tx T A))))]) (st' := [.int (mlo 7 (pa_sk tx T A) (pa_dl tx T (pa_sk tx T A))), .int 1, .ref 80]) (h' := (n, sl, wKK kk, (mqI I 2 (nI (pa_sk tx T A)) (nI ((pa_sk tx T A) + pa_dl tx T (pa_sk tx T A))) (nI (pa_dv tx (pa_sk tx T A) (min (pa_dl tx T (pa_sk tx T A)) 7))) 1 (nI (pa_sk tx T A)) (mlo 7 (pa_sk tx T A) (pa_dl tx T (pa_sk tx T A)))), (mwL L 0), wQQ q)) 4 rfl ?_
                refine tv_cvE [.int 1, .int (mlo 7 (pa_sk tx T A) (pa_dl tx T (pa_sk tx T A)))] [] rfl rfl (by omega) rfl (Nat.le_of_ble_eq_true rfl) (Nat.le_of_ble_eq_true rfl) (Or.inr (Or.inr rfl)) (ev_mq_blameF (by decide)) ?_
                have hld : (pa_lt (tx (pa_sk tx T A)) || pa_dg (tx (pa_sk tx T A))) = true := by rw [hl, hd]; rfl
                have h0 : 0 < (pa_sk tx T A) := by omega
                have ha : (pa_lt (tx ((pa_sk tx T A) - 1)) || pa_dg (tx ((pa_sk tx T A) - 1))) = true := by rw [Bool.or_eq_true]; exact Or.inl c113
                have E := pa_c_adj (b := tx) hST hld h0 ha
                refine tv_rv rfl ⟨rfl, _, _, _, _, _, _, _, _, rfl, ?_⟩
                unfold nxP
                rw [E]
                exact ⟨by omega, Or.inl ⟨rfl, rfl, Or.inr ⟨h0, ha⟩⟩⟩
              · have hld : (pa_lt (tx (pa_sk tx T A)) || pa_dg (tx (pa_sk tx T A))) = true := by rw [hl, hd]; rfl
                have h0 : 0 < (pa_sk tx T A) := by omega
                have ha : (pa_lt (tx ((pa_sk tx T A) - 1)) || pa_dg (tx ((pa_sk tx T A) - 1))) = true := by rw [Bool.or_eq_true]; exact Or.inl c113
                have E := pa_c_adj (b := tx) hST hld h0 ha
                refine tv_rv rfl ⟨rfl, _, _, _, _, _, _, _, _, rfl, ?_⟩
                unfold nxP
                rw [E]
                exact ⟨by omega, Or.inl ⟨rfl, rfl, Or.inr ⟨h0, ha⟩⟩⟩
            · refine tv_b (pc' := 333) (ls' := [some (.ref 80), some (.int (nI ((pa_sk tx T A) + pa_dl tx T (pa_sk tx T A)))), some (.int 0), some (.int 1), some (.int 7), some (.int (nI (pa_dl tx T (pa_sk tx T A))))]) (st' := []) (h' := (n, sl, wKK kk, va_up (mqI I 2 (nI (pa_sk tx T A)) (nI ((pa_sk tx T A) + 1)) (nI (pa_dv tx (pa_sk tx T A) (min (pa_dl tx T (pa_sk tx T A)) 7))) 1 (nI (pa_sk tx T A)) (mlo 7 (pa_sk tx T A) (pa_dl tx T (pa_sk tx T A)))) 80 (upd ((mqI I 2 (nI (pa_sk tx T A)) (nI ((pa_sk tx T A) + 1)) (nI (pa_dv tx (pa_sk tx T A) (min (pa_dl tx T (pa_sk tx T A)) 7))) 1 (nI (pa_sk tx T A)) (mlo 7 (pa_sk tx T A) (pa_dl tx T (pa_sk tx T A)))) 80) 5 (nI ((pa_sk tx T A) + pa_dl tx T (pa_sk tx T A)))), (mwL L 0), wQQ q)) 3 rfl ?_
              refine tv_hI mqI_w_se ?_
              refine tv_b (pc' := (if (mlo 7 (pa_sk tx T A) (pa_dl tx T (pa_sk tx T A))) = (-1) then 357 else 341)) (ls' := [some (.ref 80), some (.int (nI ((pa_sk tx T A) + pa_dl tx T (pa_sk tx T A)))), some (.int 0), some (.int 1), some (.int 7), some (.int (nI (pa_dl tx T (pa_sk tx T A))))]) (st' := []) (h' := (n, sl, wKK kk, (mqI I 2 (nI (pa_sk tx T A)) (nI ((pa_sk tx T A) + pa_dl tx T (pa_sk tx T A))) (nI (pa_dv tx (pa_sk tx T A) (min (pa_dl tx T (pa_sk tx T A)) 7))) 1 (nI (pa_sk tx T A)) (mlo 7 (pa_sk tx T A) (pa_dl tx T (pa_sk tx T A)))), (mwL L 0), wQQ q)) 4 rfl ?_
              refine tv_t (mlo_n h8) ?_
              have hld : (pa_lt (tx (pa_sk tx T A)) || pa_dg (tx (pa_sk tx T A))) = true := by rw [hl, hd]; rfl
              have h0 : 0 < (pa_sk tx T A) := by omega
              have ha : (pa_lt (tx ((pa_sk tx T A) - 1)) || pa_dg (tx ((pa_sk tx T A) - 1))) = true := by rw [Bool.or_eq_true]; exact Or.inl c113
              have E := pa_c_adj (b := tx) hST hld h0 ha
              refine tv_rv rfl ⟨rfl, _, _, _, _, _, _, _, _, rfl, ?_⟩
              unfold nxP
              rw [E]
              exact ⟨by omega, Or.inl ⟨rfl, rfl, Or.inr ⟨h0, ha⟩⟩⟩
      | false =>
        refine tv_b (pc' := 75) (ls' := [some (.ref 80), some (.int (nI (pa_sk tx T A))), none, none, none, none]) (st' := [.int (nI (pa_sk tx T A)), .ref 81]) (h' := (n, sl, wKK kk, (mqI I 0 (nI (pa_sk tx T A)) (nI (pa_sk tx T A)) va 0 fp (-1)), (mwL L w), wQQ q)) 3 rfl ?_
        refine tv_ialN (k := (pa_sk tx T A)) rfl (rfl) (⟨by omega, by omega⟩) ?_
        refine tv_top ((hR.2.2 (pa_sk tx T A) (by omega)).2) ?_
        refine tv_csE [.int (nI (tx (pa_sk tx T A)))] [] rfl rfl (by omega) rfl (Nat.le_of_ble_eq_true rfl) (Nat.le_of_ble_eq_true rfl) (ev_mlet0 (hR.2.2 _ hST).1 hl) ?_
        refine tv_b (pc' := 85) (ls' := [some (.ref 80), some (.int (nI (pa_sk tx T A))), some (.int 0), none, none, none]) (st' := [.int (nI (pa_sk tx T A)), .ref 81]) (h' := (n, sl, wKK kk, (mqI I 0 (nI (pa_sk tx T A)) (nI (pa_sk tx T A)) va 0 fp (-1)), (mwL L w), wQQ q)) 4 rfl ?_
        refine tv_ialN (k := (pa_sk tx T A)) rfl (rfl) (⟨by omega, by omega⟩) ?_
        refine tv_top ((hR.2.2 (pa_sk tx T A) (by omega)).2) ?_
        refine tv_csE [.int (nI (tx (pa_sk tx T A)))] [] rfl rfl (by omega) rfl (Nat.le_of_ble_eq_true rfl) (Nat.le_of_ble_eq_true rfl) (ev_mdig0 (hR.2.2 _ hST).1 hd) ?_
        refine tv_b (pc' := 141) (ls' := [some (.ref 80), some (.int (nI (pa_sk tx T A))), some (.int 0), some (.int 0), none, none]) (st' := []) (h' := (n, sl, wKK kk, va_up (mqI I 0 (nI (pa_sk tx T A)) (nI (pa_sk tx T A)) va 0 fp (-1)) 80 (upd ((mqI I 0 (nI (pa_sk tx T A)) (nI (pa_sk tx T A)) va 0 fp (-1)) 80) 6 0), (mwL L w), wQQ q)) 8 rfl ?_
        refine tv_hI mqI_w_va ?_
        refine tv_b (pc' := 146) (ls' := [some (.ref 80), some (.int (nI (pa_sk tx T A))), some (.int 0), some (.int 0), none, none]) (st' := []) (h' := (n, sl, wKK kk, (mqI I 0 (nI (pa_sk tx T A)) (nI (pa_sk tx T A)) 0 0 fp (-1)), va_up (mwL L w) 80 (vp_updL ((mwL L w) 80) 7 0), wQQ q)) 3 rfl ?_
        refine tv_hL mwL_w_w ?_
        refine tv_b (pc' := 151) (ls' := [some (.ref 80), some (.int (nI (pa_sk tx T A))), some (.int 0), some (.int 0), none, none]) (st' := []) (h' := (n, sl, wKK kk, va_up (mqI I 0 (nI (pa_sk tx T A)) (nI (pa_sk tx T A)) 0 0 fp (-1)) 80 (upd ((mqI I 0 (nI (pa_sk tx T A)) (nI (pa_sk tx T A)) 0 0 fp (-1)) 80) 3 3), (mwL L 0), wQQ q)) 3 rfl ?_
        refine tv_hI mqI_w_sg ?_
        refine tv_b (pc' := 154) (ls' := [some (.ref 80), some (.int (nI (pa_sk tx T A))), some (.int 0), some (.int 0), none, none]) (st' := [.int 1, .int (nI (pa_sk tx T A)), .ref 80]) (h' := (n, sl, wKK kk, (mqI I 3 (nI (pa_sk tx T A)) (nI (pa_sk tx T A)) 0 0 fp (-1)), (mwL L 0), wQQ q)) 3 rfl ?_
        refine tv_b (pc' := 155) (ls' := [some (.ref 80), some (.int (nI (pa_sk tx T A))), some (.int 0), some (.int 0), none, none]) (st' := [.int ((nI (pa_sk tx T A)) + 1), .ref 80]) (h' := (n, sl, wKK kk, (mqI I 3 (nI (pa_sk tx T A)) (nI (pa_sk tx T A)) 0 0 fp (-1)), (mwL L 0), wQQ q)) 1 rfl ?_
        refine tv_top (show (nI (pa_sk tx T A)) + 1 = nI ((pa_sk tx T A) + 1) from nI_add (pa_sk tx T A) 1) ?_
        refine tv_b (pc' := 158) (ls' := [some (.ref 80), some (.int (nI (pa_sk tx T A))), some (.int 0), some (.int 0), none, none]) (st' := []) (h' := (n, sl, wKK kk, va_up (mqI I 3 (nI (pa_sk tx T A)) (nI (pa_sk tx T A)) 0 0 fp (-1)) 80 (upd ((mqI I 3 (nI (pa_sk tx T A)) (nI (pa_sk tx T A)) 0 0 fp (-1)) 80) 5 (nI ((pa_sk tx T A) + 1))), (mwL L 0), wQQ q)) 1 rfl ?_
        refine tv_hI mqI_w_se ?_
        refine tv_b (pc' := 172) (ls' := [some (.ref 80), some (.int (nI (pa_sk tx T A))), some (.int 0), some (.int 0), none, none]) (st' := [.int (nI (pa_sk tx T A)), .ref 81, .ref 80]) (h' := (n, sl, wKK kk, (mqI I 3 (nI (pa_sk tx T A)) (nI ((pa_sk tx T A) + 1)) 0 0 fp (-1)), (mwL L 0), wQQ q)) 8 rfl ?_
        refine tv_ialN (k := (pa_sk tx T A)) rfl (rfl) (⟨by omega, by omega⟩) ?_
        refine tv_top ((hR.2.2 (pa_sk tx T A) (by omega)).2) ?_
        refine tv_b (pc' := 176) (ls' := [some (.ref 80), some (.int (nI (pa_sk tx T A))), some (.int 0), some (.int 0), none, none]) (st' := []) (h' := (n, sl, wKK kk, va_up (mqI I 3 (nI (pa_sk tx T A)) (nI ((pa_sk tx T A) + 1)) 0 0 fp (-1)) 80 (upd ((mqI I 3 (nI (pa_sk tx T A)) (nI ((pa_sk tx T A) + 1)) 0 0 fp (-1)) 80) 6 (nI (tx (pa_sk tx T A)))), (mwL L 0), wQQ q)) 1 rfl ?_
        refine tv_hI mqI_w_va ?_
        have E := pa_c_sign (b := tx) hST hl hd
        refine tv_rv rfl ⟨rfl, _, _, _, _, _, _, _, _, rfl, ?_⟩
        unfold nxP
        rw [E.1]
        exact ⟨rfl, rfl, rfl, rfl, by rw [E.2.2], Or.inr (Or.inr (Or.inl ⟨hST, hl, hd, rfl, hxS, rfl⟩))⟩
  · have E := pa_c_end (b := tx) c66
    refine tv_rv rfl ⟨rfl, _, _, _, _, _, _, _, _, rfl, ?_⟩
    unfold nxP
    rw [E.1]
    exact ⟨rfl, rfl, rfl, rfl, by rw [E.2.2], Or.inr (Or.inr (Or.inr ⟨c66, rfl⟩))⟩
