/-! THE LAW'S LOOP -/
theorem lw_c0 {k Ln : Nat} {xs : Nat → Int32} {h : am_H} (hk : k ≤ 512) (hi : 6 * k + 6 ≤ Ln) (hL : Ln ≤ 3072) (hh : hInv k h) (hs : scr Ln xs h) {P : Option Value → am_H → Prop} (hnext : ∀ h2, hInv (k + 1) h2 → scr Ln xs h2 → am_T 300 0 1477 [some (.ref am_B), some (.ref 0), some (.ref 80), some (.int (nI (6 * k)))] [] h2 P) : am_T 300 0 196 [some (.ref am_B), some (.ref 0), some (.ref 80), some (.int (nI (6 * k)))] [] h P := by
  obtain ⟨k1, k2, k3, k4, k5⟩ := hInv_k hh
  refine tv_b (pc' := 201) (ls' := [some (.ref am_B), some (.ref 0), some (.ref 80), some (.int (nI (6 * k)))]) (st' := [.int (nI (6 * k) + 1), .ref am_B, .ref 0]) (h' := h) 5 rfl ?_
  refine tv_top (show nI (6 * k) + 1 = nI (6 * k + 1) from nI_add (6 * k) 1) ?_
  refine tv_sc rfl hs ⟨by omega, by omega⟩ ?_
  refine tv_b (pc' := 206) (ls' := [some (.ref am_B), some (.ref 0), some (.ref 80), some (.int (nI (6 * k)))]) (st' := [.int (nI (6 * k) + 2), .ref am_B, .int (xs (6 * k + 1)), .ref 0]) (h' := h) 4 rfl ?_
  refine tv_top (show nI (6 * k) + 2 = nI (6 * k + 2) from nI_add (6 * k) 2) ?_
  refine tv_sc rfl hs ⟨by omega, by omega⟩ ?_
  refine tv_b (pc' := 211) (ls' := [some (.ref am_B), some (.ref 0), some (.ref 80), some (.int (nI (6 * k)))]) (st' := [.int (nI (6 * k) + 3), .ref am_B, .int (xs (6 * k + 2)), .int (xs (6 * k + 1)), .ref 0]) (h' := h) 4 rfl ?_
  refine tv_top (show nI (6 * k) + 3 = nI (6 * k + 3) from nI_add (6 * k) 3) ?_
  refine tv_sc rfl hs ⟨by omega, by omega⟩ ?_
  refine tv_b (pc' := 216) (ls' := [some (.ref am_B), some (.ref 0), some (.ref 80), some (.int (nI (6 * k)))]) (st' := [.int (nI (6 * k) + 4), .ref am_B, .int (xs (6 * k + 3)), .int (xs (6 * k + 2)), .int (xs (6 * k + 1)), .ref 0]) (h' := h) 4 rfl ?_
  refine tv_top (show nI (6 * k) + 4 = nI (6 * k + 4) from nI_add (6 * k) 4) ?_
  refine tv_sc rfl hs ⟨by omega, by omega⟩ ?_
  refine tv_b (pc' := 221) (ls' := [some (.ref am_B), some (.ref 0), some (.ref 80), some (.int (nI (6 * k)))]) (st' := [.int (nI (6 * k) + 5), .ref am_B, .int (xs (6 * k + 4)), .int (xs (6 * k + 3)), .int (xs (6 * k + 2)), .int (xs (6 * k + 1)), .ref 0]) (h' := h) 4 rfl ?_
  refine tv_top (show nI (6 * k) + 5 = nI (6 * k + 5) from nI_add (6 * k) 5) ?_
  refine tv_sc rfl hs ⟨by omega, by omega⟩ ?_
  obtain ⟨z, h1, h2, e1, e2, hn, hs1, hk1, pcr, hrt⟩ := jx_law (jx_feed (a := (xs (6 * k + 1))) (b := (xs (6 * k + 2))) (c := (xs (6 * k + 3))) (e := (xs (6 * k + 4))) (f := (xs (6 * k + 5)))) hk hh hs
  obtain ⟨w, rfl⟩ := rt_I (by first | exact Or.inl rfl | exact Or.inr rfl) hrt
  refine tv_cvE [.int (xs (6 * k + 1)), .int (xs (6 * k + 2)), .int (xs (6 * k + 3)), .int (xs (6 * k + 4)), .int (xs (6 * k + 5))] [] rfl rfl (by omega) rfl (Nat.le_of_ble_eq_true rfl) (Nat.le_of_ble_eq_true rfl) (Or.inr (Or.inr k2)) (ev_up (d := 200) (by decide) e1) ?_
  refine tv_b (pc' := 230) (ls' := [some (.ref am_B), some (.ref 0), some (.ref 80), some (.int (nI (6 * k)))]) (st' := [.int (nI (6 * k) + 1), .ref am_B, .ref 80, .int w]) (h' := h1) 5 rfl ?_
  refine tv_top (show nI (6 * k) + 1 = nI (6 * k + 1) from nI_add (6 * k) 1) ?_
  refine tv_sc rfl hs1 ⟨by omega, by omega⟩ ?_
  refine tv_b (pc' := 235) (ls' := [some (.ref am_B), some (.ref 0), some (.ref 80), some (.int (nI (6 * k)))]) (st' := [.int (nI (6 * k) + 2), .ref am_B, .int (xs (6 * k + 1)), .ref 80, .int w]) (h' := h1) 4 rfl ?_
  refine tv_top (show nI (6 * k) + 2 = nI (6 * k + 2) from nI_add (6 * k) 2) ?_
  refine tv_sc rfl hs1 ⟨by omega, by omega⟩ ?_
  refine tv_b (pc' := 240) (ls' := [some (.ref am_B), some (.ref 0), some (.ref 80), some (.int (nI (6 * k)))]) (st' := [.int (nI (6 * k) + 3), .ref am_B, .int (xs (6 * k + 2)), .int (xs (6 * k + 1)), .ref 80, .int w]) (h' := h1) 4 rfl ?_
  refine tv_top (show nI (6 * k) + 3 = nI (6 * k + 3) from nI_add (6 * k) 3) ?_
  refine tv_sc rfl hs1 ⟨by omega, by omega⟩ ?_
  refine tv_b (pc' := 245) (ls' := [some (.ref am_B), some (.ref 0), some (.ref 80), some (.int (nI (6 * k)))]) (st' := [.int (nI (6 * k) + 4), .ref am_B, .int (xs (6 * k + 3)), .int (xs (6 * k + 2)), .int (xs (6 * k + 1)), .ref 80, .int w]) (h' := h1) 4 rfl ?_
  refine tv_top (show nI (6 * k) + 4 = nI (6 * k + 4) from nI_add (6 * k) 4) ?_
  refine tv_sc rfl hs1 ⟨by omega, by omega⟩ ?_
  refine tv_b (pc' := 250) (ls' := [some (.ref am_B), some (.ref 0), some (.ref 80), some (.int (nI (6 * k)))]) (st' := [.int (nI (6 * k) + 5), .ref am_B, .int (xs (6 * k + 4)), .int (xs (6 * k + 3)), .int (xs (6 * k + 2)), .int (xs (6 * k + 1)), .ref 80, .int w]) (h' := h1) 4 rfl ?_
  refine tv_top (show nI (6 * k) + 5 = nI (6 * k + 5) from nI_add (6 * k) 5) ?_
  refine tv_sc rfl hs1 ⟨by omega, by omega⟩ ?_
  refine tv_cvE [.int (xs (6 * k + 1)), .int (xs (6 * k + 2)), .int (xs (6 * k + 3)), .int (xs (6 * k + 4)), .int (xs (6 * k + 5))] [.int w] rfl rfl (by omega) rfl (Nat.le_of_ble_eq_true rfl) (Nat.le_of_ble_eq_true rfl) (Or.inr (Or.inr hk1)) (ev_up (d := 200) (by decide) e2) ?_
  refine tv_b (pc' := (if w = w then 1477 else 257)) (ls' := [some (.ref am_B), some (.ref 0), some (.ref 80), some (.int (nI (6 * k)))]) (st' := []) (h' := h2) 1 rfl ?_
  refine tv_t rfl ?_
  exact hnext h2 hn.1 hn.2
theorem lw_c1 {k Ln : Nat} {xs : Nat → Int32} {h : am_H} (hk : k ≤ 512) (hi : 6 * k + 6 ≤ Ln) (hL : Ln ≤ 3072) (hh : hInv k h) (hs : scr Ln xs h) {P : Option Value → am_H → Prop} (hnext : ∀ h2, hInv (k + 1) h2 → scr Ln xs h2 → am_T 300 0 1477 [some (.ref am_B), some (.ref 0), some (.ref 80), some (.int (nI (6 * k)))] [] h2 P) : am_T 300 0 259 [some (.ref am_B), some (.ref 0), some (.ref 80), some (.int (nI (6 * k)))] [] h P := by
  obtain ⟨k1, k2, k3, k4, k5⟩ := hInv_k hh
  refine tv_b (pc' := 264) (ls' := [some (.ref am_B), some (.ref 0), some (.ref 80), some (.int (nI (6 * k)))]) (st' := [.int (nI (6 * k) + 1), .ref am_B, .ref 0]) (h' := h) 5 rfl ?_
  refine tv_top (show nI (6 * k) + 1 = nI (6 * k + 1) from nI_add (6 * k) 1) ?_
  refine tv_sc rfl hs ⟨by omega, by omega⟩ ?_
  obtain ⟨z, h1, h2, e1, e2, hn, hs1, hk1, pcr, hrt⟩ := jx_law (jx_end (x := (xs (6 * k + 1)))) hk hh hs
  obtain ⟨w, rfl⟩ := rt_I (by first | exact Or.inl rfl | exact Or.inr rfl) hrt
  refine tv_cvE [.int (xs (6 * k + 1))] [] rfl rfl (by omega) rfl (Nat.le_of_ble_eq_true rfl) (Nat.le_of_ble_eq_true rfl) (Or.inr (Or.inr k2)) (ev_up (d := 200) (by decide) e1) ?_
  refine tv_b (pc' := 273) (ls' := [some (.ref am_B), some (.ref 0), some (.ref 80), some (.int (nI (6 * k)))]) (st' := [.int (nI (6 * k) + 1), .ref am_B, .ref 80, .int w]) (h' := h1) 5 rfl ?_
  refine tv_top (show nI (6 * k) + 1 = nI (6 * k + 1) from nI_add (6 * k) 1) ?_
  refine tv_sc rfl hs1 ⟨by omega, by omega⟩ ?_
  refine tv_cvE [.int (xs (6 * k + 1))] [.int w] rfl rfl (by omega) rfl (Nat.le_of_ble_eq_true rfl) (Nat.le_of_ble_eq_true rfl) (Or.inr (Or.inr hk1)) (ev_up (d := 200) (by decide) e2) ?_
  refine tv_b (pc' := (if w = w then 1477 else 280)) (ls' := [some (.ref am_B), some (.ref 0), some (.ref 80), some (.int (nI (6 * k)))]) (st' := []) (h' := h2) 1 rfl ?_
  refine tv_t rfl ?_
  exact hnext h2 hn.1 hn.2
theorem lw_c2 {k Ln : Nat} {xs : Nat → Int32} {h : am_H} (hk : k ≤ 512) (hi : 6 * k + 6 ≤ Ln) (hL : Ln ≤ 3072) (hh : hInv k h) (hs : scr Ln xs h) {P : Option Value → am_H → Prop} (hnext : ∀ h2, hInv (k + 1) h2 → scr Ln xs h2 → am_T 300 0 1477 [some (.ref am_B), some (.ref 0), some (.ref 80), some (.int (nI (6 * k)))] [] h2 P) : am_T 300 0 282 [some (.ref am_B), some (.ref 0), some (.ref 80), some (.int (nI (6 * k)))] [] h P := by
  obtain ⟨k1, k2, k3, k4, k5⟩ := hInv_k hh
  refine tv_b (pc' := 287) (ls' := [some (.ref am_B), some (.ref 0), some (.ref 80), some (.int (nI (6 * k)))]) (st' := [.int (nI (6 * k) + 1), .ref am_B, .ref 0]) (h' := h) 5 rfl ?_
  refine tv_top (show nI (6 * k) + 1 = nI (6 * k + 1) from nI_add (6 * k) 1) ?_
  refine tv_sc rfl hs ⟨by omega, by omega⟩ ?_
  refine tv_b (pc' := 292) (ls' := [some (.ref am_B), some (.ref 0), some (.ref 80), some (.int (nI (6 * k)))]) (st' := [.int (nI (6 * k) + 2), .ref am_B, .int (xs (6 * k + 1)), .ref 0]) (h' := h) 4 rfl ?_
  refine tv_top (show nI (6 * k) + 2 = nI (6 * k + 2) from nI_add (6 * k) 2) ?_
  refine tv_sc rfl hs ⟨by omega, by omega⟩ ?_
  obtain ⟨z, h1, h2, e1, e2, hn, hs1, hk1, pcr, hrt⟩ := jx_law (jx_stiff (c := (xs (6 * k + 1))) (e := (xs (6 * k + 2)))) hk hh hs
  obtain ⟨w, rfl⟩ := rt_I (by first | exact Or.inl rfl | exact Or.inr rfl) hrt
  refine tv_cvE [.int (xs (6 * k + 1)), .int (xs (6 * k + 2))] [] rfl rfl (by omega) rfl (Nat.le_of_ble_eq_true rfl) (Nat.le_of_ble_eq_true rfl) (Or.inr (Or.inr k2)) (ev_up (d := 200) (by decide) e1) ?_
  refine tv_b (pc' := 301) (ls' := [some (.ref am_B), some (.ref 0), some (.ref 80), some (.int (nI (6 * k)))]) (st' := [.int (nI (6 * k) + 1), .ref am_B, .ref 80, .int w]) (h' := h1) 5 rfl ?_
  refine tv_top (show nI (6 * k) + 1 = nI (6 * k + 1) from nI_add (6 * k) 1) ?_
  refine tv_sc rfl hs1 ⟨by omega, by omega⟩ ?_
  refine tv_b (pc' := 306) (ls' := [some (.ref am_B), some (.ref 0), some (.ref 80), some (.int (nI (6 * k)))]) (st' := [.int (nI (6 * k) + 2), .ref am_B, .int (xs (6 * k + 1)), .ref 80, .int w]) (h' := h1) 4 rfl ?_
  refine tv_top (show nI (6 * k) + 2 = nI (6 * k + 2) from nI_add (6 * k) 2) ?_
  refine tv_sc rfl hs1 ⟨by omega, by omega⟩ ?_
  refine tv_cvE [.int (xs (6 * k + 1)), .int (xs (6 * k + 2))] [.int w] rfl rfl (by omega) rfl (Nat.le_of_ble_eq_true rfl) (Nat.le_of_ble_eq_true rfl) (Or.inr (Or.inr hk1)) (ev_up (d := 200) (by decide) e2) ?_
  refine tv_b (pc' := (if w = w then 1477 else 313)) (ls' := [some (.ref am_B), some (.ref 0), some (.ref 80), some (.int (nI (6 * k)))]) (st' := []) (h' := h2) 1 rfl ?_
  refine tv_t rfl ?_
  exact hnext h2 hn.1 hn.2
theorem lw_c3 {k Ln : Nat} {xs : Nat → Int32} {h : am_H} (hk : k ≤ 512) (hi : 6 * k + 6 ≤ Ln) (hL : Ln ≤ 3072) (hh : hInv k h) (hs : scr Ln xs h) {P : Option Value → am_H → Prop} (hnext : ∀ h2, hInv (k + 1) h2 → scr Ln xs h2 → am_T 300 0 1477 [some (.ref am_B), some (.ref 0), some (.ref 80), some (.int (nI (6 * k)))] [] h2 P) : am_T 300 0 315 [some (.ref am_B), some (.ref 0), some (.ref 80), some (.int (nI (6 * k)))] [] h P := by
  obtain ⟨k1, k2, k3, k4, k5⟩ := hInv_k hh
  refine tv_b (pc' := 320) (ls' := [some (.ref am_B), some (.ref 0), some (.ref 80), some (.int (nI (6 * k)))]) (st' := [.int (nI (6 * k) + 1), .ref am_B, .ref 0]) (h' := h) 5 rfl ?_
  refine tv_top (show nI (6 * k) + 1 = nI (6 * k + 1) from nI_add (6 * k) 1) ?_
  refine tv_sc rfl hs ⟨by omega, by omega⟩ ?_
  refine tv_b (pc' := 325) (ls' := [some (.ref am_B), some (.ref 0), some (.ref 80), some (.int (nI (6 * k)))]) (st' := [.int (nI (6 * k) + 2), .ref am_B, .int (xs (6 * k + 1)), .ref 0]) (h' := h) 4 rfl ?_
  refine tv_top (show nI (6 * k) + 2 = nI (6 * k + 2) from nI_add (6 * k) 2) ?_
  refine tv_sc rfl hs ⟨by omega, by omega⟩ ?_
  refine tv_b (pc' := 330) (ls' := [some (.ref am_B), some (.ref 0), some (.ref 80), some (.int (nI (6 * k)))]) (st' := [.int (nI (6 * k) + 3), .ref am_B, .int (xs (6 * k + 2)), .int (xs (6 * k + 1)), .ref 0]) (h' := h) 4 rfl ?_
  refine tv_top (show nI (6 * k) + 3 = nI (6 * k + 3) from nI_add (6 * k) 3) ?_
  refine tv_sc rfl hs ⟨by omega, by omega⟩ ?_
  refine tv_b (pc' := 335) (ls' := [some (.ref am_B), some (.ref 0), some (.ref 80), some (.int (nI (6 * k)))]) (st' := [.int (nI (6 * k) + 4), .ref am_B, .int (xs (6 * k + 3)), .int (xs (6 * k + 2)), .int (xs (6 * k + 1)), .ref 0]) (h' := h) 4 rfl ?_
  refine tv_top (show nI (6 * k) + 4 = nI (6 * k + 4) from nI_add (6 * k) 4) ?_
  refine tv_sc rfl hs ⟨by omega, by omega⟩ ?_
  obtain ⟨z, h1, h2, e1, e2, hn, hs1, hk1, pcr, hrt⟩ := jx_law (jx_ring (r := (xs (6 * k + 1))) (t := (xs (6 * k + 2))) (g0 := (xs (6 * k + 3))) (c := (xs (6 * k + 4)))) hk hh hs
  obtain ⟨w, rfl⟩ := rt_I (by first | exact Or.inl rfl | exact Or.inr rfl) hrt
  refine tv_cvE [.int (xs (6 * k + 1)), .int (xs (6 * k + 2)), .int (xs (6 * k + 3)), .int (xs (6 * k + 4))] [] rfl rfl (by omega) rfl (Nat.le_of_ble_eq_true rfl) (Nat.le_of_ble_eq_true rfl) (Or.inr (Or.inr k2)) (ev_up (d := 200) (by decide) e1) ?_
  refine tv_b (pc' := 344) (ls' := [some (.ref am_B), some (.ref 0), some (.ref 80), some (.int (nI (6 * k)))]) (st' := [.int (nI (6 * k) + 1), .ref am_B, .ref 80, .int w]) (h' := h1) 5 rfl ?_
  refine tv_top (show nI (6 * k) + 1 = nI (6 * k + 1) from nI_add (6 * k) 1) ?_
  refine tv_sc rfl hs1 ⟨by omega, by omega⟩ ?_
  refine tv_b (pc' := 349) (ls' := [some (.ref am_B), some (.ref 0), some (.ref 80), some (.int (nI (6 * k)))]) (st' := [.int (nI (6 * k) + 2), .ref am_B, .int (xs (6 * k + 1)), .ref 80, .int w]) (h' := h1) 4 rfl ?_
  refine tv_top (show nI (6 * k) + 2 = nI (6 * k + 2) from nI_add (6 * k) 2) ?_
  refine tv_sc rfl hs1 ⟨by omega, by omega⟩ ?_
  refine tv_b (pc' := 354) (ls' := [some (.ref am_B), some (.ref 0), some (.ref 80), some (.int (nI (6 * k)))]) (st' := [.int (nI (6 * k) + 3), .ref am_B, .int (xs (6 * k + 2)), .int (xs (6 * k + 1)), .ref 80, .int w]) (h' := h1) 4 rfl ?_
  refine tv_top (show nI (6 * k) + 3 = nI (6 * k + 3) from nI_add (6 * k) 3) ?_
  refine tv_sc rfl hs1 ⟨by omega, by omega⟩ ?_
  refine tv_b (pc' := 359) (ls' := [some (.ref am_B), some (.ref 0), some (.ref 80), some (.int (nI (6 * k)))]) (st' := [.int (nI (6 * k) + 4), .ref am_B, .int (xs (6 * k + 3)), .int (xs (6 * k + 2)), .int (xs (6 * k + 1)), .ref 80, .int w]) (h' := h1) 4 rfl ?_
  refine tv_top (show nI (6 * k) + 4 = nI (6 * k + 4) from nI_add (6 * k) 4) ?_
  refine tv_sc rfl hs1 ⟨by omega, by omega⟩ ?_
  refine tv_cvE [.int (xs (6 * k + 1)), .int (xs (6 * k + 2)), .int (xs (6 * k + 3)), .int (xs (6 * k + 4))] [.int w] rfl rfl (by omega) rfl (Nat.le_of_ble_eq_true rfl) (Nat.le_of_ble_eq_true rfl) (Or.inr (Or.inr hk1)) (ev_up (d := 200) (by decide) e2) ?_
  refine tv_b (pc' := (if w = w then 1477 else 366)) (ls' := [some (.ref am_B), some (.ref 0), some (.ref 80), some (.int (nI (6 * k)))]) (st' := []) (h' := h2) 1 rfl ?_
  refine tv_t rfl ?_
  exact hnext h2 hn.1 hn.2
theorem lw_c4 {k Ln : Nat} {xs : Nat → Int32} {h : am_H} (hk : k ≤ 512) (hi : 6 * k + 6 ≤ Ln) (hL : Ln ≤ 3072) (hh : hInv k h) (hs : scr Ln xs h) {P : Option Value → am_H → Prop} (hnext : ∀ h2, hInv (k + 1) h2 → scr Ln xs h2 → am_T 300 0 1477 [some (.ref am_B), some (.ref 0), some (.ref 80), some (.int (nI (6 * k)))] [] h2 P) : am_T 300 0 368 [some (.ref am_B), some (.ref 0), some (.ref 80), some (.int (nI (6 * k)))] [] h P := by
  obtain ⟨k1, k2, k3, k4, k5⟩ := hInv_k hh
  refine tv_b (pc' := 373) (ls' := [some (.ref am_B), some (.ref 0), some (.ref 80), some (.int (nI (6 * k)))]) (st' := [.int (nI (6 * k) + 1), .ref am_B, .ref 0]) (h' := h) 5 rfl ?_
  refine tv_top (show nI (6 * k) + 1 = nI (6 * k + 1) from nI_add (6 * k) 1) ?_
  refine tv_sc rfl hs ⟨by omega, by omega⟩ ?_
  refine tv_b (pc' := 378) (ls' := [some (.ref am_B), some (.ref 0), some (.ref 80), some (.int (nI (6 * k)))]) (st' := [.int (nI (6 * k) + 2), .ref am_B, .int (xs (6 * k + 1)), .ref 0]) (h' := h) 4 rfl ?_
  refine tv_top (show nI (6 * k) + 2 = nI (6 * k + 2) from nI_add (6 * k) 2) ?_
  refine tv_sc rfl hs ⟨by omega, by omega⟩ ?_
  refine tv_b (pc' := 383) (ls' := [some (.ref am_B), some (.ref 0), some (.ref 80), some (.int (nI (6 * k)))]) (st' := [.int (nI (6 * k) + 3), .ref am_B, .int (xs (6 * k + 2)), .int (xs (6 * k + 1)), .ref 0]) (h' := h) 4 rfl ?_
  refine tv_top (show nI (6 * k) + 3 = nI (6 * k + 3) from nI_add (6 * k) 3) ?_
  refine tv_sc rfl hs ⟨by omega, by omega⟩ ?_
  obtain ⟨z, h1, h2, e1, e2, hn, hs1, hk1, pcr, hrt⟩ := jx_law (jx_stone (r := (xs (6 * k + 1))) (w := (xs (6 * k + 2))) (e := (xs (6 * k + 3)))) hk hh hs
  obtain ⟨w, rfl⟩ := rt_I (by first | exact Or.inl rfl | exact Or.inr rfl) hrt
  refine tv_cvE [.int (xs (6 * k + 1)), .int (xs (6 * k + 2)), .int (xs (6 * k + 3))] [] rfl rfl (by omega) rfl (Nat.le_of_ble_eq_true rfl) (Nat.le_of_ble_eq_true rfl) (Or.inr (Or.inr k2)) (ev_up (d := 200) (by decide) e1) ?_
  refine tv_b (pc' := 392) (ls' := [some (.ref am_B), some (.ref 0), some (.ref 80), some (.int (nI (6 * k)))]) (st' := [.int (nI (6 * k) + 1), .ref am_B, .ref 80, .int w]) (h' := h1) 5 rfl ?_
  refine tv_top (show nI (6 * k) + 1 = nI (6 * k + 1) from nI_add (6 * k) 1) ?_
  refine tv_sc rfl hs1 ⟨by omega, by omega⟩ ?_
  refine tv_b (pc' := 397) (ls' := [some (.ref am_B), some (.ref 0), some (.ref 80), some (.int (nI (6 * k)))]) (st' := [.int (nI (6 * k) + 2), .ref am_B, .int (xs (6 * k + 1)), .ref 80, .int w]) (h' := h1) 4 rfl ?_
  refine tv_top (show nI (6 * k) + 2 = nI (6 * k + 2) from nI_add (6 * k) 2) ?_
  refine tv_sc rfl hs1 ⟨by omega, by omega⟩ ?_
  refine tv_b (pc' := 402) (ls' := [some (.ref am_B), some (.ref 0), some (.ref 80), some (.int (nI (6 * k)))]) (st' := [.int (nI (6 * k) + 3), .ref am_B, .int (xs (6 * k + 2)), .int (xs (6 * k + 1)), .ref 80, .int w]) (h' := h1) 4 rfl ?_
  refine tv_top (show nI (6 * k) + 3 = nI (6 * k + 3) from nI_add (6 * k) 3) ?_
  refine tv_sc rfl hs1 ⟨by omega, by omega⟩ ?_
  refine tv_cvE [.int (xs (6 * k + 1)), .int (xs (6 * k + 2)), .int (xs (6 * k + 3))] [.int w] rfl rfl (by omega) rfl (Nat.le_of_ble_eq_true rfl) (Nat.le_of_ble_eq_true rfl) (Or.inr (Or.inr hk1)) (ev_up (d := 200) (by decide) e2) ?_
  refine tv_b (pc' := (if w = w then 1477 else 409)) (ls' := [some (.ref am_B), some (.ref 0), some (.ref 80), some (.int (nI (6 * k)))]) (st' := []) (h' := h2) 1 rfl ?_
  refine tv_t rfl ?_
  exact hnext h2 hn.1 hn.2
theorem lw_c5 {k Ln : Nat} {xs : Nat → Int32} {h : am_H} (hk : k ≤ 512) (hi : 6 * k + 6 ≤ Ln) (hL : Ln ≤ 3072) (hh : hInv k h) (hs : scr Ln xs h) {P : Option Value → am_H → Prop} (hnext : ∀ h2, hInv (k + 1) h2 → scr Ln xs h2 → am_T 300 0 1477 [some (.ref am_B), some (.ref 0), some (.ref 80), some (.int (nI (6 * k)))] [] h2 P) : am_T 300 0 411 [some (.ref am_B), some (.ref 0), some (.ref 80), some (.int (nI (6 * k)))] [] h P := by
  obtain ⟨k1, k2, k3, k4, k5⟩ := hInv_k hh
  refine tv_b (pc' := 416) (ls' := [some (.ref am_B), some (.ref 0), some (.ref 80), some (.int (nI (6 * k)))]) (st' := [.int (nI (6 * k) + 1), .ref am_B, .ref 0]) (h' := h) 5 rfl ?_
  refine tv_top (show nI (6 * k) + 1 = nI (6 * k + 1) from nI_add (6 * k) 1) ?_
  refine tv_sc rfl hs ⟨by omega, by omega⟩ ?_
  refine tv_b (pc' := 421) (ls' := [some (.ref am_B), some (.ref 0), some (.ref 80), some (.int (nI (6 * k)))]) (st' := [.int (nI (6 * k) + 2), .ref am_B, .int (xs (6 * k + 1)), .ref 0]) (h' := h) 4 rfl ?_
  refine tv_top (show nI (6 * k) + 2 = nI (6 * k + 2) from nI_add (6 * k) 2) ?_
  refine tv_sc rfl hs ⟨by omega, by omega⟩ ?_
  obtain ⟨z, h1, h2, e1, e2, hn, hs1, hk1, pcr, hrt⟩ := jx_law (jx_water (x := (xs (6 * k + 1))) (e := (xs (6 * k + 2)))) hk hh hs
  obtain ⟨w, rfl⟩ := rt_I (by first | exact Or.inl rfl | exact Or.inr rfl) hrt
  refine tv_cvE [.int (xs (6 * k + 1)), .int (xs (6 * k + 2))] [] rfl rfl (by omega) rfl (Nat.le_of_ble_eq_true rfl) (Nat.le_of_ble_eq_true rfl) (Or.inr (Or.inr k2)) (ev_up (d := 200) (by decide) e1) ?_
  refine tv_b (pc' := 430) (ls' := [some (.ref am_B), some (.ref 0), some (.ref 80), some (.int (nI (6 * k)))]) (st' := [.int (nI (6 * k) + 1), .ref am_B, .ref 80, .int w]) (h' := h1) 5 rfl ?_
  refine tv_top (show nI (6 * k) + 1 = nI (6 * k + 1) from nI_add (6 * k) 1) ?_
  refine tv_sc rfl hs1 ⟨by omega, by omega⟩ ?_
  refine tv_b (pc' := 435) (ls' := [some (.ref am_B), some (.ref 0), some (.ref 80), some (.int (nI (6 * k)))]) (st' := [.int (nI (6 * k) + 2), .ref am_B, .int (xs (6 * k + 1)), .ref 80, .int w]) (h' := h1) 4 rfl ?_
  refine tv_top (show nI (6 * k) + 2 = nI (6 * k + 2) from nI_add (6 * k) 2) ?_
  refine tv_sc rfl hs1 ⟨by omega, by omega⟩ ?_
  refine tv_cvE [.int (xs (6 * k + 1)), .int (xs (6 * k + 2))] [.int w] rfl rfl (by omega) rfl (Nat.le_of_ble_eq_true rfl) (Nat.le_of_ble_eq_true rfl) (Or.inr (Or.inr hk1)) (ev_up (d := 200) (by decide) e2) ?_
  refine tv_b (pc' := (if w = w then 1477 else 442)) (ls' := [some (.ref am_B), some (.ref 0), some (.ref 80), some (.int (nI (6 * k)))]) (st' := []) (h' := h2) 1 rfl ?_
  refine tv_t rfl ?_
  exact hnext h2 hn.1 hn.2
theorem lw_c6 {k Ln : Nat} {xs : Nat → Int32} {h : am_H} (hk : k ≤ 512) (hi : 6 * k + 6 ≤ Ln) (hL : Ln ≤ 3072) (hh : hInv k h) (hs : scr Ln xs h) {P : Option Value → am_H → Prop} (hnext : ∀ h2, hInv (k + 1) h2 → scr Ln xs h2 → am_T 300 0 1477 [some (.ref am_B), some (.ref 0), some (.ref 80), some (.int (nI (6 * k)))] [] h2 P) : am_T 300 0 444 [some (.ref am_B), some (.ref 0), some (.ref 80), some (.int (nI (6 * k)))] [] h P := by
  obtain ⟨k1, k2, k3, k4, k5⟩ := hInv_k hh
  refine tv_b (pc' := 449) (ls' := [some (.ref am_B), some (.ref 0), some (.ref 80), some (.int (nI (6 * k)))]) (st' := [.int (nI (6 * k) + 1), .ref am_B, .ref 0]) (h' := h) 5 rfl ?_
  refine tv_top (show nI (6 * k) + 1 = nI (6 * k + 1) from nI_add (6 * k) 1) ?_
  refine tv_sc rfl hs ⟨by omega, by omega⟩ ?_
  refine tv_b (pc' := 454) (ls' := [some (.ref am_B), some (.ref 0), some (.ref 80), some (.int (nI (6 * k)))]) (st' := [.int (nI (6 * k) + 2), .ref am_B, .int (xs (6 * k + 1)), .ref 0]) (h' := h) 4 rfl ?_
  refine tv_top (show nI (6 * k) + 2 = nI (6 * k + 2) from nI_add (6 * k) 2) ?_
  refine tv_sc rfl hs ⟨by omega, by omega⟩ ?_
  obtain ⟨z, h1, h2, e1, e2, hn, hs1, hk1, pcr, hrt⟩ := jx_law (jx_warmth (x := (xs (6 * k + 1))) (e := (xs (6 * k + 2)))) hk hh hs
  obtain ⟨w, rfl⟩ := rt_I (by first | exact Or.inl rfl | exact Or.inr rfl) hrt
  refine tv_cvE [.int (xs (6 * k + 1)), .int (xs (6 * k + 2))] [] rfl rfl (by omega) rfl (Nat.le_of_ble_eq_true rfl) (Nat.le_of_ble_eq_true rfl) (Or.inr (Or.inr k2)) (ev_up (d := 200) (by decide) e1) ?_
  refine tv_b (pc' := 463) (ls' := [some (.ref am_B), some (.ref 0), some (.ref 80), some (.int (nI (6 * k)))]) (st' := [.int (nI (6 * k) + 1), .ref am_B, .ref 80, .int w]) (h' := h1) 5 rfl ?_
  refine tv_top (show nI (6 * k) + 1 = nI (6 * k + 1) from nI_add (6 * k) 1) ?_
  refine tv_sc rfl hs1 ⟨by omega, by omega⟩ ?_
  refine tv_b (pc' := 468) (ls' := [some (.ref am_B), some (.ref 0), some (.ref 80), some (.int (nI (6 * k)))]) (st' := [.int (nI (6 * k) + 2), .ref am_B, .int (xs (6 * k + 1)), .ref 80, .int w]) (h' := h1) 4 rfl ?_
  refine tv_top (show nI (6 * k) + 2 = nI (6 * k + 2) from nI_add (6 * k) 2) ?_
  refine tv_sc rfl hs1 ⟨by omega, by omega⟩ ?_
  refine tv_cvE [.int (xs (6 * k + 1)), .int (xs (6 * k + 2))] [.int w] rfl rfl (by omega) rfl (Nat.le_of_ble_eq_true rfl) (Nat.le_of_ble_eq_true rfl) (Or.inr (Or.inr hk1)) (ev_up (d := 200) (by decide) e2) ?_
  refine tv_b (pc' := (if w = w then 1477 else 475)) (ls' := [some (.ref am_B), some (.ref 0), some (.ref 80), some (.int (nI (6 * k)))]) (st' := []) (h' := h2) 1 rfl ?_
  refine tv_t rfl ?_
  exact hnext h2 hn.1 hn.2
theorem lw_c7 {k Ln : Nat} {xs : Nat → Int32} {h : am_H} (hk : k ≤ 512) (hi : 6 * k + 6 ≤ Ln) (hL : Ln ≤ 3072) (hh : hInv k h) (hs : scr Ln xs h) {P : Option Value → am_H → Prop} (hnext : ∀ h2, hInv (k + 1) h2 → scr Ln xs h2 → am_T 300 0 1477 [some (.ref am_B), some (.ref 0), some (.ref 80), some (.int (nI (6 * k)))] [] h2 P) : am_T 300 0 477 [some (.ref am_B), some (.ref 0), some (.ref 80), some (.int (nI (6 * k)))] [] h P := by
  obtain ⟨k1, k2, k3, k4, k5⟩ := hInv_k hh
  refine tv_b (pc' := 482) (ls' := [some (.ref am_B), some (.ref 0), some (.ref 80), some (.int (nI (6 * k)))]) (st' := [.int (nI (6 * k) + 1), .ref am_B, .ref 0]) (h' := h) 5 rfl ?_
  refine tv_top (show nI (6 * k) + 1 = nI (6 * k + 1) from nI_add (6 * k) 1) ?_
  refine tv_sc rfl hs ⟨by omega, by omega⟩ ?_
  refine tv_b (pc' := 487) (ls' := [some (.ref am_B), some (.ref 0), some (.ref 80), some (.int (nI (6 * k)))]) (st' := [.int (nI (6 * k) + 2), .ref am_B, .int (xs (6 * k + 1)), .ref 0]) (h' := h) 4 rfl ?_
  refine tv_top (show nI (6 * k) + 2 = nI (6 * k + 2) from nI_add (6 * k) 2) ?_
  refine tv_sc rfl hs ⟨by omega, by omega⟩ ?_
  refine tv_b (pc' := 492) (ls' := [some (.ref am_B), some (.ref 0), some (.ref 80), some (.int (nI (6 * k)))]) (st' := [.int (nI (6 * k) + 3), .ref am_B, .int (xs (6 * k + 2)), .int (xs (6 * k + 1)), .ref 0]) (h' := h) 4 rfl ?_
  refine tv_top (show nI (6 * k) + 3 = nI (6 * k + 3) from nI_add (6 * k) 3) ?_
  refine tv_sc rfl hs ⟨by omega, by omega⟩ ?_
  refine tv_b (pc' := 497) (ls' := [some (.ref am_B), some (.ref 0), some (.ref 80), some (.int (nI (6 * k)))]) (st' := [.int (nI (6 * k) + 4), .ref am_B, .int (xs (6 * k + 3)), .int (xs (6 * k + 2)), .int (xs (6 * k + 1)), .ref 0]) (h' := h) 4 rfl ?_
  refine tv_top (show nI (6 * k) + 4 = nI (6 * k + 4) from nI_add (6 * k) 4) ?_
  refine tv_sc rfl hs ⟨by omega, by omega⟩ ?_
  obtain ⟨z, h1, h2, e1, e2, hn, hs1, hk1, pcr, hrt⟩ := jx_law (jx_gauge (g0 := (xs (6 * k + 1))) (s := (xs (6 * k + 2))) (r := (xs (6 * k + 3))) (e := (xs (6 * k + 4)))) hk hh hs
  obtain ⟨w, rfl⟩ := rt_I (by first | exact Or.inl rfl | exact Or.inr rfl) hrt
  refine tv_cvE [.int (xs (6 * k + 1)), .int (xs (6 * k + 2)), .int (xs (6 * k + 3)), .int (xs (6 * k + 4))] [] rfl rfl (by omega) rfl (Nat.le_of_ble_eq_true rfl) (Nat.le_of_ble_eq_true rfl) (Or.inr (Or.inr k2)) (ev_up (d := 200) (by decide) e1) ?_
  refine tv_b (pc' := 506) (ls' := [some (.ref am_B), some (.ref 0), some (.ref 80), some (.int (nI (6 * k)))]) (st' := [.int (nI (6 * k) + 1), .ref am_B, .ref 80, .int w]) (h' := h1) 5 rfl ?_
  refine tv_top (show nI (6 * k) + 1 = nI (6 * k + 1) from nI_add (6 * k) 1) ?_
  refine tv_sc rfl hs1 ⟨by omega, by omega⟩ ?_
  refine tv_b (pc' := 511) (ls' := [some (.ref am_B), some (.ref 0), some (.ref 80), some (.int (nI (6 * k)))]) (st' := [.int (nI (6 * k) + 2), .ref am_B, .int (xs (6 * k + 1)), .ref 80, .int w]) (h' := h1) 4 rfl ?_
  refine tv_top (show nI (6 * k) + 2 = nI (6 * k + 2) from nI_add (6 * k) 2) ?_
  refine tv_sc rfl hs1 ⟨by omega, by omega⟩ ?_
  refine tv_b (pc' := 516) (ls' := [some (.ref am_B), some (.ref 0), some (.ref 80), some (.int (nI (6 * k)))]) (st' := [.int (nI (6 * k) + 3), .ref am_B, .int (xs (6 * k + 2)), .int (xs (6 * k + 1)), .ref 80, .int w]) (h' := h1) 4 rfl ?_
  refine tv_top (show nI (6 * k) + 3 = nI (6 * k + 3) from nI_add (6 * k) 3) ?_
  refine tv_sc rfl hs1 ⟨by omega, by omega⟩ ?_
  refine tv_b (pc' := 521) (ls' := [some (.ref am_B), some (.ref 0), some (.ref 80), some (.int (nI (6 * k)))]) (st' := [.int (nI (6 * k) + 4), .ref am_B, .int (xs (6 * k + 3)), .int (xs (6 * k + 2)), .int (xs (6 * k + 1)), .ref 80, .int w]) (h' := h1) 4 rfl ?_
  refine tv_top (show nI (6 * k) + 4 = nI (6 * k + 4) from nI_add (6 * k) 4) ?_
  refine tv_sc rfl hs1 ⟨by omega, by omega⟩ ?_
  refine tv_cvE [.int (xs (6 * k + 1)), .int (xs (6 * k + 2)), .int (xs (6 * k + 3)), .int (xs (6 * k + 4))] [.int w] rfl rfl (by omega) rfl (Nat.le_of_ble_eq_true rfl) (Nat.le_of_ble_eq_true rfl) (Or.inr (Or.inr hk1)) (ev_up (d := 200) (by decide) e2) ?_
  refine tv_b (pc' := (if w = w then 1477 else 528)) (ls' := [some (.ref am_B), some (.ref 0), some (.ref 80), some (.int (nI (6 * k)))]) (st' := []) (h' := h2) 1 rfl ?_
  refine tv_t rfl ?_
  exact hnext h2 hn.1 hn.2
theorem lw_c8 {k Ln : Nat} {xs : Nat → Int32} {h : am_H} (hk : k ≤ 512) (hi : 6 * k + 6 ≤ Ln) (hL : Ln ≤ 3072) (hh : hInv k h) (hs : scr Ln xs h) {P : Option Value → am_H → Prop} (hnext : ∀ h2, hInv (k + 1) h2 → scr Ln xs h2 → am_T 300 0 1477 [some (.ref am_B), some (.ref 0), some (.ref 80), some (.int (nI (6 * k)))] [] h2 P) : am_T 300 0 530 [some (.ref am_B), some (.ref 0), some (.ref 80), some (.int (nI (6 * k)))] [] h P := by
  obtain ⟨k1, k2, k3, k4, k5⟩ := hInv_k hh
  refine tv_b (pc' := 535) (ls' := [some (.ref am_B), some (.ref 0), some (.ref 80), some (.int (nI (6 * k)))]) (st' := [.int (nI (6 * k) + 1), .ref am_B, .ref 0]) (h' := h) 5 rfl ?_
  refine tv_top (show nI (6 * k) + 1 = nI (6 * k + 1) from nI_add (6 * k) 1) ?_
  refine tv_sc rfl hs ⟨by omega, by omega⟩ ?_
  refine tv_b (pc' := 540) (ls' := [some (.ref am_B), some (.ref 0), some (.ref 80), some (.int (nI (6 * k)))]) (st' := [.int (nI (6 * k) + 2), .ref am_B, .int (xs (6 * k + 1)), .ref 0]) (h' := h) 4 rfl ?_
  refine tv_top (show nI (6 * k) + 2 = nI (6 * k + 2) from nI_add (6 * k) 2) ?_
  refine tv_sc rfl hs ⟨by omega, by omega⟩ ?_
  refine tv_b (pc' := 545) (ls' := [some (.ref am_B), some (.ref 0), some (.ref 80), some (.int (nI (6 * k)))]) (st' := [.int (nI (6 * k) + 3), .ref am_B, .int (xs (6 * k + 2)), .int (xs (6 * k + 1)), .ref 0]) (h' := h) 4 rfl ?_
  refine tv_top (show nI (6 * k) + 3 = nI (6 * k + 3) from nI_add (6 * k) 3) ?_
  refine tv_sc rfl hs ⟨by omega, by omega⟩ ?_
  refine tv_b (pc' := 550) (ls' := [some (.ref am_B), some (.ref 0), some (.ref 80), some (.int (nI (6 * k)))]) (st' := [.int (nI (6 * k) + 4), .ref am_B, .int (xs (6 * k + 3)), .int (xs (6 * k + 2)), .int (xs (6 * k + 1)), .ref 0]) (h' := h) 4 rfl ?_
  refine tv_top (show nI (6 * k) + 4 = nI (6 * k + 4) from nI_add (6 * k) 4) ?_
  refine tv_sc rfl hs ⟨by omega, by omega⟩ ?_
  obtain ⟨z, h1, h2, e1, e2, hn, hs1, hk1, pcr, hrt⟩ := jx_law (jx_lead (t := (xs (6 * k + 1))) (a := (xs (6 * k + 2))) (x := (xs (6 * k + 3))) (c := (xs (6 * k + 4)))) hk hh hs
  obtain ⟨w, rfl⟩ := rt_I (by first | exact Or.inl rfl | exact Or.inr rfl) hrt
  refine tv_cvE [.int (xs (6 * k + 1)), .int (xs (6 * k + 2)), .int (xs (6 * k + 3)), .int (xs (6 * k + 4))] [] rfl rfl (by omega) rfl (Nat.le_of_ble_eq_true rfl) (Nat.le_of_ble_eq_true rfl) (Or.inr (Or.inr k2)) (ev_up (d := 200) (by decide) e1) ?_
  refine tv_b (pc' := 559) (ls' := [some (.ref am_B), some (.ref 0), some (.ref 80), some (.int (nI (6 * k)))]) (st' := [.int (nI (6 * k) + 1), .ref am_B, .ref 80, .int w]) (h' := h1) 5 rfl ?_
  refine tv_top (show nI (6 * k) + 1 = nI (6 * k + 1) from nI_add (6 * k) 1) ?_
  refine tv_sc rfl hs1 ⟨by omega, by omega⟩ ?_
  refine tv_b (pc' := 564) (ls' := [some (.ref am_B), some (.ref 0), some (.ref 80), some (.int (nI (6 * k)))]) (st' := [.int (nI (6 * k) + 2), .ref am_B, .int (xs (6 * k + 1)), .ref 80, .int w]) (h' := h1) 4 rfl ?_
  refine tv_top (show nI (6 * k) + 2 = nI (6 * k + 2) from nI_add (6 * k) 2) ?_
  refine tv_sc rfl hs1 ⟨by omega, by omega⟩ ?_
  refine tv_b (pc' := 569) (ls' := [some (.ref am_B), some (.ref 0), some (.ref 80), some (.int (nI (6 * k)))]) (st' := [.int (nI (6 * k) + 3), .ref am_B, .int (xs (6 * k + 2)), .int (xs (6 * k + 1)), .ref 80, .int w]) (h' := h1) 4 rfl ?_
  refine tv_top (show nI (6 * k) + 3 = nI (6 * k + 3) from nI_add (6 * k) 3) ?_
  refine tv_sc rfl hs1 ⟨by omega, by omega⟩ ?_
  refine tv_b (pc' := 574) (ls' := [some (.ref am_B), some (.ref 0), some (.ref 80), some (.int (nI (6 * k)))]) (st' := [.int (nI (6 * k) + 4), .ref am_B, .int (xs (6 * k + 3)), .int (xs (6 * k + 2)), .int (xs (6 * k + 1)), .ref 80, .int w]) (h' := h1) 4 rfl ?_
  refine tv_top (show nI (6 * k) + 4 = nI (6 * k + 4) from nI_add (6 * k) 4) ?_
  refine tv_sc rfl hs1 ⟨by omega, by omega⟩ ?_
  refine tv_cvE [.int (xs (6 * k + 1)), .int (xs (6 * k + 2)), .int (xs (6 * k + 3)), .int (xs (6 * k + 4))] [.int w] rfl rfl (by omega) rfl (Nat.le_of_ble_eq_true rfl) (Nat.le_of_ble_eq_true rfl) (Or.inr (Or.inr hk1)) (ev_up (d := 200) (by decide) e2) ?_
  refine tv_b (pc' := (if w = w then 1477 else 581)) (ls' := [some (.ref am_B), some (.ref 0), some (.ref 80), some (.int (nI (6 * k)))]) (st' := []) (h' := h2) 1 rfl ?_
  refine tv_t rfl ?_
  exact hnext h2 hn.1 hn.2
theorem lw_c9 {k Ln : Nat} {xs : Nat → Int32} {h : am_H} (hk : k ≤ 512) (hi : 6 * k + 6 ≤ Ln) (hL : Ln ≤ 3072) (hh : hInv k h) (hs : scr Ln xs h) {P : Option Value → am_H → Prop} (hnext : ∀ h2, hInv (k + 1) h2 → scr Ln xs h2 → am_T 300 0 1477 [some (.ref am_B), some (.ref 0), some (.ref 80), some (.int (nI (6 * k)))] [] h2 P) : am_T 300 0 583 [some (.ref am_B), some (.ref 0), some (.ref 80), some (.int (nI (6 * k)))] [] h P := by
  obtain ⟨k1, k2, k3, k4, k5⟩ := hInv_k hh
  refine tv_b (pc' := 588) (ls' := [some (.ref am_B), some (.ref 0), some (.ref 80), some (.int (nI (6 * k)))]) (st' := [.int (nI (6 * k) + 1), .ref am_B, .ref 0]) (h' := h) 5 rfl ?_
  refine tv_top (show nI (6 * k) + 1 = nI (6 * k + 1) from nI_add (6 * k) 1) ?_
  refine tv_sc rfl hs ⟨by omega, by omega⟩ ?_
  refine tv_b (pc' := 593) (ls' := [some (.ref am_B), some (.ref 0), some (.ref 80), some (.int (nI (6 * k)))]) (st' := [.int (nI (6 * k) + 2), .ref am_B, .int (xs (6 * k + 1)), .ref 0]) (h' := h) 4 rfl ?_
  refine tv_top (show nI (6 * k) + 2 = nI (6 * k + 2) from nI_add (6 * k) 2) ?_
  refine tv_sc rfl hs ⟨by omega, by omega⟩ ?_
  refine tv_b (pc' := 598) (ls' := [some (.ref am_B), some (.ref 0), some (.ref 80), some (.int (nI (6 * k)))]) (st' := [.int (nI (6 * k) + 3), .ref am_B, .int (xs (6 * k + 2)), .int (xs (6 * k + 1)), .ref 0]) (h' := h) 4 rfl ?_
  refine tv_top (show nI (6 * k) + 3 = nI (6 * k + 3) from nI_add (6 * k) 3) ?_
  refine tv_sc rfl hs ⟨by omega, by omega⟩ ?_
  obtain ⟨z, h1, h2, e1, e2, hn, hs1, hk1, pcr, hrt⟩ := jx_law (jx_pipe (x := (xs (6 * k + 1))) (c := (xs (6 * k + 2))) (l := (xs (6 * k + 3)))) hk hh hs
  obtain ⟨w, rfl⟩ := rt_I (by first | exact Or.inl rfl | exact Or.inr rfl) hrt
  refine tv_cvE [.int (xs (6 * k + 1)), .int (xs (6 * k + 2)), .int (xs (6 * k + 3))] [] rfl rfl (by omega) rfl (Nat.le_of_ble_eq_true rfl) (Nat.le_of_ble_eq_true rfl) (Or.inr (Or.inr k2)) (ev_up (d := 200) (by decide) e1) ?_
  refine tv_b (pc' := 607) (ls' := [some (.ref am_B), some (.ref 0), some (.ref 80), some (.int (nI (6 * k)))]) (st' := [.int (nI (6 * k) + 1), .ref am_B, .ref 80, .int w]) (h' := h1) 5 rfl ?_
  refine tv_top (show nI (6 * k) + 1 = nI (6 * k + 1) from nI_add (6 * k) 1) ?_
  refine tv_sc rfl hs1 ⟨by omega, by omega⟩ ?_
  refine tv_b (pc' := 612) (ls' := [some (.ref am_B), some (.ref 0), some (.ref 80), some (.int (nI (6 * k)))]) (st' := [.int (nI (6 * k) + 2), .ref am_B, .int (xs (6 * k + 1)), .ref 80, .int w]) (h' := h1) 4 rfl ?_
  refine tv_top (show nI (6 * k) + 2 = nI (6 * k + 2) from nI_add (6 * k) 2) ?_
  refine tv_sc rfl hs1 ⟨by omega, by omega⟩ ?_
  refine tv_b (pc' := 617) (ls' := [some (.ref am_B), some (.ref 0), some (.ref 80), some (.int (nI (6 * k)))]) (st' := [.int (nI (6 * k) + 3), .ref am_B, .int (xs (6 * k + 2)), .int (xs (6 * k + 1)), .ref 80, .int w]) (h' := h1) 4 rfl ?_
  refine tv_top (show nI (6 * k) + 3 = nI (6 * k + 3) from nI_add (6 * k) 3) ?_
  refine tv_sc rfl hs1 ⟨by omega, by omega⟩ ?_
  refine tv_cvE [.int (xs (6 * k + 1)), .int (xs (6 * k + 2)), .int (xs (6 * k + 3))] [.int w] rfl rfl (by omega) rfl (Nat.le_of_ble_eq_true rfl) (Nat.le_of_ble_eq_true rfl) (Or.inr (Or.inr hk1)) (ev_up (d := 200) (by decide) e2) ?_
  refine tv_b (pc' := (if w = w then 1477 else 624)) (ls' := [some (.ref am_B), some (.ref 0), some (.ref 80), some (.int (nI (6 * k)))]) (st' := []) (h' := h2) 1 rfl ?_
  refine tv_t rfl ?_
  exact hnext h2 hn.1 hn.2
theorem lw_c10 {k Ln : Nat} {xs : Nat → Int32} {h : am_H} (hk : k ≤ 512) (hi : 6 * k + 6 ≤ Ln) (hL : Ln ≤ 3072) (hh : hInv k h) (hs : scr Ln xs h) {P : Option Value → am_H → Prop} (hnext : ∀ h2, hInv (k + 1) h2 → scr Ln xs h2 → am_T 300 0 1477 [some (.ref am_B), some (.ref 0), some (.ref 80), some (.int (nI (6 * k)))] [] h2 P) : am_T 300 0 626 [some (.ref am_B), some (.ref 0), some (.ref 80), some (.int (nI (6 * k)))] [] h P := by
  obtain ⟨k1, k2, k3, k4, k5⟩ := hInv_k hh
  refine tv_b (pc' := 631) (ls' := [some (.ref am_B), some (.ref 0), some (.ref 80), some (.int (nI (6 * k)))]) (st' := [.int (nI (6 * k) + 1), .ref am_B, .ref 0]) (h' := h) 5 rfl ?_
  refine tv_top (show nI (6 * k) + 1 = nI (6 * k + 1) from nI_add (6 * k) 1) ?_
  refine tv_sc rfl hs ⟨by omega, by omega⟩ ?_
  refine tv_b (pc' := 636) (ls' := [some (.ref am_B), some (.ref 0), some (.ref 80), some (.int (nI (6 * k)))]) (st' := [.int (nI (6 * k) + 2), .ref am_B, .int (xs (6 * k + 1)), .ref 0]) (h' := h) 4 rfl ?_
  refine tv_top (show nI (6 * k) + 2 = nI (6 * k + 2) from nI_add (6 * k) 2) ?_
  refine tv_sc rfl hs ⟨by omega, by omega⟩ ?_
  obtain ⟨z, h1, h2, e1, e2, hn, hs1, hk1, pcr, hrt⟩ := jx_law (jx_frost (x := (xs (6 * k + 1))) (c := (xs (6 * k + 2)))) hk hh hs
  obtain ⟨w, rfl⟩ := rt_I (by first | exact Or.inl rfl | exact Or.inr rfl) hrt
  refine tv_cvE [.int (xs (6 * k + 1)), .int (xs (6 * k + 2))] [] rfl rfl (by omega) rfl (Nat.le_of_ble_eq_true rfl) (Nat.le_of_ble_eq_true rfl) (Or.inr (Or.inr k2)) (ev_up (d := 200) (by decide) e1) ?_
  refine tv_b (pc' := 645) (ls' := [some (.ref am_B), some (.ref 0), some (.ref 80), some (.int (nI (6 * k)))]) (st' := [.int (nI (6 * k) + 1), .ref am_B, .ref 80, .int w]) (h' := h1) 5 rfl ?_
  refine tv_top (show nI (6 * k) + 1 = nI (6 * k + 1) from nI_add (6 * k) 1) ?_
  refine tv_sc rfl hs1 ⟨by omega, by omega⟩ ?_
  refine tv_b (pc' := 650) (ls' := [some (.ref am_B), some (.ref 0), some (.ref 80), some (.int (nI (6 * k)))]) (st' := [.int (nI (6 * k) + 2), .ref am_B, .int (xs (6 * k + 1)), .ref 80, .int w]) (h' := h1) 4 rfl ?_
  refine tv_top (show nI (6 * k) + 2 = nI (6 * k + 2) from nI_add (6 * k) 2) ?_
  refine tv_sc rfl hs1 ⟨by omega, by omega⟩ ?_
  refine tv_cvE [.int (xs (6 * k + 1)), .int (xs (6 * k + 2))] [.int w] rfl rfl (by omega) rfl (Nat.le_of_ble_eq_true rfl) (Nat.le_of_ble_eq_true rfl) (Or.inr (Or.inr hk1)) (ev_up (d := 200) (by decide) e2) ?_
  refine tv_b (pc' := (if w = w then 1477 else 657)) (ls' := [some (.ref am_B), some (.ref 0), some (.ref 80), some (.int (nI (6 * k)))]) (st' := []) (h' := h2) 1 rfl ?_
  refine tv_t rfl ?_
  exact hnext h2 hn.1 hn.2
theorem lw_c11 {k Ln : Nat} {xs : Nat → Int32} {h : am_H} (hk : k ≤ 512) (hi : 6 * k + 6 ≤ Ln) (hL : Ln ≤ 3072) (hh : hInv k h) (hs : scr Ln xs h) {P : Option Value → am_H → Prop} (hnext : ∀ h2, hInv (k + 1) h2 → scr Ln xs h2 → am_T 300 0 1477 [some (.ref am_B), some (.ref 0), some (.ref 80), some (.int (nI (6 * k)))] [] h2 P) : am_T 300 0 659 [some (.ref am_B), some (.ref 0), some (.ref 80), some (.int (nI (6 * k)))] [] h P := by
  obtain ⟨k1, k2, k3, k4, k5⟩ := hInv_k hh
  refine tv_b (pc' := 664) (ls' := [some (.ref am_B), some (.ref 0), some (.ref 80), some (.int (nI (6 * k)))]) (st' := [.int (nI (6 * k) + 1), .ref am_B, .ref 0]) (h' := h) 5 rfl ?_
  refine tv_top (show nI (6 * k) + 1 = nI (6 * k + 1) from nI_add (6 * k) 1) ?_
  refine tv_sc rfl hs ⟨by omega, by omega⟩ ?_
  refine tv_b (pc' := 669) (ls' := [some (.ref am_B), some (.ref 0), some (.ref 80), some (.int (nI (6 * k)))]) (st' := [.int (nI (6 * k) + 2), .ref am_B, .int (xs (6 * k + 1)), .ref 0]) (h' := h) 4 rfl ?_
  refine tv_top (show nI (6 * k) + 2 = nI (6 * k + 2) from nI_add (6 * k) 2) ?_
  refine tv_sc rfl hs ⟨by omega, by omega⟩ ?_
  refine tv_b (pc' := 674) (ls' := [some (.ref am_B), some (.ref 0), some (.ref 80), some (.int (nI (6 * k)))]) (st' := [.int (nI (6 * k) + 3), .ref am_B, .int (xs (6 * k + 2)), .int (xs (6 * k + 1)), .ref 0]) (h' := h) 4 rfl ?_
  refine tv_top (show nI (6 * k) + 3 = nI (6 * k + 3) from nI_add (6 * k) 3) ?_
  refine tv_sc rfl hs ⟨by omega, by omega⟩ ?_
  obtain ⟨z, h1, h2, e1, e2, hn, hs1, hk1, pcr, hrt⟩ := jx_law (jx_reading (g0 := (xs (6 * k + 1))) (x := (xs (6 * k + 2))) (e0 := (xs (6 * k + 3)))) hk hh hs
  obtain ⟨w, rfl⟩ := rt_I (by first | exact Or.inl rfl | exact Or.inr rfl) hrt
  refine tv_cvE [.int (xs (6 * k + 1)), .int (xs (6 * k + 2)), .int (xs (6 * k + 3))] [] rfl rfl (by omega) rfl (Nat.le_of_ble_eq_true rfl) (Nat.le_of_ble_eq_true rfl) (Or.inr (Or.inr k2)) (ev_up (d := 200) (by decide) e1) ?_
  refine tv_b (pc' := 683) (ls' := [some (.ref am_B), some (.ref 0), some (.ref 80), some (.int (nI (6 * k)))]) (st' := [.int (nI (6 * k) + 1), .ref am_B, .ref 80, .int w]) (h' := h1) 5 rfl ?_
  refine tv_top (show nI (6 * k) + 1 = nI (6 * k + 1) from nI_add (6 * k) 1) ?_
  refine tv_sc rfl hs1 ⟨by omega, by omega⟩ ?_
  refine tv_b (pc' := 688) (ls' := [some (.ref am_B), some (.ref 0), some (.ref 80), some (.int (nI (6 * k)))]) (st' := [.int (nI (6 * k) + 2), .ref am_B, .int (xs (6 * k + 1)), .ref 80, .int w]) (h' := h1) 4 rfl ?_
  refine tv_top (show nI (6 * k) + 2 = nI (6 * k + 2) from nI_add (6 * k) 2) ?_
  refine tv_sc rfl hs1 ⟨by omega, by omega⟩ ?_
  refine tv_b (pc' := 693) (ls' := [some (.ref am_B), some (.ref 0), some (.ref 80), some (.int (nI (6 * k)))]) (st' := [.int (nI (6 * k) + 3), .ref am_B, .int (xs (6 * k + 2)), .int (xs (6 * k + 1)), .ref 80, .int w]) (h' := h1) 4 rfl ?_
  refine tv_top (show nI (6 * k) + 3 = nI (6 * k + 3) from nI_add (6 * k) 3) ?_
  refine tv_sc rfl hs1 ⟨by omega, by omega⟩ ?_
  refine tv_cvE [.int (xs (6 * k + 1)), .int (xs (6 * k + 2)), .int (xs (6 * k + 3))] [.int w] rfl rfl (by omega) rfl (Nat.le_of_ble_eq_true rfl) (Nat.le_of_ble_eq_true rfl) (Or.inr (Or.inr hk1)) (ev_up (d := 200) (by decide) e2) ?_
  refine tv_b (pc' := (if w = w then 1477 else 700)) (ls' := [some (.ref am_B), some (.ref 0), some (.ref 80), some (.int (nI (6 * k)))]) (st' := []) (h' := h2) 1 rfl ?_
  refine tv_t rfl ?_
  exact hnext h2 hn.1 hn.2
theorem lw_c12 {k Ln : Nat} {xs : Nat → Int32} {h : am_H} (hk : k ≤ 512) (hi : 6 * k + 6 ≤ Ln) (hL : Ln ≤ 3072) (hh : hInv k h) (hs : scr Ln xs h) {P : Option Value → am_H → Prop} (hnext : ∀ h2, hInv (k + 1) h2 → scr Ln xs h2 → am_T 300 0 1477 [some (.ref am_B), some (.ref 0), some (.ref 80), some (.int (nI (6 * k)))] [] h2 P) : am_T 300 0 702 [some (.ref am_B), some (.ref 0), some (.ref 80), some (.int (nI (6 * k)))] [] h P := by
  obtain ⟨k1, k2, k3, k4, k5⟩ := hInv_k hh
  refine tv_b (pc' := 707) (ls' := [some (.ref am_B), some (.ref 0), some (.ref 80), some (.int (nI (6 * k)))]) (st' := [.int (nI (6 * k) + 1), .ref am_B, .ref 0]) (h' := h) 5 rfl ?_
  refine tv_top (show nI (6 * k) + 1 = nI (6 * k + 1) from nI_add (6 * k) 1) ?_
  refine tv_sc rfl hs ⟨by omega, by omega⟩ ?_
  obtain ⟨z, h1, h2, e1, e2, hn, hs1, hk1, pcr, hrt⟩ := jx_law (jx_mandate (x := (xs (6 * k + 1)))) hk hh hs
  obtain ⟨w, rfl⟩ := rt_I (by first | exact Or.inl rfl | exact Or.inr rfl) hrt
  refine tv_cvE [.int (xs (6 * k + 1))] [] rfl rfl (by omega) rfl (Nat.le_of_ble_eq_true rfl) (Nat.le_of_ble_eq_true rfl) (Or.inr (Or.inr k2)) (ev_up (d := 200) (by decide) e1) ?_
  refine tv_b (pc' := 716) (ls' := [some (.ref am_B), some (.ref 0), some (.ref 80), some (.int (nI (6 * k)))]) (st' := [.int (nI (6 * k) + 1), .ref am_B, .ref 80, .int w]) (h' := h1) 5 rfl ?_
  refine tv_top (show nI (6 * k) + 1 = nI (6 * k + 1) from nI_add (6 * k) 1) ?_
  refine tv_sc rfl hs1 ⟨by omega, by omega⟩ ?_
  refine tv_cvE [.int (xs (6 * k + 1))] [.int w] rfl rfl (by omega) rfl (Nat.le_of_ble_eq_true rfl) (Nat.le_of_ble_eq_true rfl) (Or.inr (Or.inr hk1)) (ev_up (d := 200) (by decide) e2) ?_
  refine tv_b (pc' := (if w = w then 1477 else 723)) (ls' := [some (.ref am_B), some (.ref 0), some (.ref 80), some (.int (nI (6 * k)))]) (st' := []) (h' := h2) 1 rfl ?_
  refine tv_t rfl ?_
  exact hnext h2 hn.1 hn.2
theorem lw_c13 {k Ln : Nat} {xs : Nat → Int32} {h : am_H} (hk : k ≤ 512) (hi : 6 * k + 6 ≤ Ln) (hL : Ln ≤ 3072) (hh : hInv k h) (hs : scr Ln xs h) {P : Option Value → am_H → Prop} (hnext : ∀ h2, hInv (k + 1) h2 → scr Ln xs h2 → am_T 300 0 1477 [some (.ref am_B), some (.ref 0), some (.ref 80), some (.int (nI (6 * k)))] [] h2 P) : am_T 300 0 725 [some (.ref am_B), some (.ref 0), some (.ref 80), some (.int (nI (6 * k)))] [] h P := by
  obtain ⟨k1, k2, k3, k4, k5⟩ := hInv_k hh
  refine tv_b (pc' := 730) (ls' := [some (.ref am_B), some (.ref 0), some (.ref 80), some (.int (nI (6 * k)))]) (st' := [.int (nI (6 * k) + 1), .ref am_B, .ref 0]) (h' := h) 5 rfl ?_
  refine tv_top (show nI (6 * k) + 1 = nI (6 * k + 1) from nI_add (6 * k) 1) ?_
  refine tv_sc rfl hs ⟨by omega, by omega⟩ ?_
  obtain ⟨z, h1, h2, e1, e2, hn, hs1, hk1, pcr, hrt⟩ := jx_law (jx_fault (x := (xs (6 * k + 1)))) hk hh hs
  obtain ⟨w, rfl⟩ := rt_I (by first | exact Or.inl rfl | exact Or.inr rfl) hrt
  refine tv_cvE [.int (xs (6 * k + 1))] [] rfl rfl (by omega) rfl (Nat.le_of_ble_eq_true rfl) (Nat.le_of_ble_eq_true rfl) (Or.inr (Or.inr k2)) (ev_up (d := 200) (by decide) e1) ?_
  refine tv_b (pc' := 739) (ls' := [some (.ref am_B), some (.ref 0), some (.ref 80), some (.int (nI (6 * k)))]) (st' := [.int (nI (6 * k) + 1), .ref am_B, .ref 80, .int w]) (h' := h1) 5 rfl ?_
  refine tv_top (show nI (6 * k) + 1 = nI (6 * k + 1) from nI_add (6 * k) 1) ?_
  refine tv_sc rfl hs1 ⟨by omega, by omega⟩ ?_
  refine tv_cvE [.int (xs (6 * k + 1))] [.int w] rfl rfl (by omega) rfl (Nat.le_of_ble_eq_true rfl) (Nat.le_of_ble_eq_true rfl) (Or.inr (Or.inr hk1)) (ev_up (d := 200) (by decide) e2) ?_
  refine tv_b (pc' := (if w = w then 1477 else 746)) (ls' := [some (.ref am_B), some (.ref 0), some (.ref 80), some (.int (nI (6 * k)))]) (st' := []) (h' := h2) 1 rfl ?_
  refine tv_t rfl ?_
  exact hnext h2 hn.1 hn.2
theorem lw_c14 {k Ln : Nat} {xs : Nat → Int32} {h : am_H} (hk : k ≤ 512) (hi : 6 * k + 6 ≤ Ln) (hL : Ln ≤ 3072) (hh : hInv k h) (hs : scr Ln xs h) {P : Option Value → am_H → Prop} (hnext : ∀ h2, hInv (k + 1) h2 → scr Ln xs h2 → am_T 300 0 1477 [some (.ref am_B), some (.ref 0), some (.ref 80), some (.int (nI (6 * k)))] [] h2 P) : am_T 300 0 748 [some (.ref am_B), some (.ref 0), some (.ref 80), some (.int (nI (6 * k)))] [] h P := by
  obtain ⟨k1, k2, k3, k4, k5⟩ := hInv_k hh
  refine tv_b (pc' := 753) (ls' := [some (.ref am_B), some (.ref 0), some (.ref 80), some (.int (nI (6 * k)))]) (st' := [.int (nI (6 * k) + 1), .ref am_B, .ref 0]) (h' := h) 5 rfl ?_
  refine tv_top (show nI (6 * k) + 1 = nI (6 * k + 1) from nI_add (6 * k) 1) ?_
  refine tv_sc rfl hs ⟨by omega, by omega⟩ ?_
  obtain ⟨z, h1, h2, e1, e2, hn, hs1, hk1, pcr, hrt⟩ := jx_law (jx_annul (x := (xs (6 * k + 1)))) hk hh hs
  obtain ⟨w, rfl⟩ := rt_I (by first | exact Or.inl rfl | exact Or.inr rfl) hrt
  refine tv_cvE [.int (xs (6 * k + 1))] [] rfl rfl (by omega) rfl (Nat.le_of_ble_eq_true rfl) (Nat.le_of_ble_eq_true rfl) (Or.inr (Or.inr k2)) (ev_up (d := 200) (by decide) e1) ?_
  refine tv_b (pc' := 762) (ls' := [some (.ref am_B), some (.ref 0), some (.ref 80), some (.int (nI (6 * k)))]) (st' := [.int (nI (6 * k) + 1), .ref am_B, .ref 80, .int w]) (h' := h1) 5 rfl ?_
  refine tv_top (show nI (6 * k) + 1 = nI (6 * k + 1) from nI_add (6 * k) 1) ?_
  refine tv_sc rfl hs1 ⟨by omega, by omega⟩ ?_
  refine tv_cvE [.int (xs (6 * k + 1))] [.int w] rfl rfl (by omega) rfl (Nat.le_of_ble_eq_true rfl) (Nat.le_of_ble_eq_true rfl) (Or.inr (Or.inr hk1)) (ev_up (d := 200) (by decide) e2) ?_
  refine tv_b (pc' := (if w = w then 1477 else 769)) (ls' := [some (.ref am_B), some (.ref 0), some (.ref 80), some (.int (nI (6 * k)))]) (st' := []) (h' := h2) 1 rfl ?_
  refine tv_t rfl ?_
  exact hnext h2 hn.1 hn.2
theorem lw_c15 {k Ln : Nat} {xs : Nat → Int32} {h : am_H} (hk : k ≤ 512) (hi : 6 * k + 6 ≤ Ln) (hL : Ln ≤ 3072) (hh : hInv k h) (hs : scr Ln xs h) {P : Option Value → am_H → Prop} (hnext : ∀ h2, hInv (k + 1) h2 → scr Ln xs h2 → am_T 300 0 1477 [some (.ref am_B), some (.ref 0), some (.ref 80), some (.int (nI (6 * k)))] [] h2 P) : am_T 300 0 771 [some (.ref am_B), some (.ref 0), some (.ref 80), some (.int (nI (6 * k)))] [] h P := by
  obtain ⟨k1, k2, k3, k4, k5⟩ := hInv_k hh
  refine tv_b (pc' := 776) (ls' := [some (.ref am_B), some (.ref 0), some (.ref 80), some (.int (nI (6 * k)))]) (st' := [.int (nI (6 * k) + 1), .ref am_B, .ref 0]) (h' := h) 5 rfl ?_
  refine tv_top (show nI (6 * k) + 1 = nI (6 * k + 1) from nI_add (6 * k) 1) ?_
  refine tv_sc rfl hs ⟨by omega, by omega⟩ ?_
  obtain ⟨z, h1, h2, e1, e2, hn, hs1, hk1, pcr, hrt⟩ := jx_law (jx_as (x := (xs (6 * k + 1)))) hk hh hs
  obtain ⟨w, rfl⟩ := rt_I (by first | exact Or.inl rfl | exact Or.inr rfl) hrt
  refine tv_cvE [.int (xs (6 * k + 1))] [] rfl rfl (by omega) rfl (Nat.le_of_ble_eq_true rfl) (Nat.le_of_ble_eq_true rfl) (Or.inr (Or.inr k2)) (ev_up (d := 200) (by decide) e1) ?_
  refine tv_b (pc' := 785) (ls' := [some (.ref am_B), some (.ref 0), some (.ref 80), some (.int (nI (6 * k)))]) (st' := [.int (nI (6 * k) + 1), .ref am_B, .ref 80, .int w]) (h' := h1) 5 rfl ?_
  refine tv_top (show nI (6 * k) + 1 = nI (6 * k + 1) from nI_add (6 * k) 1) ?_
  refine tv_sc rfl hs1 ⟨by omega, by omega⟩ ?_
  refine tv_cvE [.int (xs (6 * k + 1))] [.int w] rfl rfl (by omega) rfl (Nat.le_of_ble_eq_true rfl) (Nat.le_of_ble_eq_true rfl) (Or.inr (Or.inr hk1)) (ev_up (d := 200) (by decide) e2) ?_
  refine tv_b (pc' := (if w = w then 1477 else 792)) (ls' := [some (.ref am_B), some (.ref 0), some (.ref 80), some (.int (nI (6 * k)))]) (st' := []) (h' := h2) 1 rfl ?_
  refine tv_t rfl ?_
  exact hnext h2 hn.1 hn.2
theorem lw_c16 {k Ln : Nat} {xs : Nat → Int32} {h : am_H} (hk : k ≤ 512) (hi : 6 * k + 6 ≤ Ln) (hL : Ln ≤ 3072) (hh : hInv k h) (hs : scr Ln xs h) {P : Option Value → am_H → Prop} (hnext : ∀ h2, hInv (k + 1) h2 → scr Ln xs h2 → am_T 300 0 1477 [some (.ref am_B), some (.ref 0), some (.ref 80), some (.int (nI (6 * k)))] [] h2 P) : am_T 300 0 794 [some (.ref am_B), some (.ref 0), some (.ref 80), some (.int (nI (6 * k)))] [] h P := by
  obtain ⟨k1, k2, k3, k4, k5⟩ := hInv_k hh
  refine tv_b (pc' := 799) (ls' := [some (.ref am_B), some (.ref 0), some (.ref 80), some (.int (nI (6 * k)))]) (st' := [.int (nI (6 * k) + 1), .ref am_B, .ref 0]) (h' := h) 5 rfl ?_
  refine tv_top (show nI (6 * k) + 1 = nI (6 * k + 1) from nI_add (6 * k) 1) ?_
  refine tv_sc rfl hs ⟨by omega, by omega⟩ ?_
  obtain ⟨z, h1, h2, e1, e2, hn, hs1, hk1, pcr, hrt⟩ := jx_law (jx_lean (x := (xs (6 * k + 1)))) hk hh hs
  obtain ⟨w, rfl⟩ := rt_I (by first | exact Or.inl rfl | exact Or.inr rfl) hrt
  refine tv_cvE [.int (xs (6 * k + 1))] [] rfl rfl (by omega) rfl (Nat.le_of_ble_eq_true rfl) (Nat.le_of_ble_eq_true rfl) (Or.inr (Or.inr k2)) (ev_up (d := 200) (by decide) e1) ?_
  refine tv_b (pc' := 808) (ls' := [some (.ref am_B), some (.ref 0), some (.ref 80), some (.int (nI (6 * k)))]) (st' := [.int (nI (6 * k) + 1), .ref am_B, .ref 80, .int w]) (h' := h1) 5 rfl ?_
  refine tv_top (show nI (6 * k) + 1 = nI (6 * k + 1) from nI_add (6 * k) 1) ?_
  refine tv_sc rfl hs1 ⟨by omega, by omega⟩ ?_
  refine tv_cvE [.int (xs (6 * k + 1))] [.int w] rfl rfl (by omega) rfl (Nat.le_of_ble_eq_true rfl) (Nat.le_of_ble_eq_true rfl) (Or.inr (Or.inr hk1)) (ev_up (d := 200) (by decide) e2) ?_
  refine tv_b (pc' := (if w = w then 1477 else 815)) (ls' := [some (.ref am_B), some (.ref 0), some (.ref 80), some (.int (nI (6 * k)))]) (st' := []) (h' := h2) 1 rfl ?_
  refine tv_t rfl ?_
  exact hnext h2 hn.1 hn.2
theorem lw_c17 {k Ln : Nat} {xs : Nat → Int32} {h : am_H} (hk : k ≤ 512) (hi : 6 * k + 6 ≤ Ln) (hL : Ln ≤ 3072) (hh : hInv k h) (hs : scr Ln xs h) {P : Option Value → am_H → Prop} (hnext : ∀ h2, hInv (k + 1) h2 → scr Ln xs h2 → am_T 300 0 1477 [some (.ref am_B), some (.ref 0), some (.ref 80), some (.int (nI (6 * k)))] [] h2 P) : am_T 300 0 817 [some (.ref am_B), some (.ref 0), some (.ref 80), some (.int (nI (6 * k)))] [] h P := by
  obtain ⟨k1, k2, k3, k4, k5⟩ := hInv_k hh
  refine tv_b (pc' := 822) (ls' := [some (.ref am_B), some (.ref 0), some (.ref 80), some (.int (nI (6 * k)))]) (st' := [.int (nI (6 * k) + 1), .ref am_B, .ref 0]) (h' := h) 5 rfl ?_
  refine tv_top (show nI (6 * k) + 1 = nI (6 * k + 1) from nI_add (6 * k) 1) ?_
  refine tv_sc rfl hs ⟨by omega, by omega⟩ ?_
  refine tv_b (pc' := 827) (ls' := [some (.ref am_B), some (.ref 0), some (.ref 80), some (.int (nI (6 * k)))]) (st' := [.int (nI (6 * k) + 2), .ref am_B, .int (xs (6 * k + 1)), .ref 0]) (h' := h) 4 rfl ?_
  refine tv_top (show nI (6 * k) + 2 = nI (6 * k + 2) from nI_add (6 * k) 2) ?_
  refine tv_sc rfl hs ⟨by omega, by omega⟩ ?_
  obtain ⟨z, h1, h2, e1, e2, hn, hs1, hk1, pcr, hrt⟩ := jx_law (jx_settled (c := (xs (6 * k + 1))) (x := (xs (6 * k + 2)))) hk hh hs
  obtain ⟨w, rfl⟩ := rt_J rfl e1
  refine tv_cvE [.int (xs (6 * k + 1)), .int (xs (6 * k + 2))] [] rfl rfl (by omega) rfl (Nat.le_of_ble_eq_true rfl) (Nat.le_of_ble_eq_true rfl) (Or.inr (Or.inr k2)) (ev_up (d := 200) (by decide) e1) ?_
  refine tv_b (pc' := 836) (ls' := [some (.ref am_B), some (.ref 0), some (.ref 80), some (.int (nI (6 * k)))]) (st' := [.int (nI (6 * k) + 1), .ref am_B, .ref 80, .long w]) (h' := h1) 5 rfl ?_
  refine tv_top (show nI (6 * k) + 1 = nI (6 * k + 1) from nI_add (6 * k) 1) ?_
  refine tv_sc rfl hs1 ⟨by omega, by omega⟩ ?_
  refine tv_b (pc' := 841) (ls' := [some (.ref am_B), some (.ref 0), some (.ref 80), some (.int (nI (6 * k)))]) (st' := [.int (nI (6 * k) + 2), .ref am_B, .int (xs (6 * k + 1)), .ref 80, .long w]) (h' := h1) 4 rfl ?_
  refine tv_top (show nI (6 * k) + 2 = nI (6 * k + 2) from nI_add (6 * k) 2) ?_
  refine tv_sc rfl hs1 ⟨by omega, by omega⟩ ?_
  refine tv_cvE [.int (xs (6 * k + 1)), .int (xs (6 * k + 2))] [.long w] rfl rfl (by omega) rfl (Nat.le_of_ble_eq_true rfl) (Nat.le_of_ble_eq_true rfl) (Or.inr (Or.inr hk1)) (ev_up (d := 200) (by decide) e2) ?_
  refine tv_b (pc' := (if lg_cmp w w = 0 then 1477 else 849)) (ls' := [some (.ref am_B), some (.ref 0), some (.ref 80), some (.int (nI (6 * k)))]) (st' := []) (h' := h2) 2 rfl ?_
  refine tv_t lgc_s ?_
  exact hnext h2 hn.1 hn.2
theorem lw_c18 {k Ln : Nat} {xs : Nat → Int32} {h : am_H} (hk : k ≤ 512) (hi : 6 * k + 6 ≤ Ln) (hL : Ln ≤ 3072) (hh : hInv k h) (hs : scr Ln xs h) {P : Option Value → am_H → Prop} (hnext : ∀ h2, hInv (k + 1) h2 → scr Ln xs h2 → am_T 300 0 1477 [some (.ref am_B), some (.ref 0), some (.ref 80), some (.int (nI (6 * k)))] [] h2 P) : am_T 300 0 851 [some (.ref am_B), some (.ref 0), some (.ref 80), some (.int (nI (6 * k)))] [] h P := by
  obtain ⟨k1, k2, k3, k4, k5⟩ := hInv_k hh
  refine tv_b (pc' := 856) (ls' := [some (.ref am_B), some (.ref 0), some (.ref 80), some (.int (nI (6 * k)))]) (st' := [.int (nI (6 * k) + 1), .ref am_B, .ref 0]) (h' := h) 5 rfl ?_
  refine tv_top (show nI (6 * k) + 1 = nI (6 * k + 1) from nI_add (6 * k) 1) ?_
  refine tv_sc rfl hs ⟨by omega, by omega⟩ ?_
  refine tv_b (pc' := 861) (ls' := [some (.ref am_B), some (.ref 0), some (.ref 80), some (.int (nI (6 * k)))]) (st' := [.int (nI (6 * k) + 2), .ref am_B, .int (xs (6 * k + 1)), .ref 0]) (h' := h) 4 rfl ?_
  refine tv_top (show nI (6 * k) + 2 = nI (6 * k + 2) from nI_add (6 * k) 2) ?_
  refine tv_sc rfl hs ⟨by omega, by omega⟩ ?_
  obtain ⟨z, h1, h2, e1, e2, hn, hs1, hk1, pcr, hrt⟩ := jx_law (jx_load (c := (xs (6 * k + 1))) (x := (xs (6 * k + 2)))) hk hh hs
  obtain ⟨w, rfl⟩ := rt_I (by first | exact Or.inl rfl | exact Or.inr rfl) hrt
  refine tv_cvE [.int (xs (6 * k + 1)), .int (xs (6 * k + 2))] [] rfl rfl (by omega) rfl (Nat.le_of_ble_eq_true rfl) (Nat.le_of_ble_eq_true rfl) (Or.inr (Or.inr k2)) (ev_up (d := 200) (by decide) e1) ?_
  refine tv_b (pc' := 870) (ls' := [some (.ref am_B), some (.ref 0), some (.ref 80), some (.int (nI (6 * k)))]) (st' := [.int (nI (6 * k) + 1), .ref am_B, .ref 80, .int w]) (h' := h1) 5 rfl ?_
  refine tv_top (show nI (6 * k) + 1 = nI (6 * k + 1) from nI_add (6 * k) 1) ?_
  refine tv_sc rfl hs1 ⟨by omega, by omega⟩ ?_
  refine tv_b (pc' := 875) (ls' := [some (.ref am_B), some (.ref 0), some (.ref 80), some (.int (nI (6 * k)))]) (st' := [.int (nI (6 * k) + 2), .ref am_B, .int (xs (6 * k + 1)), .ref 80, .int w]) (h' := h1) 4 rfl ?_
  refine tv_top (show nI (6 * k) + 2 = nI (6 * k + 2) from nI_add (6 * k) 2) ?_
  refine tv_sc rfl hs1 ⟨by omega, by omega⟩ ?_
  refine tv_cvE [.int (xs (6 * k + 1)), .int (xs (6 * k + 2))] [.int w] rfl rfl (by omega) rfl (Nat.le_of_ble_eq_true rfl) (Nat.le_of_ble_eq_true rfl) (Or.inr (Or.inr hk1)) (ev_up (d := 200) (by decide) e2) ?_
  refine tv_b (pc' := (if w = w then 1477 else 882)) (ls' := [some (.ref am_B), some (.ref 0), some (.ref 80), some (.int (nI (6 * k)))]) (st' := []) (h' := h2) 1 rfl ?_
  refine tv_t rfl ?_
  exact hnext h2 hn.1 hn.2
theorem lw_c19 {k Ln : Nat} {xs : Nat → Int32} {h : am_H} (hk : k ≤ 512) (hi : 6 * k + 6 ≤ Ln) (hL : Ln ≤ 3072) (hh : hInv k h) (hs : scr Ln xs h) {P : Option Value → am_H → Prop} (hnext : ∀ h2, hInv (k + 1) h2 → scr Ln xs h2 → am_T 300 0 1477 [some (.ref am_B), some (.ref 0), some (.ref 80), some (.int (nI (6 * k)))] [] h2 P) : am_T 300 0 884 [some (.ref am_B), some (.ref 0), some (.ref 80), some (.int (nI (6 * k)))] [] h P := by
  obtain ⟨k1, k2, k3, k4, k5⟩ := hInv_k hh
  refine tv_b (pc' := 889) (ls' := [some (.ref am_B), some (.ref 0), some (.ref 80), some (.int (nI (6 * k)))]) (st' := [.int (nI (6 * k) + 1), .ref am_B, .ref 0]) (h' := h) 5 rfl ?_
  refine tv_top (show nI (6 * k) + 1 = nI (6 * k + 1) from nI_add (6 * k) 1) ?_
  refine tv_sc rfl hs ⟨by omega, by omega⟩ ?_
  obtain ⟨z, h1, h2, e1, e2, hn, hs1, hk1, pcr, hrt⟩ := jx_law (jx_above (x := (xs (6 * k + 1)))) hk hh hs
  obtain ⟨w, rfl⟩ := rt_I (by first | exact Or.inl rfl | exact Or.inr rfl) hrt
  refine tv_cvE [.int (xs (6 * k + 1))] [] rfl rfl (by omega) rfl (Nat.le_of_ble_eq_true rfl) (Nat.le_of_ble_eq_true rfl) (Or.inr (Or.inr k2)) (ev_up (d := 200) (by decide) e1) ?_
  refine tv_b (pc' := 898) (ls' := [some (.ref am_B), some (.ref 0), some (.ref 80), some (.int (nI (6 * k)))]) (st' := [.int (nI (6 * k) + 1), .ref am_B, .ref 80, .int w]) (h' := h1) 5 rfl ?_
  refine tv_top (show nI (6 * k) + 1 = nI (6 * k + 1) from nI_add (6 * k) 1) ?_
  refine tv_sc rfl hs1 ⟨by omega, by omega⟩ ?_
  refine tv_cvE [.int (xs (6 * k + 1))] [.int w] rfl rfl (by omega) rfl (Nat.le_of_ble_eq_true rfl) (Nat.le_of_ble_eq_true rfl) (Or.inr (Or.inr hk1)) (ev_up (d := 200) (by decide) e2) ?_
  refine tv_b (pc' := (if w = w then 1477 else 905)) (ls' := [some (.ref am_B), some (.ref 0), some (.ref 80), some (.int (nI (6 * k)))]) (st' := []) (h' := h2) 1 rfl ?_
  refine tv_t rfl ?_
  exact hnext h2 hn.1 hn.2
theorem lw_c20 {k Ln : Nat} {xs : Nat → Int32} {h : am_H} (hk : k ≤ 512) (hi : 6 * k + 6 ≤ Ln) (hL : Ln ≤ 3072) (hh : hInv k h) (hs : scr Ln xs h) {P : Option Value → am_H → Prop} (hnext : ∀ h2, hInv (k + 1) h2 → scr Ln xs h2 → am_T 300 0 1477 [some (.ref am_B), some (.ref 0), some (.ref 80), some (.int (nI (6 * k)))] [] h2 P) : am_T 300 0 907 [some (.ref am_B), some (.ref 0), some (.ref 80), some (.int (nI (6 * k)))] [] h P := by
  obtain ⟨k1, k2, k3, k4, k5⟩ := hInv_k hh
  refine tv_b (pc' := 912) (ls' := [some (.ref am_B), some (.ref 0), some (.ref 80), some (.int (nI (6 * k)))]) (st' := [.int (nI (6 * k) + 1), .ref am_B, .ref 0]) (h' := h) 5 rfl ?_
  refine tv_top (show nI (6 * k) + 1 = nI (6 * k + 1) from nI_add (6 * k) 1) ?_
  refine tv_sc rfl hs ⟨by omega, by omega⟩ ?_
  obtain ⟨z, h1, h2, e1, e2, hn, hs1, hk1, pcr, hrt⟩ := jx_law (jx_force (x := (xs (6 * k + 1)))) hk hh hs
  obtain ⟨w, rfl⟩ := rt_I (by first | exact Or.inl rfl | exact Or.inr rfl) hrt
  refine tv_cvE [.int (xs (6 * k + 1))] [] rfl rfl (by omega) rfl (Nat.le_of_ble_eq_true rfl) (Nat.le_of_ble_eq_true rfl) (Or.inr (Or.inr k2)) (ev_up (d := 200) (by decide) e1) ?_
  refine tv_b (pc' := 921) (ls' := [some (.ref am_B), some (.ref 0), some (.ref 80), some (.int (nI (6 * k)))]) (st' := [.int (nI (6 * k) + 1), .ref am_B, .ref 80, .int w]) (h' := h1) 5 rfl ?_
  refine tv_top (show nI (6 * k) + 1 = nI (6 * k + 1) from nI_add (6 * k) 1) ?_
  refine tv_sc rfl hs1 ⟨by omega, by omega⟩ ?_
  refine tv_cvE [.int (xs (6 * k + 1))] [.int w] rfl rfl (by omega) rfl (Nat.le_of_ble_eq_true rfl) (Nat.le_of_ble_eq_true rfl) (Or.inr (Or.inr hk1)) (ev_up (d := 200) (by decide) e2) ?_
  refine tv_b (pc' := (if w = w then 1477 else 928)) (ls' := [some (.ref am_B), some (.ref 0), some (.ref 80), some (.int (nI (6 * k)))]) (st' := []) (h' := h2) 1 rfl ?_
  refine tv_t rfl ?_
  exact hnext h2 hn.1 hn.2
theorem lw_c21 {k Ln : Nat} {xs : Nat → Int32} {h : am_H} (hk : k ≤ 512) (hi : 6 * k + 6 ≤ Ln) (hL : Ln ≤ 3072) (hh : hInv k h) (hs : scr Ln xs h) {P : Option Value → am_H → Prop} (hnext : ∀ h2, hInv (k + 1) h2 → scr Ln xs h2 → am_T 300 0 1477 [some (.ref am_B), some (.ref 0), some (.ref 80), some (.int (nI (6 * k)))] [] h2 P) : am_T 300 0 930 [some (.ref am_B), some (.ref 0), some (.ref 80), some (.int (nI (6 * k)))] [] h P := by
  obtain ⟨k1, k2, k3, k4, k5⟩ := hInv_k hh
  refine tv_b (pc' := 935) (ls' := [some (.ref am_B), some (.ref 0), some (.ref 80), some (.int (nI (6 * k)))]) (st' := [.int (nI (6 * k) + 1), .ref am_B, .ref 0]) (h' := h) 5 rfl ?_
  refine tv_top (show nI (6 * k) + 1 = nI (6 * k + 1) from nI_add (6 * k) 1) ?_
  refine tv_sc rfl hs ⟨by omega, by omega⟩ ?_
  refine tv_b (pc' := 940) (ls' := [some (.ref am_B), some (.ref 0), some (.ref 80), some (.int (nI (6 * k)))]) (st' := [.int (nI (6 * k) + 2), .ref am_B, .int (xs (6 * k + 1)), .ref 0]) (h' := h) 4 rfl ?_
  refine tv_top (show nI (6 * k) + 2 = nI (6 * k + 2) from nI_add (6 * k) 2) ?_
  refine tv_sc rfl hs ⟨by omega, by omega⟩ ?_
  refine tv_b (pc' := 945) (ls' := [some (.ref am_B), some (.ref 0), some (.ref 80), some (.int (nI (6 * k)))]) (st' := [.int (nI (6 * k) + 3), .ref am_B, .int (xs (6 * k + 2)), .int (xs (6 * k + 1)), .ref 0]) (h' := h) 4 rfl ?_
  refine tv_top (show nI (6 * k) + 3 = nI (6 * k + 3) from nI_add (6 * k) 3) ?_
  refine tv_sc rfl hs ⟨by omega, by omega⟩ ?_
  obtain ⟨z, h1, h2, e1, e2, hn, hs1, hk1, pcr, hrt⟩ := jx_law (jx_may (w := (xs (6 * k + 1))) (y := (xs (6 * k + 2))) (x := (xs (6 * k + 3)))) hk hh hs
  obtain ⟨w, rfl⟩ := rt_I (by first | exact Or.inl rfl | exact Or.inr rfl) hrt
  refine tv_cvE [.int (xs (6 * k + 1)), .int (xs (6 * k + 2)), .int (xs (6 * k + 3))] [] rfl rfl (by omega) rfl (Nat.le_of_ble_eq_true rfl) (Nat.le_of_ble_eq_true rfl) (Or.inr (Or.inr k2)) (ev_up (d := 200) (by decide) e1) ?_
  refine tv_b (pc' := 954) (ls' := [some (.ref am_B), some (.ref 0), some (.ref 80), some (.int (nI (6 * k)))]) (st' := [.int (nI (6 * k) + 1), .ref am_B, .ref 80, .int w]) (h' := h1) 5 rfl ?_
  refine tv_top (show nI (6 * k) + 1 = nI (6 * k + 1) from nI_add (6 * k) 1) ?_
  refine tv_sc rfl hs1 ⟨by omega, by omega⟩ ?_
  refine tv_b (pc' := 959) (ls' := [some (.ref am_B), some (.ref 0), some (.ref 80), some (.int (nI (6 * k)))]) (st' := [.int (nI (6 * k) + 2), .ref am_B, .int (xs (6 * k + 1)), .ref 80, .int w]) (h' := h1) 4 rfl ?_
  refine tv_top (show nI (6 * k) + 2 = nI (6 * k + 2) from nI_add (6 * k) 2) ?_
  refine tv_sc rfl hs1 ⟨by omega, by omega⟩ ?_
  refine tv_b (pc' := 964) (ls' := [some (.ref am_B), some (.ref 0), some (.ref 80), some (.int (nI (6 * k)))]) (st' := [.int (nI (6 * k) + 3), .ref am_B, .int (xs (6 * k + 2)), .int (xs (6 * k + 1)), .ref 80, .int w]) (h' := h1) 4 rfl ?_
  refine tv_top (show nI (6 * k) + 3 = nI (6 * k + 3) from nI_add (6 * k) 3) ?_
  refine tv_sc rfl hs1 ⟨by omega, by omega⟩ ?_
  refine tv_cvE [.int (xs (6 * k + 1)), .int (xs (6 * k + 2)), .int (xs (6 * k + 3))] [.int w] rfl rfl (by omega) rfl (Nat.le_of_ble_eq_true rfl) (Nat.le_of_ble_eq_true rfl) (Or.inr (Or.inr hk1)) (ev_up (d := 200) (by decide) e2) ?_
  refine tv_b (pc' := (if w = w then 1477 else 971)) (ls' := [some (.ref am_B), some (.ref 0), some (.ref 80), some (.int (nI (6 * k)))]) (st' := []) (h' := h2) 1 rfl ?_
  refine tv_t rfl ?_
  exact hnext h2 hn.1 hn.2
theorem lw_c22 {k Ln : Nat} {xs : Nat → Int32} {h : am_H} (hk : k ≤ 512) (hi : 6 * k + 6 ≤ Ln) (hL : Ln ≤ 3072) (hh : hInv k h) (hs : scr Ln xs h) {P : Option Value → am_H → Prop} (hnext : ∀ h2, hInv (k + 1) h2 → scr Ln xs h2 → am_T 300 0 1477 [some (.ref am_B), some (.ref 0), some (.ref 80), some (.int (nI (6 * k)))] [] h2 P) : am_T 300 0 973 [some (.ref am_B), some (.ref 0), some (.ref 80), some (.int (nI (6 * k)))] [] h P := by
  obtain ⟨k1, k2, k3, k4, k5⟩ := hInv_k hh
  refine tv_b (pc' := 974) (ls' := [some (.ref am_B), some (.ref 0), some (.ref 80), some (.int (nI (6 * k)))]) (st' := [.ref 0]) (h' := h) 1 rfl ?_
  obtain ⟨z, h1, h2, e1, e2, hn, hs1, hk1, pcr, hrt⟩ := jx_law (jx_breaches) hk hh hs
  obtain ⟨w, rfl⟩ := rt_I (by first | exact Or.inl rfl | exact Or.inr rfl) hrt
  refine tv_cvE [] [] rfl rfl (by omega) rfl (Nat.le_of_ble_eq_true rfl) (Nat.le_of_ble_eq_true rfl) (Or.inr (Or.inr k2)) (ev_up (d := 200) (by decide) e1) ?_
  refine tv_b (pc' := 978) (ls' := [some (.ref am_B), some (.ref 0), some (.ref 80), some (.int (nI (6 * k)))]) (st' := [.ref 80, .int w]) (h' := h1) 1 rfl ?_
  refine tv_cvE [] [.int w] rfl rfl (by omega) rfl (Nat.le_of_ble_eq_true rfl) (Nat.le_of_ble_eq_true rfl) (Or.inr (Or.inr hk1)) (ev_up (d := 200) (by decide) e2) ?_
  refine tv_b (pc' := (if w = w then 1477 else 984)) (ls' := [some (.ref am_B), some (.ref 0), some (.ref 80), some (.int (nI (6 * k)))]) (st' := []) (h' := h2) 1 rfl ?_
  refine tv_t rfl ?_
  exact hnext h2 hn.1 hn.2
theorem lw_c23 {k Ln : Nat} {xs : Nat → Int32} {h : am_H} (hk : k ≤ 512) (hi : 6 * k + 6 ≤ Ln) (hL : Ln ≤ 3072) (hh : hInv k h) (hs : scr Ln xs h) {P : Option Value → am_H → Prop} (hnext : ∀ h2, hInv (k + 1) h2 → scr Ln xs h2 → am_T 300 0 1477 [some (.ref am_B), some (.ref 0), some (.ref 80), some (.int (nI (6 * k)))] [] h2 P) : am_T 300 0 986 [some (.ref am_B), some (.ref 0), some (.ref 80), some (.int (nI (6 * k)))] [] h P := by
  obtain ⟨k1, k2, k3, k4, k5⟩ := hInv_k hh
  refine tv_b (pc' := 991) (ls' := [some (.ref am_B), some (.ref 0), some (.ref 80), some (.int (nI (6 * k)))]) (st' := [.int (nI (6 * k) + 1), .ref am_B, .ref 0]) (h' := h) 5 rfl ?_
  refine tv_top (show nI (6 * k) + 1 = nI (6 * k + 1) from nI_add (6 * k) 1) ?_
  refine tv_sc rfl hs ⟨by omega, by omega⟩ ?_
  obtain ⟨z, h1, h2, e1, e2, hn, hs1, hk1, pcr, hrt⟩ := jx_law (jx_breach (x := (xs (6 * k + 1)))) hk hh hs
  obtain ⟨w, rfl⟩ := rt_I (by first | exact Or.inl rfl | exact Or.inr rfl) hrt
  refine tv_cvE [.int (xs (6 * k + 1))] [] rfl rfl (by omega) rfl (Nat.le_of_ble_eq_true rfl) (Nat.le_of_ble_eq_true rfl) (Or.inr (Or.inr k2)) (ev_up (d := 200) (by decide) e1) ?_
  refine tv_b (pc' := 1000) (ls' := [some (.ref am_B), some (.ref 0), some (.ref 80), some (.int (nI (6 * k)))]) (st' := [.int (nI (6 * k) + 1), .ref am_B, .ref 80, .int w]) (h' := h1) 5 rfl ?_
  refine tv_top (show nI (6 * k) + 1 = nI (6 * k + 1) from nI_add (6 * k) 1) ?_
  refine tv_sc rfl hs1 ⟨by omega, by omega⟩ ?_
  refine tv_cvE [.int (xs (6 * k + 1))] [.int w] rfl rfl (by omega) rfl (Nat.le_of_ble_eq_true rfl) (Nat.le_of_ble_eq_true rfl) (Or.inr (Or.inr hk1)) (ev_up (d := 200) (by decide) e2) ?_
  refine tv_b (pc' := (if w = w then 1477 else 1007)) (ls' := [some (.ref am_B), some (.ref 0), some (.ref 80), some (.int (nI (6 * k)))]) (st' := []) (h' := h2) 1 rfl ?_
  refine tv_t rfl ?_
  exact hnext h2 hn.1 hn.2
theorem lw_c24 {k Ln : Nat} {xs : Nat → Int32} {h : am_H} (hk : k ≤ 512) (hi : 6 * k + 6 ≤ Ln) (hL : Ln ≤ 3072) (hh : hInv k h) (hs : scr Ln xs h) {P : Option Value → am_H → Prop} (hnext : ∀ h2, hInv (k + 1) h2 → scr Ln xs h2 → am_T 300 0 1477 [some (.ref am_B), some (.ref 0), some (.ref 80), some (.int (nI (6 * k)))] [] h2 P) : am_T 300 0 1009 [some (.ref am_B), some (.ref 0), some (.ref 80), some (.int (nI (6 * k)))] [] h P := by
  obtain ⟨k1, k2, k3, k4, k5⟩ := hInv_k hh
  refine tv_b (pc' := 1014) (ls' := [some (.ref am_B), some (.ref 0), some (.ref 80), some (.int (nI (6 * k)))]) (st' := [.int (nI (6 * k) + 1), .ref am_B, .ref 0]) (h' := h) 5 rfl ?_
  refine tv_top (show nI (6 * k) + 1 = nI (6 * k + 1) from nI_add (6 * k) 1) ?_
  refine tv_sc rfl hs ⟨by omega, by omega⟩ ?_
  obtain ⟨z, h1, h2, e1, e2, hn, hs1, hk1, pcr, hrt⟩ := jx_law (jx_right (x := (xs (6 * k + 1)))) hk hh hs
  obtain ⟨w, rfl⟩ := rt_I (by first | exact Or.inl rfl | exact Or.inr rfl) hrt
  refine tv_cvE [.int (xs (6 * k + 1))] [] rfl rfl (by omega) rfl (Nat.le_of_ble_eq_true rfl) (Nat.le_of_ble_eq_true rfl) (Or.inr (Or.inr k2)) (ev_up (d := 200) (by decide) e1) ?_
  refine tv_b (pc' := 1023) (ls' := [some (.ref am_B), some (.ref 0), some (.ref 80), some (.int (nI (6 * k)))]) (st' := [.int (nI (6 * k) + 1), .ref am_B, .ref 80, .int w]) (h' := h1) 5 rfl ?_
  refine tv_top (show nI (6 * k) + 1 = nI (6 * k + 1) from nI_add (6 * k) 1) ?_
  refine tv_sc rfl hs1 ⟨by omega, by omega⟩ ?_
  refine tv_cvE [.int (xs (6 * k + 1))] [.int w] rfl rfl (by omega) rfl (Nat.le_of_ble_eq_true rfl) (Nat.le_of_ble_eq_true rfl) (Or.inr (Or.inr hk1)) (ev_up (d := 200) (by decide) e2) ?_
  refine tv_b (pc' := (if w = w then 1477 else 1030)) (ls' := [some (.ref am_B), some (.ref 0), some (.ref 80), some (.int (nI (6 * k)))]) (st' := []) (h' := h2) 1 rfl ?_
  refine tv_t rfl ?_
  exact hnext h2 hn.1 hn.2
theorem lw_c25 {k Ln : Nat} {xs : Nat → Int32} {h : am_H} (hk : k ≤ 512) (hi : 6 * k + 6 ≤ Ln) (hL : Ln ≤ 3072) (hh : hInv k h) (hs : scr Ln xs h) {P : Option Value → am_H → Prop} (hnext : ∀ h2, hInv (k + 1) h2 → scr Ln xs h2 → am_T 300 0 1477 [some (.ref am_B), some (.ref 0), some (.ref 80), some (.int (nI (6 * k)))] [] h2 P) : am_T 300 0 1032 [some (.ref am_B), some (.ref 0), some (.ref 80), some (.int (nI (6 * k)))] [] h P := by
  obtain ⟨k1, k2, k3, k4, k5⟩ := hInv_k hh
  refine tv_b (pc' := 1037) (ls' := [some (.ref am_B), some (.ref 0), some (.ref 80), some (.int (nI (6 * k)))]) (st' := [.int (nI (6 * k) + 1), .ref am_B, .ref 0]) (h' := h) 5 rfl ?_
  refine tv_top (show nI (6 * k) + 1 = nI (6 * k + 1) from nI_add (6 * k) 1) ?_
  refine tv_sc rfl hs ⟨by omega, by omega⟩ ?_
  refine tv_b (pc' := 1042) (ls' := [some (.ref am_B), some (.ref 0), some (.ref 80), some (.int (nI (6 * k)))]) (st' := [.int (nI (6 * k) + 2), .ref am_B, .int (xs (6 * k + 1)), .ref 0]) (h' := h) 4 rfl ?_
  refine tv_top (show nI (6 * k) + 2 = nI (6 * k + 2) from nI_add (6 * k) 2) ?_
  refine tv_sc rfl hs ⟨by omega, by omega⟩ ?_
  refine tv_b (pc' := 1047) (ls' := [some (.ref am_B), some (.ref 0), some (.ref 80), some (.int (nI (6 * k)))]) (st' := [.int (nI (6 * k) + 3), .ref am_B, .int (xs (6 * k + 2)), .int (xs (6 * k + 1)), .ref 0]) (h' := h) 4 rfl ?_
  refine tv_top (show nI (6 * k) + 3 = nI (6 * k + 3) from nI_add (6 * k) 3) ?_
  refine tv_sc rfl hs ⟨by omega, by omega⟩ ?_
  refine tv_b (pc' := (if (xs (6 * k + 3)) = 0 then 1055 else 1051)) (ls' := [some (.ref am_B), some (.ref 0), some (.ref 80), some (.int (nI (6 * k)))]) (st' := [.int (xs (6 * k + 2)), .int (xs (6 * k + 1)), .ref 0]) (h' := h) 1 rfl ?_
  refine tv_if (fun c0 => ?_) (fun c0 => ?_)
  · refine tv_b (pc' := 1056) (ls' := [some (.ref am_B), some (.ref 0), some (.ref 80), some (.int (nI (6 * k)))]) (st' := [.int 0, .int (xs (6 * k + 2)), .int (xs (6 * k + 1)), .ref 0]) (h' := h) 1 rfl ?_
    obtain ⟨z, h1, h2, e1, e2, hn, hs1, hk1, pcr, hrt⟩ := jx_law (jx_fit (x := (xs (6 * k + 1))) (y := (xs (6 * k + 2))) (z := 0)) hk hh hs
    obtain ⟨w, rfl⟩ := rt_J rfl e1
    refine tv_cvE [.int (xs (6 * k + 1)), .int (xs (6 * k + 2)), .int 0] [] rfl rfl (by omega) rfl (Nat.le_of_ble_eq_true rfl) (Nat.le_of_ble_eq_true rfl) (Or.inr (Or.inr k2)) (ev_up (d := 200) (by decide) e1) ?_
    refine tv_b (pc' := 1064) (ls' := [some (.ref am_B), some (.ref 0), some (.ref 80), some (.int (nI (6 * k)))]) (st' := [.int (nI (6 * k) + 1), .ref am_B, .ref 80, .long w]) (h' := h1) 5 rfl ?_
    refine tv_top (show nI (6 * k) + 1 = nI (6 * k + 1) from nI_add (6 * k) 1) ?_
    refine tv_sc rfl hs1 ⟨by omega, by omega⟩ ?_
    refine tv_b (pc' := 1069) (ls' := [some (.ref am_B), some (.ref 0), some (.ref 80), some (.int (nI (6 * k)))]) (st' := [.int (nI (6 * k) + 2), .ref am_B, .int (xs (6 * k + 1)), .ref 80, .long w]) (h' := h1) 4 rfl ?_
    refine tv_top (show nI (6 * k) + 2 = nI (6 * k + 2) from nI_add (6 * k) 2) ?_
    refine tv_sc rfl hs1 ⟨by omega, by omega⟩ ?_
    refine tv_b (pc' := 1074) (ls' := [some (.ref am_B), some (.ref 0), some (.ref 80), some (.int (nI (6 * k)))]) (st' := [.int (nI (6 * k) + 3), .ref am_B, .int (xs (6 * k + 2)), .int (xs (6 * k + 1)), .ref 80, .long w]) (h' := h1) 4 rfl ?_
    refine tv_top (show nI (6 * k) + 3 = nI (6 * k + 3) from nI_add (6 * k) 3) ?_
    refine tv_sc rfl hs1 ⟨by omega, by omega⟩ ?_
    refine tv_b (pc' := (if (xs (6 * k + 3)) = 0 then 1082 else 1078)) (ls' := [some (.ref am_B), some (.ref 0), some (.ref 80), some (.int (nI (6 * k)))]) (st' := [.int (xs (6 * k + 2)), .int (xs (6 * k + 1)), .ref 80, .long w]) (h' := h1) 1 rfl ?_
    refine tv_t c0 ?_
    refine tv_b (pc' := 1083) (ls' := [some (.ref am_B), some (.ref 0), some (.ref 80), some (.int (nI (6 * k)))]) (st' := [.int 0, .int (xs (6 * k + 2)), .int (xs (6 * k + 1)), .ref 80, .long w]) (h' := h1) 1 rfl ?_
    refine tv_cvE [.int (xs (6 * k + 1)), .int (xs (6 * k + 2)), .int 0] [.long w] rfl rfl (by omega) rfl (Nat.le_of_ble_eq_true rfl) (Nat.le_of_ble_eq_true rfl) (Or.inr (Or.inr hk1)) (ev_up (d := 200) (by decide) e2) ?_
    refine tv_b (pc' := (if lg_cmp w w = 0 then 1477 else 1090)) (ls' := [some (.ref am_B), some (.ref 0), some (.ref 80), some (.int (nI (6 * k)))]) (st' := []) (h' := h2) 2 rfl ?_
    refine tv_t lgc_s ?_
    exact hnext h2 hn.1 hn.2
  · refine tv_b (pc' := 1056) (ls' := [some (.ref am_B), some (.ref 0), some (.ref 80), some (.int (nI (6 * k)))]) (st' := [.int 1, .int (xs (6 * k + 2)), .int (xs (6 * k + 1)), .ref 0]) (h' := h) 2 rfl ?_
    obtain ⟨z, h1, h2, e1, e2, hn, hs1, hk1, pcr, hrt⟩ := jx_law (jx_fit (x := (xs (6 * k + 1))) (y := (xs (6 * k + 2))) (z := 1)) hk hh hs
    obtain ⟨w, rfl⟩ := rt_J rfl e1
    refine tv_cvE [.int (xs (6 * k + 1)), .int (xs (6 * k + 2)), .int 1] [] rfl rfl (by omega) rfl (Nat.le_of_ble_eq_true rfl) (Nat.le_of_ble_eq_true rfl) (Or.inr (Or.inr k2)) (ev_up (d := 200) (by decide) e1) ?_
    refine tv_b (pc' := 1064) (ls' := [some (.ref am_B), some (.ref 0), some (.ref 80), some (.int (nI (6 * k)))]) (st' := [.int (nI (6 * k) + 1), .ref am_B, .ref 80, .long w]) (h' := h1) 5 rfl ?_
    refine tv_top (show nI (6 * k) + 1 = nI (6 * k + 1) from nI_add (6 * k) 1) ?_
    refine tv_sc rfl hs1 ⟨by omega, by omega⟩ ?_
    refine tv_b (pc' := 1069) (ls' := [some (.ref am_B), some (.ref 0), some (.ref 80), some (.int (nI (6 * k)))]) (st' := [.int (nI (6 * k) + 2), .ref am_B, .int (xs (6 * k + 1)), .ref 80, .long w]) (h' := h1) 4 rfl ?_
    refine tv_top (show nI (6 * k) + 2 = nI (6 * k + 2) from nI_add (6 * k) 2) ?_
    refine tv_sc rfl hs1 ⟨by omega, by omega⟩ ?_
    refine tv_b (pc' := 1074) (ls' := [some (.ref am_B), some (.ref 0), some (.ref 80), some (.int (nI (6 * k)))]) (st' := [.int (nI (6 * k) + 3), .ref am_B, .int (xs (6 * k + 2)), .int (xs (6 * k + 1)), .ref 80, .long w]) (h' := h1) 4 rfl ?_
    refine tv_top (show nI (6 * k) + 3 = nI (6 * k + 3) from nI_add (6 * k) 3) ?_
    refine tv_sc rfl hs1 ⟨by omega, by omega⟩ ?_
    refine tv_b (pc' := (if (xs (6 * k + 3)) = 0 then 1082 else 1078)) (ls' := [some (.ref am_B), some (.ref 0), some (.ref 80), some (.int (nI (6 * k)))]) (st' := [.int (xs (6 * k + 2)), .int (xs (6 * k + 1)), .ref 80, .long w]) (h' := h1) 1 rfl ?_
    refine tv_f c0 ?_
    refine tv_b (pc' := 1083) (ls' := [some (.ref am_B), some (.ref 0), some (.ref 80), some (.int (nI (6 * k)))]) (st' := [.int 1, .int (xs (6 * k + 2)), .int (xs (6 * k + 1)), .ref 80, .long w]) (h' := h1) 2 rfl ?_
    refine tv_cvE [.int (xs (6 * k + 1)), .int (xs (6 * k + 2)), .int 1] [.long w] rfl rfl (by omega) rfl (Nat.le_of_ble_eq_true rfl) (Nat.le_of_ble_eq_true rfl) (Or.inr (Or.inr hk1)) (ev_up (d := 200) (by decide) e2) ?_
    refine tv_b (pc' := (if lg_cmp w w = 0 then 1477 else 1090)) (ls' := [some (.ref am_B), some (.ref 0), some (.ref 80), some (.int (nI (6 * k)))]) (st' := []) (h' := h2) 2 rfl ?_
    refine tv_t lgc_s ?_
    exact hnext h2 hn.1 hn.2
theorem lw_c26 {k Ln : Nat} {xs : Nat → Int32} {h : am_H} (hk : k ≤ 512) (hi : 6 * k + 6 ≤ Ln) (hL : Ln ≤ 3072) (hh : hInv k h) (hs : scr Ln xs h) {P : Option Value → am_H → Prop} (hnext : ∀ h2, hInv (k + 1) h2 → scr Ln xs h2 → am_T 300 0 1477 [some (.ref am_B), some (.ref 0), some (.ref 80), some (.int (nI (6 * k)))] [] h2 P) : am_T 300 0 1092 [some (.ref am_B), some (.ref 0), some (.ref 80), some (.int (nI (6 * k)))] [] h P := by
  obtain ⟨k1, k2, k3, k4, k5⟩ := hInv_k hh
  refine tv_b (pc' := 1097) (ls' := [some (.ref am_B), some (.ref 0), some (.ref 80), some (.int (nI (6 * k)))]) (st' := [.int (nI (6 * k) + 1), .ref am_B, .ref 0]) (h' := h) 5 rfl ?_
  refine tv_top (show nI (6 * k) + 1 = nI (6 * k + 1) from nI_add (6 * k) 1) ?_
  refine tv_sc rfl hs ⟨by omega, by omega⟩ ?_
  refine tv_b (pc' := 1102) (ls' := [some (.ref am_B), some (.ref 0), some (.ref 80), some (.int (nI (6 * k)))]) (st' := [.int (nI (6 * k) + 2), .ref am_B, .int (xs (6 * k + 1)), .ref 0]) (h' := h) 4 rfl ?_
  refine tv_top (show nI (6 * k) + 2 = nI (6 * k + 2) from nI_add (6 * k) 2) ?_
  refine tv_sc rfl hs ⟨by omega, by omega⟩ ?_
  obtain ⟨z, h1, h2, e1, e2, hn, hs1, hk1, pcr, hrt⟩ := jx_law (jx_odd (x := (xs (6 * k + 1))) (y := (xs (6 * k + 2)))) hk hh hs
  obtain ⟨w, rfl⟩ := rt_I (by first | exact Or.inl rfl | exact Or.inr rfl) hrt
  refine tv_cvE [.int (xs (6 * k + 1)), .int (xs (6 * k + 2))] [] rfl rfl (by omega) rfl (Nat.le_of_ble_eq_true rfl) (Nat.le_of_ble_eq_true rfl) (Or.inr (Or.inr k2)) (ev_up (d := 200) (by decide) e1) ?_
  refine tv_b (pc' := 1111) (ls' := [some (.ref am_B), some (.ref 0), some (.ref 80), some (.int (nI (6 * k)))]) (st' := [.int (nI (6 * k) + 1), .ref am_B, .ref 80, .int w]) (h' := h1) 5 rfl ?_
  refine tv_top (show nI (6 * k) + 1 = nI (6 * k + 1) from nI_add (6 * k) 1) ?_
  refine tv_sc rfl hs1 ⟨by omega, by omega⟩ ?_
  refine tv_b (pc' := 1116) (ls' := [some (.ref am_B), some (.ref 0), some (.ref 80), some (.int (nI (6 * k)))]) (st' := [.int (nI (6 * k) + 2), .ref am_B, .int (xs (6 * k + 1)), .ref 80, .int w]) (h' := h1) 4 rfl ?_
  refine tv_top (show nI (6 * k) + 2 = nI (6 * k + 2) from nI_add (6 * k) 2) ?_
  refine tv_sc rfl hs1 ⟨by omega, by omega⟩ ?_
  refine tv_cvE [.int (xs (6 * k + 1)), .int (xs (6 * k + 2))] [.int w] rfl rfl (by omega) rfl (Nat.le_of_ble_eq_true rfl) (Nat.le_of_ble_eq_true rfl) (Or.inr (Or.inr hk1)) (ev_up (d := 200) (by decide) e2) ?_
  refine tv_b (pc' := (if w = w then 1477 else 1123)) (ls' := [some (.ref am_B), some (.ref 0), some (.ref 80), some (.int (nI (6 * k)))]) (st' := []) (h' := h2) 1 rfl ?_
  refine tv_t rfl ?_
  exact hnext h2 hn.1 hn.2
theorem lw_c27 {k Ln : Nat} {xs : Nat → Int32} {h : am_H} (hk : k ≤ 512) (hi : 6 * k + 6 ≤ Ln) (hL : Ln ≤ 3072) (hh : hInv k h) (hs : scr Ln xs h) {P : Option Value → am_H → Prop} (hnext : ∀ h2, hInv (k + 1) h2 → scr Ln xs h2 → am_T 300 0 1477 [some (.ref am_B), some (.ref 0), some (.ref 80), some (.int (nI (6 * k)))] [] h2 P) : am_T 300 0 1125 [some (.ref am_B), some (.ref 0), some (.ref 80), some (.int (nI (6 * k)))] [] h P := by
  obtain ⟨k1, k2, k3, k4, k5⟩ := hInv_k hh
  refine tv_b (pc' := 1130) (ls' := [some (.ref am_B), some (.ref 0), some (.ref 80), some (.int (nI (6 * k)))]) (st' := [.int (nI (6 * k) + 1), .ref am_B, .ref 0]) (h' := h) 5 rfl ?_
  refine tv_top (show nI (6 * k) + 1 = nI (6 * k + 1) from nI_add (6 * k) 1) ?_
  refine tv_sc rfl hs ⟨by omega, by omega⟩ ?_
  refine tv_b (pc' := 1135) (ls' := [some (.ref am_B), some (.ref 0), some (.ref 80), some (.int (nI (6 * k)))]) (st' := [.int (nI (6 * k) + 2), .ref am_B, .int (xs (6 * k + 1)), .ref 0]) (h' := h) 4 rfl ?_
  refine tv_top (show nI (6 * k) + 2 = nI (6 * k + 2) from nI_add (6 * k) 2) ?_
  refine tv_sc rfl hs ⟨by omega, by omega⟩ ?_
  refine tv_b (pc' := 1140) (ls' := [some (.ref am_B), some (.ref 0), some (.ref 80), some (.int (nI (6 * k)))]) (st' := [.int (nI (6 * k) + 3), .ref am_B, .int (xs (6 * k + 2)), .int (xs (6 * k + 1)), .ref 0]) (h' := h) 4 rfl ?_
  refine tv_top (show nI (6 * k) + 3 = nI (6 * k + 3) from nI_add (6 * k) 3) ?_
  refine tv_sc rfl hs ⟨by omega, by omega⟩ ?_
  obtain ⟨z, h1, h2, e1, e2, hn, hs1, hk1, pcr, hrt⟩ := jx_law (jx_spoon (r := (xs (6 * k + 1))) (c := (xs (6 * k + 2))) (e := (xs (6 * k + 3)))) hk hh hs
  obtain ⟨w, rfl⟩ := rt_I (by first | exact Or.inl rfl | exact Or.inr rfl) hrt
  refine tv_cvE [.int (xs (6 * k + 1)), .int (xs (6 * k + 2)), .int (xs (6 * k + 3))] [] rfl rfl (by omega) rfl (Nat.le_of_ble_eq_true rfl) (Nat.le_of_ble_eq_true rfl) (Or.inr (Or.inr k2)) (ev_up (d := 200) (by decide) e1) ?_
  refine tv_b (pc' := 1149) (ls' := [some (.ref am_B), some (.ref 0), some (.ref 80), some (.int (nI (6 * k)))]) (st' := [.int (nI (6 * k) + 1), .ref am_B, .ref 80, .int w]) (h' := h1) 5 rfl ?_
  refine tv_top (show nI (6 * k) + 1 = nI (6 * k + 1) from nI_add (6 * k) 1) ?_
  refine tv_sc rfl hs1 ⟨by omega, by omega⟩ ?_
  refine tv_b (pc' := 1154) (ls' := [some (.ref am_B), some (.ref 0), some (.ref 80), some (.int (nI (6 * k)))]) (st' := [.int (nI (6 * k) + 2), .ref am_B, .int (xs (6 * k + 1)), .ref 80, .int w]) (h' := h1) 4 rfl ?_
  refine tv_top (show nI (6 * k) + 2 = nI (6 * k + 2) from nI_add (6 * k) 2) ?_
  refine tv_sc rfl hs1 ⟨by omega, by omega⟩ ?_
  refine tv_b (pc' := 1159) (ls' := [some (.ref am_B), some (.ref 0), some (.ref 80), some (.int (nI (6 * k)))]) (st' := [.int (nI (6 * k) + 3), .ref am_B, .int (xs (6 * k + 2)), .int (xs (6 * k + 1)), .ref 80, .int w]) (h' := h1) 4 rfl ?_
  refine tv_top (show nI (6 * k) + 3 = nI (6 * k + 3) from nI_add (6 * k) 3) ?_
  refine tv_sc rfl hs1 ⟨by omega, by omega⟩ ?_
  refine tv_cvE [.int (xs (6 * k + 1)), .int (xs (6 * k + 2)), .int (xs (6 * k + 3))] [.int w] rfl rfl (by omega) rfl (Nat.le_of_ble_eq_true rfl) (Nat.le_of_ble_eq_true rfl) (Or.inr (Or.inr hk1)) (ev_up (d := 200) (by decide) e2) ?_
  refine tv_b (pc' := (if w = w then 1477 else 1166)) (ls' := [some (.ref am_B), some (.ref 0), some (.ref 80), some (.int (nI (6 * k)))]) (st' := []) (h' := h2) 1 rfl ?_
  refine tv_t rfl ?_
  exact hnext h2 hn.1 hn.2
theorem lw_c28 {k Ln : Nat} {xs : Nat → Int32} {h : am_H} (hk : k ≤ 512) (hi : 6 * k + 6 ≤ Ln) (hL : Ln ≤ 3072) (hh : hInv k h) (hs : scr Ln xs h) {P : Option Value → am_H → Prop} (hnext : ∀ h2, hInv (k + 1) h2 → scr Ln xs h2 → am_T 300 0 1477 [some (.ref am_B), some (.ref 0), some (.ref 80), some (.int (nI (6 * k)))] [] h2 P) : am_T 300 0 1168 [some (.ref am_B), some (.ref 0), some (.ref 80), some (.int (nI (6 * k)))] [] h P := by
  obtain ⟨k1, k2, k3, k4, k5⟩ := hInv_k hh
  refine tv_b (pc' := 1173) (ls' := [some (.ref am_B), some (.ref 0), some (.ref 80), some (.int (nI (6 * k)))]) (st' := [.int (nI (6 * k) + 1), .ref am_B, .ref 0]) (h' := h) 5 rfl ?_
  refine tv_top (show nI (6 * k) + 1 = nI (6 * k + 1) from nI_add (6 * k) 1) ?_
  refine tv_sc rfl hs ⟨by omega, by omega⟩ ?_
  refine tv_b (pc' := 1178) (ls' := [some (.ref am_B), some (.ref 0), some (.ref 80), some (.int (nI (6 * k)))]) (st' := [.int (nI (6 * k) + 2), .ref am_B, .int (xs (6 * k + 1)), .ref 0]) (h' := h) 4 rfl ?_
  refine tv_top (show nI (6 * k) + 2 = nI (6 * k + 2) from nI_add (6 * k) 2) ?_
  refine tv_sc rfl hs ⟨by omega, by omega⟩ ?_
  refine tv_b (pc' := 1183) (ls' := [some (.ref am_B), some (.ref 0), some (.ref 80), some (.int (nI (6 * k)))]) (st' := [.int (nI (6 * k) + 3), .ref am_B, .int (xs (6 * k + 2)), .int (xs (6 * k + 1)), .ref 0]) (h' := h) 4 rfl ?_
  refine tv_top (show nI (6 * k) + 3 = nI (6 * k + 3) from nI_add (6 * k) 3) ?_
  refine tv_sc rfl hs ⟨by omega, by omega⟩ ?_
  refine tv_b (pc' := 1188) (ls' := [some (.ref am_B), some (.ref 0), some (.ref 80), some (.int (nI (6 * k)))]) (st' := [.int (nI (6 * k) + 4), .ref am_B, .int (xs (6 * k + 3)), .int (xs (6 * k + 2)), .int (xs (6 * k + 1)), .ref 0]) (h' := h) 4 rfl ?_
  refine tv_top (show nI (6 * k) + 4 = nI (6 * k + 4) from nI_add (6 * k) 4) ?_
  refine tv_sc rfl hs ⟨by omega, by omega⟩ ?_
  obtain ⟨z, h1, h2, e1, e2, hn, hs1, hk1, pcr, hrt⟩ := jx_law (jx_spoons (x := (xs (6 * k + 1))) (y := (xs (6 * k + 2))) (z := (xs (6 * k + 3))) (w := (xs (6 * k + 4)))) hk hh hs
  obtain ⟨w, rfl⟩ := rt_I (by first | exact Or.inl rfl | exact Or.inr rfl) hrt
  refine tv_cvE [.int (xs (6 * k + 1)), .int (xs (6 * k + 2)), .int (xs (6 * k + 3)), .int (xs (6 * k + 4))] [] rfl rfl (by omega) rfl (Nat.le_of_ble_eq_true rfl) (Nat.le_of_ble_eq_true rfl) (Or.inr (Or.inr k2)) (ev_up (d := 200) (by decide) e1) ?_
  refine tv_b (pc' := 1197) (ls' := [some (.ref am_B), some (.ref 0), some (.ref 80), some (.int (nI (6 * k)))]) (st' := [.int (nI (6 * k) + 1), .ref am_B, .ref 80, .int w]) (h' := h1) 5 rfl ?_
  refine tv_top (show nI (6 * k) + 1 = nI (6 * k + 1) from nI_add (6 * k) 1) ?_
  refine tv_sc rfl hs1 ⟨by omega, by omega⟩ ?_
  refine tv_b (pc' := 1202) (ls' := [some (.ref am_B), some (.ref 0), some (.ref 80), some (.int (nI (6 * k)))]) (st' := [.int (nI (6 * k) + 2), .ref am_B, .int (xs (6 * k + 1)), .ref 80, .int w]) (h' := h1) 4 rfl ?_
  refine tv_top (show nI (6 * k) + 2 = nI (6 * k + 2) from nI_add (6 * k) 2) ?_
  refine tv_sc rfl hs1 ⟨by omega, by omega⟩ ?_
  refine tv_b (pc' := 1207) (ls' := [some (.ref am_B), some (.ref 0), some (.ref 80), some (.int (nI (6 * k)))]) (st' := [.int (nI (6 * k) + 3), .ref am_B, .int (xs (6 * k + 2)), .int (xs (6 * k + 1)), .ref 80, .int w]) (h' := h1) 4 rfl ?_
  refine tv_top (show nI (6 * k) + 3 = nI (6 * k + 3) from nI_add (6 * k) 3) ?_
  refine tv_sc rfl hs1 ⟨by omega, by omega⟩ ?_
  refine tv_b (pc' := 1212) (ls' := [some (.ref am_B), some (.ref 0), some (.ref 80), some (.int (nI (6 * k)))]) (st' := [.int (nI (6 * k) + 4), .ref am_B, .int (xs (6 * k + 3)), .int (xs (6 * k + 2)), .int (xs (6 * k + 1)), .ref 80, .int w]) (h' := h1) 4 rfl ?_
  refine tv_top (show nI (6 * k) + 4 = nI (6 * k + 4) from nI_add (6 * k) 4) ?_
  refine tv_sc rfl hs1 ⟨by omega, by omega⟩ ?_
  refine tv_cvE [.int (xs (6 * k + 1)), .int (xs (6 * k + 2)), .int (xs (6 * k + 3)), .int (xs (6 * k + 4))] [.int w] rfl rfl (by omega) rfl (Nat.le_of_ble_eq_true rfl) (Nat.le_of_ble_eq_true rfl) (Or.inr (Or.inr hk1)) (ev_up (d := 200) (by decide) e2) ?_
  refine tv_b (pc' := (if w = w then 1477 else 1219)) (ls' := [some (.ref am_B), some (.ref 0), some (.ref 80), some (.int (nI (6 * k)))]) (st' := []) (h' := h2) 1 rfl ?_
  refine tv_t rfl ?_
  exact hnext h2 hn.1 hn.2
theorem lw_c29 {k Ln : Nat} {xs : Nat → Int32} {h : am_H} (hk : k ≤ 512) (hi : 6 * k + 6 ≤ Ln) (hL : Ln ≤ 3072) (hh : hInv k h) (hs : scr Ln xs h) {P : Option Value → am_H → Prop} (hnext : ∀ h2, hInv (k + 1) h2 → scr Ln xs h2 → am_T 300 0 1477 [some (.ref am_B), some (.ref 0), some (.ref 80), some (.int (nI (6 * k)))] [] h2 P) : am_T 300 0 1221 [some (.ref am_B), some (.ref 0), some (.ref 80), some (.int (nI (6 * k)))] [] h P := by
  obtain ⟨k1, k2, k3, k4, k5⟩ := hInv_k hh
  refine tv_b (pc' := 1226) (ls' := [some (.ref am_B), some (.ref 0), some (.ref 80), some (.int (nI (6 * k)))]) (st' := [.int (nI (6 * k) + 1), .ref am_B, .ref 0]) (h' := h) 5 rfl ?_
  refine tv_top (show nI (6 * k) + 1 = nI (6 * k + 1) from nI_add (6 * k) 1) ?_
  refine tv_sc rfl hs ⟨by omega, by omega⟩ ?_
  obtain ⟨z, h1, h2, e1, e2, hn, hs1, hk1, pcr, hrt⟩ := jx_law (jx_drawn (x := (xs (6 * k + 1)))) hk hh hs
  obtain ⟨w, rfl⟩ := rt_I (by first | exact Or.inl rfl | exact Or.inr rfl) hrt
  refine tv_cvE [.int (xs (6 * k + 1))] [] rfl rfl (by omega) rfl (Nat.le_of_ble_eq_true rfl) (Nat.le_of_ble_eq_true rfl) (Or.inr (Or.inr k2)) (ev_up (d := 200) (by decide) e1) ?_
  refine tv_b (pc' := 1235) (ls' := [some (.ref am_B), some (.ref 0), some (.ref 80), some (.int (nI (6 * k)))]) (st' := [.int (nI (6 * k) + 1), .ref am_B, .ref 80, .int w]) (h' := h1) 5 rfl ?_
  refine tv_top (show nI (6 * k) + 1 = nI (6 * k + 1) from nI_add (6 * k) 1) ?_
  refine tv_sc rfl hs1 ⟨by omega, by omega⟩ ?_
  refine tv_cvE [.int (xs (6 * k + 1))] [.int w] rfl rfl (by omega) rfl (Nat.le_of_ble_eq_true rfl) (Nat.le_of_ble_eq_true rfl) (Or.inr (Or.inr hk1)) (ev_up (d := 200) (by decide) e2) ?_
  refine tv_b (pc' := (if w = w then 1477 else 1242)) (ls' := [some (.ref am_B), some (.ref 0), some (.ref 80), some (.int (nI (6 * k)))]) (st' := []) (h' := h2) 1 rfl ?_
  refine tv_t rfl ?_
  exact hnext h2 hn.1 hn.2
theorem lw_c30 {k Ln : Nat} {xs : Nat → Int32} {h : am_H} (hk : k ≤ 512) (hi : 6 * k + 6 ≤ Ln) (hL : Ln ≤ 3072) (hh : hInv k h) (hs : scr Ln xs h) {P : Option Value → am_H → Prop} (hnext : ∀ h2, hInv (k + 1) h2 → scr Ln xs h2 → am_T 300 0 1477 [some (.ref am_B), some (.ref 0), some (.ref 80), some (.int (nI (6 * k)))] [] h2 P) : am_T 300 0 1244 [some (.ref am_B), some (.ref 0), some (.ref 80), some (.int (nI (6 * k)))] [] h P := by
  obtain ⟨k1, k2, k3, k4, k5⟩ := hInv_k hh
  refine tv_b (pc' := 1249) (ls' := [some (.ref am_B), some (.ref 0), some (.ref 80), some (.int (nI (6 * k)))]) (st' := [.int (nI (6 * k) + 1), .ref am_B, .ref 0]) (h' := h) 5 rfl ?_
  refine tv_top (show nI (6 * k) + 1 = nI (6 * k + 1) from nI_add (6 * k) 1) ?_
  refine tv_sc rfl hs ⟨by omega, by omega⟩ ?_
  refine tv_b (pc' := 1254) (ls' := [some (.ref am_B), some (.ref 0), some (.ref 80), some (.int (nI (6 * k)))]) (st' := [.int (nI (6 * k) + 2), .ref am_B, .int (xs (6 * k + 1)), .ref 0]) (h' := h) 4 rfl ?_
  refine tv_top (show nI (6 * k) + 2 = nI (6 * k + 2) from nI_add (6 * k) 2) ?_
  refine tv_sc rfl hs ⟨by omega, by omega⟩ ?_
  obtain ⟨z, h1, h2, e1, e2, hn, hs1, hk1, pcr, hrt⟩ := jx_law (jx_bursts (r := (xs (6 * k + 1))) (x := (xs (6 * k + 2)))) hk hh hs
  obtain ⟨w, rfl⟩ := rt_I (by first | exact Or.inl rfl | exact Or.inr rfl) hrt
  refine tv_cvE [.int (xs (6 * k + 1)), .int (xs (6 * k + 2))] [] rfl rfl (by omega) rfl (Nat.le_of_ble_eq_true rfl) (Nat.le_of_ble_eq_true rfl) (Or.inr (Or.inr k2)) (ev_up (d := 200) (by decide) e1) ?_
  refine tv_b (pc' := 1263) (ls' := [some (.ref am_B), some (.ref 0), some (.ref 80), some (.int (nI (6 * k)))]) (st' := [.int (nI (6 * k) + 1), .ref am_B, .ref 80, .int w]) (h' := h1) 5 rfl ?_
  refine tv_top (show nI (6 * k) + 1 = nI (6 * k + 1) from nI_add (6 * k) 1) ?_
  refine tv_sc rfl hs1 ⟨by omega, by omega⟩ ?_
  refine tv_b (pc' := 1268) (ls' := [some (.ref am_B), some (.ref 0), some (.ref 80), some (.int (nI (6 * k)))]) (st' := [.int (nI (6 * k) + 2), .ref am_B, .int (xs (6 * k + 1)), .ref 80, .int w]) (h' := h1) 4 rfl ?_
  refine tv_top (show nI (6 * k) + 2 = nI (6 * k + 2) from nI_add (6 * k) 2) ?_
  refine tv_sc rfl hs1 ⟨by omega, by omega⟩ ?_
  refine tv_cvE [.int (xs (6 * k + 1)), .int (xs (6 * k + 2))] [.int w] rfl rfl (by omega) rfl (Nat.le_of_ble_eq_true rfl) (Nat.le_of_ble_eq_true rfl) (Or.inr (Or.inr hk1)) (ev_up (d := 200) (by decide) e2) ?_
  refine tv_b (pc' := (if w = w then 1477 else 1275)) (ls' := [some (.ref am_B), some (.ref 0), some (.ref 80), some (.int (nI (6 * k)))]) (st' := []) (h' := h2) 1 rfl ?_
  refine tv_t rfl ?_
  exact hnext h2 hn.1 hn.2
theorem lw_c31 {k Ln : Nat} {xs : Nat → Int32} {h : am_H} (hk : k ≤ 512) (hi : 6 * k + 6 ≤ Ln) (hL : Ln ≤ 3072) (hh : hInv k h) (hs : scr Ln xs h) {P : Option Value → am_H → Prop} (hnext : ∀ h2, hInv (k + 1) h2 → scr Ln xs h2 → am_T 300 0 1477 [some (.ref am_B), some (.ref 0), some (.ref 80), some (.int (nI (6 * k)))] [] h2 P) : am_T 300 0 1277 [some (.ref am_B), some (.ref 0), some (.ref 80), some (.int (nI (6 * k)))] [] h P := by
  obtain ⟨k1, k2, k3, k4, k5⟩ := hInv_k hh
  refine tv_b (pc' := 1282) (ls' := [some (.ref am_B), some (.ref 0), some (.ref 80), some (.int (nI (6 * k)))]) (st' := [.int (nI (6 * k) + 1), .ref am_B, .ref 0]) (h' := h) 5 rfl ?_
  refine tv_top (show nI (6 * k) + 1 = nI (6 * k + 1) from nI_add (6 * k) 1) ?_
  refine tv_sc rfl hs ⟨by omega, by omega⟩ ?_
  refine tv_b (pc' := (if (xs (6 * k + 1)) = 0 then 1290 else 1286)) (ls' := [some (.ref am_B), some (.ref 0), some (.ref 80), some (.int (nI (6 * k)))]) (st' := [.ref 0]) (h' := h) 1 rfl ?_
  refine tv_if (fun c0 => ?_) (fun c0 => ?_)
  · refine tv_b (pc' := 1295) (ls' := [some (.ref am_B), some (.ref 0), some (.ref 80), some (.int (nI (6 * k)))]) (st' := [.int (nI (6 * k) + 2), .ref am_B, .int 0, .ref 0]) (h' := h) 5 rfl ?_
    refine tv_top (show nI (6 * k) + 2 = nI (6 * k + 2) from nI_add (6 * k) 2) ?_
    refine tv_sc rfl hs ⟨by omega, by omega⟩ ?_
    refine tv_b (pc' := 1300) (ls' := [some (.ref am_B), some (.ref 0), some (.ref 80), some (.int (nI (6 * k)))]) (st' := [.int (nI (6 * k) + 3), .ref am_B, .int (xs (6 * k + 2)), .int 0, .ref 0]) (h' := h) 4 rfl ?_
    refine tv_top (show nI (6 * k) + 3 = nI (6 * k + 3) from nI_add (6 * k) 3) ?_
    refine tv_sc rfl hs ⟨by omega, by omega⟩ ?_
    obtain ⟨z, h1, h2, e1, e2, hn, hs1, hk1, pcr, hrt⟩ := jx_law (jx_first (b := 0) (x := (xs (6 * k + 2))) (y := (xs (6 * k + 3)))) hk hh hs
    obtain ⟨w, rfl⟩ := rt_I (by first | exact Or.inl rfl | exact Or.inr rfl) hrt
    refine tv_cvE [.int 0, .int (xs (6 * k + 2)), .int (xs (6 * k + 3))] [] rfl rfl (by omega) rfl (Nat.le_of_ble_eq_true rfl) (Nat.le_of_ble_eq_true rfl) (Or.inr (Or.inr k2)) (ev_up (d := 200) (by decide) e1) ?_
    refine tv_b (pc' := 1309) (ls' := [some (.ref am_B), some (.ref 0), some (.ref 80), some (.int (nI (6 * k)))]) (st' := [.int (nI (6 * k) + 1), .ref am_B, .ref 80, .int w]) (h' := h1) 5 rfl ?_
    refine tv_top (show nI (6 * k) + 1 = nI (6 * k + 1) from nI_add (6 * k) 1) ?_
    refine tv_sc rfl hs1 ⟨by omega, by omega⟩ ?_
    refine tv_b (pc' := (if (xs (6 * k + 1)) = 0 then 1317 else 1313)) (ls' := [some (.ref am_B), some (.ref 0), some (.ref 80), some (.int (nI (6 * k)))]) (st' := [.ref 80, .int w]) (h' := h1) 1 rfl ?_
    refine tv_t c0 ?_
    refine tv_b (pc' := 1322) (ls' := [some (.ref am_B), some (.ref 0), some (.ref 80), some (.int (nI (6 * k)))]) (st' := [.int (nI (6 * k) + 2), .ref am_B, .int 0, .ref 80, .int w]) (h' := h1) 5 rfl ?_
    refine tv_top (show nI (6 * k) + 2 = nI (6 * k + 2) from nI_add (6 * k) 2) ?_
    refine tv_sc rfl hs1 ⟨by omega, by omega⟩ ?_
    refine tv_b (pc' := 1327) (ls' := [some (.ref am_B), some (.ref 0), some (.ref 80), some (.int (nI (6 * k)))]) (st' := [.int (nI (6 * k) + 3), .ref am_B, .int (xs (6 * k + 2)), .int 0, .ref 80, .int w]) (h' := h1) 4 rfl ?_
    refine tv_top (show nI (6 * k) + 3 = nI (6 * k + 3) from nI_add (6 * k) 3) ?_
    refine tv_sc rfl hs1 ⟨by omega, by omega⟩ ?_
    refine tv_cvE [.int 0, .int (xs (6 * k + 2)), .int (xs (6 * k + 3))] [.int w] rfl rfl (by omega) rfl (Nat.le_of_ble_eq_true rfl) (Nat.le_of_ble_eq_true rfl) (Or.inr (Or.inr hk1)) (ev_up (d := 200) (by decide) e2) ?_
    refine tv_b (pc' := (if w = w then 1477 else 1334)) (ls' := [some (.ref am_B), some (.ref 0), some (.ref 80), some (.int (nI (6 * k)))]) (st' := []) (h' := h2) 1 rfl ?_
    refine tv_t rfl ?_
    exact hnext h2 hn.1 hn.2
  · refine tv_b (pc' := 1295) (ls' := [some (.ref am_B), some (.ref 0), some (.ref 80), some (.int (nI (6 * k)))]) (st' := [.int (nI (6 * k) + 2), .ref am_B, .int 1, .ref 0]) (h' := h) 6 rfl ?_
    refine tv_top (show nI (6 * k) + 2 = nI (6 * k + 2) from nI_add (6 * k) 2) ?_
    refine tv_sc rfl hs ⟨by omega, by omega⟩ ?_
    refine tv_b (pc' := 1300) (ls' := [some (.ref am_B), some (.ref 0), some (.ref 80), some (.int (nI (6 * k)))]) (st' := [.int (nI (6 * k) + 3), .ref am_B, .int (xs (6 * k + 2)), .int 1, .ref 0]) (h' := h) 4 rfl ?_
    refine tv_top (show nI (6 * k) + 3 = nI (6 * k + 3) from nI_add (6 * k) 3) ?_
    refine tv_sc rfl hs ⟨by omega, by omega⟩ ?_
    obtain ⟨z, h1, h2, e1, e2, hn, hs1, hk1, pcr, hrt⟩ := jx_law (jx_first (b := 1) (x := (xs (6 * k + 2))) (y := (xs (6 * k + 3)))) hk hh hs
    obtain ⟨w, rfl⟩ := rt_I (by first | exact Or.inl rfl | exact Or.inr rfl) hrt
    refine tv_cvE [.int 1, .int (xs (6 * k + 2)), .int (xs (6 * k + 3))] [] rfl rfl (by omega) rfl (Nat.le_of_ble_eq_true rfl) (Nat.le_of_ble_eq_true rfl) (Or.inr (Or.inr k2)) (ev_up (d := 200) (by decide) e1) ?_
    refine tv_b (pc' := 1309) (ls' := [some (.ref am_B), some (.ref 0), some (.ref 80), some (.int (nI (6 * k)))]) (st' := [.int (nI (6 * k) + 1), .ref am_B, .ref 80, .int w]) (h' := h1) 5 rfl ?_
    refine tv_top (show nI (6 * k) + 1 = nI (6 * k + 1) from nI_add (6 * k) 1) ?_
    refine tv_sc rfl hs1 ⟨by omega, by omega⟩ ?_
    refine tv_b (pc' := (if (xs (6 * k + 1)) = 0 then 1317 else 1313)) (ls' := [some (.ref am_B), some (.ref 0), some (.ref 80), some (.int (nI (6 * k)))]) (st' := [.ref 80, .int w]) (h' := h1) 1 rfl ?_
    refine tv_f c0 ?_
    refine tv_b (pc' := 1322) (ls' := [some (.ref am_B), some (.ref 0), some (.ref 80), some (.int (nI (6 * k)))]) (st' := [.int (nI (6 * k) + 2), .ref am_B, .int 1, .ref 80, .int w]) (h' := h1) 6 rfl ?_
    refine tv_top (show nI (6 * k) + 2 = nI (6 * k + 2) from nI_add (6 * k) 2) ?_
    refine tv_sc rfl hs1 ⟨by omega, by omega⟩ ?_
    refine tv_b (pc' := 1327) (ls' := [some (.ref am_B), some (.ref 0), some (.ref 80), some (.int (nI (6 * k)))]) (st' := [.int (nI (6 * k) + 3), .ref am_B, .int (xs (6 * k + 2)), .int 1, .ref 80, .int w]) (h' := h1) 4 rfl ?_
    refine tv_top (show nI (6 * k) + 3 = nI (6 * k + 3) from nI_add (6 * k) 3) ?_
    refine tv_sc rfl hs1 ⟨by omega, by omega⟩ ?_
    refine tv_cvE [.int 1, .int (xs (6 * k + 2)), .int (xs (6 * k + 3))] [.int w] rfl rfl (by omega) rfl (Nat.le_of_ble_eq_true rfl) (Nat.le_of_ble_eq_true rfl) (Or.inr (Or.inr hk1)) (ev_up (d := 200) (by decide) e2) ?_
    refine tv_b (pc' := (if w = w then 1477 else 1334)) (ls' := [some (.ref am_B), some (.ref 0), some (.ref 80), some (.int (nI (6 * k)))]) (st' := []) (h' := h2) 1 rfl ?_
    refine tv_t rfl ?_
    exact hnext h2 hn.1 hn.2
theorem lw_c32 {k Ln : Nat} {xs : Nat → Int32} {h : am_H} (hk : k ≤ 512) (hi : 6 * k + 6 ≤ Ln) (hL : Ln ≤ 3072) (hh : hInv k h) (hs : scr Ln xs h) {P : Option Value → am_H → Prop} (hnext : ∀ h2, hInv (k + 1) h2 → scr Ln xs h2 → am_T 300 0 1477 [some (.ref am_B), some (.ref 0), some (.ref 80), some (.int (nI (6 * k)))] [] h2 P) : am_T 300 0 1336 [some (.ref am_B), some (.ref 0), some (.ref 80), some (.int (nI (6 * k)))] [] h P := by
  obtain ⟨k1, k2, k3, k4, k5⟩ := hInv_k hh
  refine tv_b (pc' := 1341) (ls' := [some (.ref am_B), some (.ref 0), some (.ref 80), some (.int (nI (6 * k)))]) (st' := [.int (nI (6 * k) + 1), .ref am_B, .ref 0]) (h' := h) 5 rfl ?_
  refine tv_top (show nI (6 * k) + 1 = nI (6 * k + 1) from nI_add (6 * k) 1) ?_
  refine tv_sc rfl hs ⟨by omega, by omega⟩ ?_
  refine tv_b (pc' := 1346) (ls' := [some (.ref am_B), some (.ref 0), some (.ref 80), some (.int (nI (6 * k)))]) (st' := [.int (nI (6 * k) + 2), .ref am_B, .int (xs (6 * k + 1)), .ref 0]) (h' := h) 4 rfl ?_
  refine tv_top (show nI (6 * k) + 2 = nI (6 * k + 2) from nI_add (6 * k) 2) ?_
  refine tv_sc rfl hs ⟨by omega, by omega⟩ ?_
  obtain ⟨z, h1, h2, e1, e2, hn, hs1, hk1, pcr, hrt⟩ := jx_law (jx_cause (x := (xs (6 * k + 1))) (y := (xs (6 * k + 2)))) hk hh hs
  obtain ⟨w, rfl⟩ := rt_I (by first | exact Or.inl rfl | exact Or.inr rfl) hrt
  refine tv_cvE [.int (xs (6 * k + 1)), .int (xs (6 * k + 2))] [] rfl rfl (by omega) rfl (Nat.le_of_ble_eq_true rfl) (Nat.le_of_ble_eq_true rfl) (Or.inr (Or.inr k2)) (ev_up (d := 200) (by decide) e1) ?_
  refine tv_b (pc' := 1355) (ls' := [some (.ref am_B), some (.ref 0), some (.ref 80), some (.int (nI (6 * k)))]) (st' := [.int (nI (6 * k) + 1), .ref am_B, .ref 80, .int w]) (h' := h1) 5 rfl ?_
  refine tv_top (show nI (6 * k) + 1 = nI (6 * k + 1) from nI_add (6 * k) 1) ?_
  refine tv_sc rfl hs1 ⟨by omega, by omega⟩ ?_
  refine tv_b (pc' := 1360) (ls' := [some (.ref am_B), some (.ref 0), some (.ref 80), some (.int (nI (6 * k)))]) (st' := [.int (nI (6 * k) + 2), .ref am_B, .int (xs (6 * k + 1)), .ref 80, .int w]) (h' := h1) 4 rfl ?_
  refine tv_top (show nI (6 * k) + 2 = nI (6 * k + 2) from nI_add (6 * k) 2) ?_
  refine tv_sc rfl hs1 ⟨by omega, by omega⟩ ?_
  refine tv_cvE [.int (xs (6 * k + 1)), .int (xs (6 * k + 2))] [.int w] rfl rfl (by omega) rfl (Nat.le_of_ble_eq_true rfl) (Nat.le_of_ble_eq_true rfl) (Or.inr (Or.inr hk1)) (ev_up (d := 200) (by decide) e2) ?_
  refine tv_b (pc' := (if w = w then 1477 else 1367)) (ls' := [some (.ref am_B), some (.ref 0), some (.ref 80), some (.int (nI (6 * k)))]) (st' := []) (h' := h2) 1 rfl ?_
  refine tv_t rfl ?_
  exact hnext h2 hn.1 hn.2
theorem lw_c33 {k Ln : Nat} {xs : Nat → Int32} {h : am_H} (hk : k ≤ 512) (hi : 6 * k + 6 ≤ Ln) (hL : Ln ≤ 3072) (hh : hInv k h) (hs : scr Ln xs h) {P : Option Value → am_H → Prop} (hnext : ∀ h2, hInv (k + 1) h2 → scr Ln xs h2 → am_T 300 0 1477 [some (.ref am_B), some (.ref 0), some (.ref 80), some (.int (nI (6 * k)))] [] h2 P) : am_T 300 0 1369 [some (.ref am_B), some (.ref 0), some (.ref 80), some (.int (nI (6 * k)))] [] h P := by
  obtain ⟨k1, k2, k3, k4, k5⟩ := hInv_k hh
  refine tv_b (pc' := 1370) (ls' := [some (.ref am_B), some (.ref 0), some (.ref 80), some (.int (nI (6 * k)))]) (st' := [.ref 0]) (h' := h) 1 rfl ?_
  obtain ⟨z, h1, h2, e1, e2, hn, hs1, hk1, pcr, hrt⟩ := jx_law (jx_forget) hk hh hs
  obtain ⟨w, rfl⟩ := rt_I (by first | exact Or.inl rfl | exact Or.inr rfl) hrt
  refine tv_cvE [] [] rfl rfl (by omega) rfl (Nat.le_of_ble_eq_true rfl) (Nat.le_of_ble_eq_true rfl) (Or.inr (Or.inr k2)) (ev_up (d := 200) (by decide) e1) ?_
  refine tv_b (pc' := 1374) (ls' := [some (.ref am_B), some (.ref 0), some (.ref 80), some (.int (nI (6 * k)))]) (st' := [.ref 80, .int w]) (h' := h1) 1 rfl ?_
  refine tv_cvE [] [.int w] rfl rfl (by omega) rfl (Nat.le_of_ble_eq_true rfl) (Nat.le_of_ble_eq_true rfl) (Or.inr (Or.inr hk1)) (ev_up (d := 200) (by decide) e2) ?_
  refine tv_b (pc' := (if w = w then 1477 else 1380)) (ls' := [some (.ref am_B), some (.ref 0), some (.ref 80), some (.int (nI (6 * k)))]) (st' := []) (h' := h2) 1 rfl ?_
  refine tv_t rfl ?_
  exact hnext h2 hn.1 hn.2
theorem lw_c34 {k Ln : Nat} {xs : Nat → Int32} {h : am_H} (hk : k ≤ 512) (hi : 6 * k + 6 ≤ Ln) (hL : Ln ≤ 3072) (hh : hInv k h) (hs : scr Ln xs h) {P : Option Value → am_H → Prop} (hnext : ∀ h2, hInv (k + 1) h2 → scr Ln xs h2 → am_T 300 0 1477 [some (.ref am_B), some (.ref 0), some (.ref 80), some (.int (nI (6 * k)))] [] h2 P) : am_T 300 0 1382 [some (.ref am_B), some (.ref 0), some (.ref 80), some (.int (nI (6 * k)))] [] h P := by
  obtain ⟨k1, k2, k3, k4, k5⟩ := hInv_k hh
  refine tv_b (pc' := 1387) (ls' := [some (.ref am_B), some (.ref 0), some (.ref 80), some (.int (nI (6 * k)))]) (st' := [.int (nI (6 * k) + 1), .ref am_B, .ref 0]) (h' := h) 5 rfl ?_
  refine tv_top (show nI (6 * k) + 1 = nI (6 * k + 1) from nI_add (6 * k) 1) ?_
  refine tv_sc rfl hs ⟨by omega, by omega⟩ ?_
  refine tv_b (pc' := 1392) (ls' := [some (.ref am_B), some (.ref 0), some (.ref 80), some (.int (nI (6 * k)))]) (st' := [.int (nI (6 * k) + 2), .ref am_B, .int (xs (6 * k + 1)), .ref 0]) (h' := h) 4 rfl ?_
  refine tv_top (show nI (6 * k) + 2 = nI (6 * k + 2) from nI_add (6 * k) 2) ?_
  refine tv_sc rfl hs ⟨by omega, by omega⟩ ?_
  refine tv_b (pc' := (if (xs (6 * k + 2)) = 0 then 1400 else 1396)) (ls' := [some (.ref am_B), some (.ref 0), some (.ref 80), some (.int (nI (6 * k)))]) (st' := [.int (xs (6 * k + 1)), .ref 0]) (h' := h) 1 rfl ?_
  refine tv_if (fun c0 => ?_) (fun c0 => ?_)
  · refine tv_b (pc' := 1401) (ls' := [some (.ref am_B), some (.ref 0), some (.ref 80), some (.int (nI (6 * k)))]) (st' := [.int 0, .int (xs (6 * k + 1)), .ref 0]) (h' := h) 1 rfl ?_
    obtain ⟨z, h1, h2, e1, e2, hn, hs1, hk1, pcr, hrt⟩ := jx_law (jx_lurch (x := (xs (6 * k + 1))) (b := 0)) hk hh hs
    obtain ⟨w, rfl⟩ := rt_I (by first | exact Or.inl rfl | exact Or.inr rfl) hrt
    refine tv_cvE [.int (xs (6 * k + 1)), .int 0] [] rfl rfl (by omega) rfl (Nat.le_of_ble_eq_true rfl) (Nat.le_of_ble_eq_true rfl) (Or.inr (Or.inr k2)) (ev_up (d := 200) (by decide) e1) ?_
    refine tv_b (pc' := 1409) (ls' := [some (.ref am_B), some (.ref 0), some (.ref 80), some (.int (nI (6 * k)))]) (st' := [.int (nI (6 * k) + 1), .ref am_B, .ref 80, .int w]) (h' := h1) 5 rfl ?_
    refine tv_top (show nI (6 * k) + 1 = nI (6 * k + 1) from nI_add (6 * k) 1) ?_
    refine tv_sc rfl hs1 ⟨by omega, by omega⟩ ?_
    refine tv_b (pc' := 1414) (ls' := [some (.ref am_B), some (.ref 0), some (.ref 80), some (.int (nI (6 * k)))]) (st' := [.int (nI (6 * k) + 2), .ref am_B, .int (xs (6 * k + 1)), .ref 80, .int w]) (h' := h1) 4 rfl ?_
    refine tv_top (show nI (6 * k) + 2 = nI (6 * k + 2) from nI_add (6 * k) 2) ?_
    refine tv_sc rfl hs1 ⟨by omega, by omega⟩ ?_
    refine tv_b (pc' := (if (xs (6 * k + 2)) = 0 then 1422 else 1418)) (ls' := [some (.ref am_B), some (.ref 0), some (.ref 80), some (.int (nI (6 * k)))]) (st' := [.int (xs (6 * k + 1)), .ref 80, .int w]) (h' := h1) 1 rfl ?_
    refine tv_t c0 ?_
    refine tv_b (pc' := 1423) (ls' := [some (.ref am_B), some (.ref 0), some (.ref 80), some (.int (nI (6 * k)))]) (st' := [.int 0, .int (xs (6 * k + 1)), .ref 80, .int w]) (h' := h1) 1 rfl ?_
    refine tv_cvE [.int (xs (6 * k + 1)), .int 0] [.int w] rfl rfl (by omega) rfl (Nat.le_of_ble_eq_true rfl) (Nat.le_of_ble_eq_true rfl) (Or.inr (Or.inr hk1)) (ev_up (d := 200) (by decide) e2) ?_
    refine tv_b (pc' := (if w = w then 1477 else 1429)) (ls' := [some (.ref am_B), some (.ref 0), some (.ref 80), some (.int (nI (6 * k)))]) (st' := []) (h' := h2) 1 rfl ?_
    refine tv_t rfl ?_
    exact hnext h2 hn.1 hn.2
  · refine tv_b (pc' := 1401) (ls' := [some (.ref am_B), some (.ref 0), some (.ref 80), some (.int (nI (6 * k)))]) (st' := [.int 1, .int (xs (6 * k + 1)), .ref 0]) (h' := h) 2 rfl ?_
    obtain ⟨z, h1, h2, e1, e2, hn, hs1, hk1, pcr, hrt⟩ := jx_law (jx_lurch (x := (xs (6 * k + 1))) (b := 1)) hk hh hs
    obtain ⟨w, rfl⟩ := rt_I (by first | exact Or.inl rfl | exact Or.inr rfl) hrt
    refine tv_cvE [.int (xs (6 * k + 1)), .int 1] [] rfl rfl (by omega) rfl (Nat.le_of_ble_eq_true rfl) (Nat.le_of_ble_eq_true rfl) (Or.inr (Or.inr k2)) (ev_up (d := 200) (by decide) e1) ?_
    refine tv_b (pc' := 1409) (ls' := [some (.ref am_B), some (.ref 0), some (.ref 80), some (.int (nI (6 * k)))]) (st' := [.int (nI (6 * k) + 1), .ref am_B, .ref 80, .int w]) (h' := h1) 5 rfl ?_
    refine tv_top (show nI (6 * k) + 1 = nI (6 * k + 1) from nI_add (6 * k) 1) ?_
    refine tv_sc rfl hs1 ⟨by omega, by omega⟩ ?_
    refine tv_b (pc' := 1414) (ls' := [some (.ref am_B), some (.ref 0), some (.ref 80), some (.int (nI (6 * k)))]) (st' := [.int (nI (6 * k) + 2), .ref am_B, .int (xs (6 * k + 1)), .ref 80, .int w]) (h' := h1) 4 rfl ?_
    refine tv_top (show nI (6 * k) + 2 = nI (6 * k + 2) from nI_add (6 * k) 2) ?_
    refine tv_sc rfl hs1 ⟨by omega, by omega⟩ ?_
    refine tv_b (pc' := (if (xs (6 * k + 2)) = 0 then 1422 else 1418)) (ls' := [some (.ref am_B), some (.ref 0), some (.ref 80), some (.int (nI (6 * k)))]) (st' := [.int (xs (6 * k + 1)), .ref 80, .int w]) (h' := h1) 1 rfl ?_
    refine tv_f c0 ?_
    refine tv_b (pc' := 1423) (ls' := [some (.ref am_B), some (.ref 0), some (.ref 80), some (.int (nI (6 * k)))]) (st' := [.int 1, .int (xs (6 * k + 1)), .ref 80, .int w]) (h' := h1) 2 rfl ?_
    refine tv_cvE [.int (xs (6 * k + 1)), .int 1] [.int w] rfl rfl (by omega) rfl (Nat.le_of_ble_eq_true rfl) (Nat.le_of_ble_eq_true rfl) (Or.inr (Or.inr hk1)) (ev_up (d := 200) (by decide) e2) ?_
    refine tv_b (pc' := (if w = w then 1477 else 1429)) (ls' := [some (.ref am_B), some (.ref 0), some (.ref 80), some (.int (nI (6 * k)))]) (st' := []) (h' := h2) 1 rfl ?_
    refine tv_t rfl ?_
    exact hnext h2 hn.1 hn.2
theorem lw_c35 {k Ln : Nat} {xs : Nat → Int32} {h : am_H} (hk : k ≤ 512) (hi : 6 * k + 6 ≤ Ln) (hL : Ln ≤ 3072) (hh : hInv k h) (hs : scr Ln xs h) {P : Option Value → am_H → Prop} (hnext : ∀ h2, hInv (k + 1) h2 → scr Ln xs h2 → am_T 300 0 1477 [some (.ref am_B), some (.ref 0), some (.ref 80), some (.int (nI (6 * k)))] [] h2 P) : am_T 300 0 1431 [some (.ref am_B), some (.ref 0), some (.ref 80), some (.int (nI (6 * k)))] [] h P := by
  obtain ⟨k1, k2, k3, k4, k5⟩ := hInv_k hh
  refine tv_b (pc' := 1436) (ls' := [some (.ref am_B), some (.ref 0), some (.ref 80), some (.int (nI (6 * k)))]) (st' := [.int (nI (6 * k) + 1), .ref am_B, .ref 0]) (h' := h) 5 rfl ?_
  refine tv_top (show nI (6 * k) + 1 = nI (6 * k + 1) from nI_add (6 * k) 1) ?_
  refine tv_sc rfl hs ⟨by omega, by omega⟩ ?_
  obtain ⟨z, h1, h2, e1, e2, hn, hs1, hk1, pcr, hrt⟩ := jx_law (jx_sets (x := (xs (6 * k + 1)))) hk hh hs
  obtain ⟨w, rfl⟩ := rt_I (by first | exact Or.inl rfl | exact Or.inr rfl) hrt
  refine tv_cvE [.int (xs (6 * k + 1))] [] rfl rfl (by omega) rfl (Nat.le_of_ble_eq_true rfl) (Nat.le_of_ble_eq_true rfl) (Or.inr (Or.inr k2)) (ev_up (d := 200) (by decide) e1) ?_
  refine tv_b (pc' := 1445) (ls' := [some (.ref am_B), some (.ref 0), some (.ref 80), some (.int (nI (6 * k)))]) (st' := [.int (nI (6 * k) + 1), .ref am_B, .ref 80, .int w]) (h' := h1) 5 rfl ?_
  refine tv_top (show nI (6 * k) + 1 = nI (6 * k + 1) from nI_add (6 * k) 1) ?_
  refine tv_sc rfl hs1 ⟨by omega, by omega⟩ ?_
  refine tv_cvE [.int (xs (6 * k + 1))] [.int w] rfl rfl (by omega) rfl (Nat.le_of_ble_eq_true rfl) (Nat.le_of_ble_eq_true rfl) (Or.inr (Or.inr hk1)) (ev_up (d := 200) (by decide) e2) ?_
  refine tv_b (pc' := (if w = w then 1477 else 1452)) (ls' := [some (.ref am_B), some (.ref 0), some (.ref 80), some (.int (nI (6 * k)))]) (st' := []) (h' := h2) 1 rfl ?_
  refine tv_t rfl ?_
  exact hnext h2 hn.1 hn.2
theorem lw_c36 {k Ln : Nat} {xs : Nat → Int32} {h : am_H} (hk : k ≤ 512) (hi : 6 * k + 6 ≤ Ln) (hL : Ln ≤ 3072) (hh : hInv k h) (hs : scr Ln xs h) {P : Option Value → am_H → Prop} (hnext : ∀ h2, hInv (k + 1) h2 → scr Ln xs h2 → am_T 300 0 1477 [some (.ref am_B), some (.ref 0), some (.ref 80), some (.int (nI (6 * k)))] [] h2 P) : am_T 300 0 1454 [some (.ref am_B), some (.ref 0), some (.ref 80), some (.int (nI (6 * k)))] [] h P := by
  obtain ⟨k1, k2, k3, k4, k5⟩ := hInv_k hh
  refine tv_b (pc' := 1459) (ls' := [some (.ref am_B), some (.ref 0), some (.ref 80), some (.int (nI (6 * k)))]) (st' := [.int (nI (6 * k) + 1), .ref am_B, .ref 0]) (h' := h) 5 rfl ?_
  refine tv_top (show nI (6 * k) + 1 = nI (6 * k + 1) from nI_add (6 * k) 1) ?_
  refine tv_sc rfl hs ⟨by omega, by omega⟩ ?_
  obtain ⟨z, h1, h2, e1, e2, hn, hs1, hk1, pcr, hrt⟩ := jx_law (jx_all (x := (xs (6 * k + 1)))) hk hh hs
  obtain ⟨w, rfl⟩ := rt_I (by first | exact Or.inl rfl | exact Or.inr rfl) hrt
  refine tv_cvE [.int (xs (6 * k + 1))] [] rfl rfl (by omega) rfl (Nat.le_of_ble_eq_true rfl) (Nat.le_of_ble_eq_true rfl) (Or.inr (Or.inr k2)) (ev_up (d := 200) (by decide) e1) ?_
  refine tv_b (pc' := 1468) (ls' := [some (.ref am_B), some (.ref 0), some (.ref 80), some (.int (nI (6 * k)))]) (st' := [.int (nI (6 * k) + 1), .ref am_B, .ref 80, .int w]) (h' := h1) 5 rfl ?_
  refine tv_top (show nI (6 * k) + 1 = nI (6 * k + 1) from nI_add (6 * k) 1) ?_
  refine tv_sc rfl hs1 ⟨by omega, by omega⟩ ?_
  refine tv_cvE [.int (xs (6 * k + 1))] [.int w] rfl rfl (by omega) rfl (Nat.le_of_ble_eq_true rfl) (Nat.le_of_ble_eq_true rfl) (Or.inr (Or.inr hk1)) (ev_up (d := 200) (by decide) e2) ?_
  refine tv_b (pc' := (if w = w then 1477 else 1475)) (ls' := [some (.ref am_B), some (.ref 0), some (.ref 80), some (.int (nI (6 * k)))]) (st' := []) (h' := h2) 1 rfl ?_
  refine tv_t rfl ?_
  exact hnext h2 hn.1 hn.2
theorem h_up1 {k : Nat} {h : am_H} (hh : hInv k h) : hInv (k + 1) h := by
  obtain ⟨n, sl, kk, I, L, q, rfl, C, ah, M, tx, T, g, hr, ht, hu, hs, hc, hj, hn, hsl⟩ := hh
  obtain ⟨u, v, e1, e2, e3, e4, e5⟩ := hj
  exact ⟨n, sl, kk, I, L, q, rfl, C, ah, M, tx, T, g, hr, ht, hu, hs, hc, ⟨u, v, e1, e2, by omega, by omega, e5⟩, by omega, sl_up hsl (Nat.le_add_right _ _)⟩
theorem six_lt {k Ln : Nat} (hk : k ≤ 512) (hL : Ln ≤ 3072) : nI Ln - 6 < nI (6 * k) ↔ Ln < 6 * k + 6 := by
  rw [nI_j, nI_j, show (6 : Int32) = jI 6 from rfl, jI_sub, Int32.lt_iff_toInt_lt, jI_toInt ⟨by omega, by omega⟩, jI_toInt ⟨by omega, by omega⟩]
  omega
theorem lw_sw {x : Int32} {n : Nat} (h : x.toInt.toNat = n) (h0 : ¬ (x.toInt < 0 ∨ 36 < x.toInt)) {dt : Nat} {ts : List Nat} : (if x.toInt < 0 ∨ 36 < x.toInt then dt else ts.getD (x.toInt - 0).toNat dt) = ts.getD n dt := by
  rw [if_neg h0, Int.sub_zero, h]
set_option maxHeartbeats 4000000 in
theorem lw_loop {Ln : Nat} {xs : Nat → Int32} (hL : Ln ≤ 3072) : ∀ m k : Nat, k + m = 512 → ∀ h : am_H, hInv k h → scr Ln xs h → am_T 300 0 18 [some (.ref am_B), some (.ref 0), some (.ref 80), some (.int (nI (6 * k)))] [] h (fun rv h' => rv = some (.int 1) ∧ h'.1 ≤ 600000 ∧ h'.2.1 ≤ 7302250) := by
  intro m
  induction m with
  | zero =>
    intro k hk h hh hs
    obtain ⟨k1, k2, k3, k4, k5⟩ := hInv_k hh
    refine tv_b (pc' := 20) (ls' := [some (.ref am_B), some (.ref 0), some (.ref 80), some (.int (nI (6 * k)))]) (st' := [.ref am_B, .int (nI (6 * k))]) (h' := h) 2 rfl ?_
    refine tv_sl rfl hs ?_
    refine tv_b (pc' := (if nI Ln - 6 < nI (6 * k) then 1483 else 27)) (ls' := [some (.ref am_B), some (.ref 0), some (.ref 80), some (.int (nI (6 * k)))]) (st' := []) (h' := h) 3 rfl ?_
    refine tv_t ((six_lt (by omega) hL).mpr (by omega)) ?_
    refine tv_b (pc' := 1484) (ls' := [some (.ref am_B), some (.ref 0), some (.ref 80), some (.int (nI (6 * k)))]) (st' := [.int 1]) (h' := h) 1 rfl ?_
    exact tv_rz rfl (Or.inr rfl) ⟨rfl, by omega, by omega⟩
  | succ m ih =>
    intro k hk h hh hs
    obtain ⟨k1, k2, k3, k4, k5⟩ := hInv_k hh
    have hnext : ∀ h2, hInv (k + 1) h2 → scr Ln xs h2 → am_T 300 0 1477 [some (.ref am_B), some (.ref 0), some (.ref 80), some (.int (nI (6 * k)))] [] h2 (fun rv h' => rv = some (.int 1) ∧ h'.1 ≤ 600000 ∧ h'.2.1 ≤ 7302250) := fun h2 i1 i2 => by
      refine tv_iincE (j := 3) (c := 6) (x := nI (6 * k)) (y := nI (6 * (k + 1))) rfl rfl (nI_add (6 * k) 6) rfl ?_
      refine tv_b (pc' := 18) (ls' := [some (.ref am_B), some (.ref 0), some (.ref 80), some (.int (nI (6 * (k + 1))))]) (st' := []) (h' := h2) 1 rfl ?_
      exact ih (k + 1) (by omega) h2 i1 i2
    refine tv_b (pc' := 20) (ls' := [some (.ref am_B), some (.ref 0), some (.ref 80), some (.int (nI (6 * k)))]) (st' := [.ref am_B, .int (nI (6 * k))]) (h' := h) 2 rfl ?_
    refine tv_sl rfl hs ?_
    refine tv_b (pc' := (if nI Ln - 6 < nI (6 * k) then 1483 else 27)) (ls' := [some (.ref am_B), some (.ref 0), some (.ref 80), some (.int (nI (6 * k)))]) (st' := []) (h' := h) 3 rfl ?_
    refine tv_ifq (six_lt (by omega) hL) (fun c => ?_) (fun c => ?_)
    · refine tv_b (pc' := 1484) (ls' := [some (.ref am_B), some (.ref 0), some (.ref 80), some (.int (nI (6 * k)))]) (st' := [.int 1]) (h' := h) 1 rfl ?_
      exact tv_rz rfl (Or.inr rfl) ⟨rfl, by omega, by omega⟩
    · have hi : 6 * k + 6 ≤ Ln := by omega
      have hk5 : k ≤ 512 := by omega
      refine tv_b (pc' := 29) (ls' := [some (.ref am_B), some (.ref 0), some (.ref 80), some (.int (nI (6 * k)))]) (st' := [.int (nI (6 * k)), .ref am_B]) (h' := h) 2 rfl ?_
      refine tv_sc rfl hs ⟨by omega, by omega⟩ ?_
      refine tv_b (pc' := 33) (ls' := [some (.ref am_B), some (.ref 0), some (.ref 80), some (.int (nI (6 * k)))]) (st' := [.int (xs (6 * k) &&& 63)]) (h' := h) 2 rfl ?_
      refine tv_tsw rfl ?_
      generalize xs (6 * k) &&& 63 = x
      by_cases h0 : x.toInt < 0 ∨ 36 < x.toInt
      · rw [if_pos h0]
        exact hnext h (h_up1 hh) hs
      · obtain ⟨n, hn⟩ : ∃ n, x.toInt.toNat = n := ⟨_, rfl⟩
        have hn37 : n < 37 := by omega
        rw [lw_sw hn h0]
        have hc : n = 0 ∨ n = 1 ∨ n = 2 ∨ n = 3 ∨ n = 4 ∨ n = 5 ∨ n = 6 ∨ n = 7 ∨ n = 8 ∨ n = 9 ∨ n = 10 ∨ n = 11 ∨ n = 12 ∨ n = 13 ∨ n = 14 ∨ n = 15 ∨ n = 16 ∨ n = 17 ∨ n = 18 ∨ n = 19 ∨ n = 20 ∨ n = 21 ∨ n = 22 ∨ n = 23 ∨ n = 24 ∨ n = 25 ∨ n = 26 ∨ n = 27 ∨ n = 28 ∨ n = 29 ∨ n = 30 ∨ n = 31 ∨ n = 32 ∨ n = 33 ∨ n = 34 ∨ n = 35 ∨ n = 36 := by omega
        rcases hc with rfl | rfl | rfl | rfl | rfl | rfl | rfl | rfl | rfl | rfl | rfl | rfl | rfl | rfl | rfl | rfl | rfl | rfl | rfl | rfl | rfl | rfl | rfl | rfl | rfl | rfl | rfl | rfl | rfl | rfl | rfl | rfl | rfl | rfl | rfl | rfl | rfl
        · exact lw_c0 hk5 hi hL hh hs hnext
        · exact lw_c1 hk5 hi hL hh hs hnext
        · exact lw_c2 hk5 hi hL hh hs hnext
        · exact lw_c3 hk5 hi hL hh hs hnext
        · exact lw_c4 hk5 hi hL hh hs hnext
        · exact lw_c5 hk5 hi hL hh hs hnext
        · exact lw_c6 hk5 hi hL hh hs hnext
        · exact lw_c7 hk5 hi hL hh hs hnext
        · exact lw_c8 hk5 hi hL hh hs hnext
        · exact lw_c9 hk5 hi hL hh hs hnext
        · exact lw_c10 hk5 hi hL hh hs hnext
        · exact lw_c11 hk5 hi hL hh hs hnext
        · exact lw_c12 hk5 hi hL hh hs hnext
        · exact lw_c13 hk5 hi hL hh hs hnext
        · exact lw_c14 hk5 hi hL hh hs hnext
        · exact lw_c15 hk5 hi hL hh hs hnext
        · exact lw_c16 hk5 hi hL hh hs hnext
        · exact lw_c17 hk5 hi hL hh hs hnext
        · exact lw_c18 hk5 hi hL hh hs hnext
        · exact lw_c19 hk5 hi hL hh hs hnext
        · exact lw_c20 hk5 hi hL hh hs hnext
        · exact lw_c21 hk5 hi hL hh hs hnext
        · exact lw_c22 hk5 hi hL hh hs hnext
        · exact lw_c23 hk5 hi hL hh hs hnext
        · exact lw_c24 hk5 hi hL hh hs hnext
        · exact lw_c25 hk5 hi hL hh hs hnext
        · exact lw_c26 hk5 hi hL hh hs hnext
        · exact lw_c27 hk5 hi hL hh hs hnext
        · exact lw_c28 hk5 hi hL hh hs hnext
        · exact lw_c29 hk5 hi hL hh hs hnext
        · exact lw_c30 hk5 hi hL hh hs hnext
        · exact lw_c31 hk5 hi hL hh hs hnext
        · exact lw_c32 hk5 hi hL hh hs hnext
        · exact lw_c33 hk5 hi hL hh hs hnext
        · exact lw_c34 hk5 hi hL hh hs hnext
        · exact lw_c35 hk5 hi hL hh hs hnext
        · exact lw_c36 hk5 hi hL hh hs hnext
