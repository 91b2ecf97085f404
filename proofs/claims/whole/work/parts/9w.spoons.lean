/-! SPOONS ALIKE -/
theorem ev_x_spoO {n sl : Nat} {kk : Nat → Nat × Nat} {I : Nat → Nat → Int32} {L : Nat → Nat → Int64} {q : Nat → Nat → Option Nat} {x y z w : Int32} (h : sp_isDay x = 0 ∨ sp_isWithin y.toInt64 1 8 = 0 ∨ 400 < x + y ∨ sp_isWithin w.toInt64 0 1000000000 = 0) : am_Ev 2 137 0 (am_ent 5 [.ref 0, .int x, .int y, .int z, .int w]) [] (n, sl, wKK kk, I, L, wQQ q) (some (.int (-1)), (n, sl, wKK kk, I, L, wQQ q)) := by
  refine tv_ev ?_
  show am_T _ _ 0 [some (.ref 0), some (.int x), some (.int y), some (.int z), some (.int w)] _ _ _
  refine tv_b (pc' := 1) (ls' := [some (.ref 0), some (.int x), some (.int y), some (.int z), some (.int w)]) (st' := [.int x]) (h' := (n, sl, wKK kk, I, L, wQQ q)) 1 rfl ?_
  refine tv_csE [.int x] [] rfl rfl (by omega) rfl (Nat.le_of_ble_eq_true rfl) (Nat.le_of_ble_eq_true rfl) (ev_isDay) ?_
  refine tv_b (pc' := (if (sp_isDay x) = 0 then 41 else 7)) (ls' := [some (.ref 0), some (.int x), some (.int y), some (.int z), some (.int w)]) (st' := []) (h' := (n, sl, wKK kk, I, L, wQQ q)) 1 rfl ?_
  refine tv_if (fun d0 => ?_) (fun d0 => ?_)
  · refine tv_b (pc' := 42) (ls' := [some (.ref 0), some (.int x), some (.int y), some (.int z), some (.int w)]) (st' := [.int (-1)]) (h' := (n, sl, wKK kk, I, L, wQQ q)) 1 rfl ?_
    exact tv_ri rfl ⟨rfl, rfl⟩
  · refine tv_b (pc' := 13) (ls' := [some (.ref 0), some (.int x), some (.int y), some (.int z), some (.int w)]) (st' := [.long 8, .long 1, .long y.toInt64]) (h' := (n, sl, wKK kk, I, L, wQQ q)) 4 rfl ?_
    refine tv_csE [.long y.toInt64, .long 1, .long 8] [] rfl rfl (by omega) rfl (Nat.le_of_ble_eq_true rfl) (Nat.le_of_ble_eq_true rfl) (ev_isWithin) ?_
    refine tv_b (pc' := (if (sp_isWithin y.toInt64 1 8) = 0 then 41 else 19)) (ls' := [some (.ref 0), some (.int x), some (.int y), some (.int z), some (.int w)]) (st' := []) (h' := (n, sl, wKK kk, I, L, wQQ q)) 1 rfl ?_
    refine tv_if (fun d1 => ?_) (fun d1 => ?_)
    · refine tv_b (pc' := 42) (ls' := [some (.ref 0), some (.int x), some (.int y), some (.int z), some (.int w)]) (st' := [.int (-1)]) (h' := (n, sl, wKK kk, I, L, wQQ q)) 1 rfl ?_
      exact tv_ri rfl ⟨rfl, rfl⟩
    · refine tv_b (pc' := (if 400 < (x + y) then 41 else 28)) (ls' := [some (.ref 0), some (.int x), some (.int y), some (.int z), some (.int w)]) (st' := []) (h' := (n, sl, wKK kk, I, L, wQQ q)) 5 rfl ?_
      refine tv_if (fun d2 => ?_) (fun d2 => ?_)
      · refine tv_b (pc' := 42) (ls' := [some (.ref 0), some (.int x), some (.int y), some (.int z), some (.int w)]) (st' := [.int (-1)]) (h' := (n, sl, wKK kk, I, L, wQQ q)) 1 rfl ?_
        exact tv_ri rfl ⟨rfl, rfl⟩
      · refine tv_b (pc' := 35) (ls' := [some (.ref 0), some (.int x), some (.int y), some (.int z), some (.int w)]) (st' := [.long 1000000000, .long 0, .long w.toInt64]) (h' := (n, sl, wKK kk, I, L, wQQ q)) 4 rfl ?_
        refine tv_csE [.long w.toInt64, .long 0, .long 1000000000] [] rfl rfl (by omega) rfl (Nat.le_of_ble_eq_true rfl) (Nat.le_of_ble_eq_true rfl) (ev_isWithin) ?_
        refine tv_b (pc' := (if (sp_isWithin w.toInt64 0 1000000000) = 0 then 41 else 43)) (ls' := [some (.ref 0), some (.int x), some (.int y), some (.int z), some (.int w)]) (st' := []) (h' := (n, sl, wKK kk, I, L, wQQ q)) 1 rfl ?_
        refine tv_if (fun d3 => ?_) (fun d3 => ?_)
        · refine tv_b (pc' := 42) (ls' := [some (.ref 0), some (.int x), some (.int y), some (.int z), some (.int w)]) (st' := [.int (-1)]) (h' := (n, sl, wKK kk, I, L, wQQ q)) 1 rfl ?_
          exact tv_ri rfl ⟨rfl, rfl⟩
        · exact absurd h (fun h => h.elim d0 (fun h => h.elim d1 (fun h => h.elim d2 d3)))
theorem ev_m_spoO {n sl : Nat} {kk : Nat → Nat × Nat} {I : Nat → Nat → Int32} {L : Nat → Nat → Int64} {q : Nat → Nat → Option Nat} {x y z w : Int32} (h : sp_m_isDay x = 0 ∨ sp_m_is y 1 8 = 0 ∨ 400 < x + y ∨ sp_m_is w 0 1000000000 = 0) : am_Ev 3 233 0 (am_ent 12 [.ref 80, .int x, .int y, .int z, .int w]) [] (n, sl, wKK kk, I, L, wQQ q) (some (.int (-1)), (n, sl, wKK kk, I, L, wQQ q)) := by
  refine tv_ev ?_
  show am_T _ _ 0 [some (.ref 80), some (.int x), some (.int y), some (.int z), some (.int w), none, none, none, none, none, none, none] _ _ _
  refine tv_b (pc' := 1) (ls' := [some (.ref 80), some (.int x), some (.int y), some (.int z), some (.int w), none, none, none, none, none, none, none]) (st' := [.int x]) (h' := (n, sl, wKK kk, I, L, wQQ q)) 1 rfl ?_
  refine tv_csE [.int x] [] rfl rfl (by omega) rfl (Nat.le_of_ble_eq_true rfl) (Nat.le_of_ble_eq_true rfl) (ev_m_isDay) ?_
  refine tv_b (pc' := (if (sp_m_isDay x) = 0 then 38 else 7)) (ls' := [some (.ref 80), some (.int x), some (.int y), some (.int z), some (.int w), none, none, none, none, none, none, none]) (st' := []) (h' := (n, sl, wKK kk, I, L, wQQ q)) 1 rfl ?_
  refine tv_if (fun d0 => ?_) (fun d0 => ?_)
  · refine tv_b (pc' := 39) (ls' := [some (.ref 80), some (.int x), some (.int y), some (.int z), some (.int w), none, none, none, none, none, none, none]) (st' := [.int (-1)]) (h' := (n, sl, wKK kk, I, L, wQQ q)) 1 rfl ?_
    exact tv_ri rfl ⟨rfl, rfl⟩
  · refine tv_b (pc' := 11) (ls' := [some (.ref 80), some (.int x), some (.int y), some (.int z), some (.int w), none, none, none, none, none, none, none]) (st' := [.int 8, .int 1, .int y]) (h' := (n, sl, wKK kk, I, L, wQQ q)) 3 rfl ?_
    refine tv_csE [.int y, .int 1, .int 8] [] rfl rfl (by omega) rfl (Nat.le_of_ble_eq_true rfl) (Nat.le_of_ble_eq_true rfl) (ev_m_is) ?_
    refine tv_b (pc' := (if (sp_m_is y 1 8) = 0 then 38 else 17)) (ls' := [some (.ref 80), some (.int x), some (.int y), some (.int z), some (.int w), none, none, none, none, none, none, none]) (st' := []) (h' := (n, sl, wKK kk, I, L, wQQ q)) 1 rfl ?_
    refine tv_if (fun d1 => ?_) (fun d1 => ?_)
    · refine tv_b (pc' := 39) (ls' := [some (.ref 80), some (.int x), some (.int y), some (.int z), some (.int w), none, none, none, none, none, none, none]) (st' := [.int (-1)]) (h' := (n, sl, wKK kk, I, L, wQQ q)) 1 rfl ?_
      exact tv_ri rfl ⟨rfl, rfl⟩
    · refine tv_b (pc' := (if 400 < (x + y) then 38 else 26)) (ls' := [some (.ref 80), some (.int x), some (.int y), some (.int z), some (.int w), none, none, none, none, none, none, none]) (st' := []) (h' := (n, sl, wKK kk, I, L, wQQ q)) 5 rfl ?_
      refine tv_if (fun d2 => ?_) (fun d2 => ?_)
      · refine tv_b (pc' := 39) (ls' := [some (.ref 80), some (.int x), some (.int y), some (.int z), some (.int w), none, none, none, none, none, none, none]) (st' := [.int (-1)]) (h' := (n, sl, wKK kk, I, L, wQQ q)) 1 rfl ?_
        exact tv_ri rfl ⟨rfl, rfl⟩
      · refine tv_b (pc' := 32) (ls' := [some (.ref 80), some (.int x), some (.int y), some (.int z), some (.int w), none, none, none, none, none, none, none]) (st' := [.int 1000000000, .int 0, .int w]) (h' := (n, sl, wKK kk, I, L, wQQ q)) 3 rfl ?_
        refine tv_csE [.int w, .int 0, .int 1000000000] [] rfl rfl (by omega) rfl (Nat.le_of_ble_eq_true rfl) (Nat.le_of_ble_eq_true rfl) (ev_m_is) ?_
        refine tv_b (pc' := (if (sp_m_is w 0 1000000000) = 0 then 38 else 40)) (ls' := [some (.ref 80), some (.int x), some (.int y), some (.int z), some (.int w), none, none, none, none, none, none, none]) (st' := []) (h' := (n, sl, wKK kk, I, L, wQQ q)) 1 rfl ?_
        refine tv_if (fun d3 => ?_) (fun d3 => ?_)
        · refine tv_b (pc' := 39) (ls' := [some (.ref 80), some (.int x), some (.int y), some (.int z), some (.int w), none, none, none, none, none, none, none]) (st' := [.int (-1)]) (h' := (n, sl, wKK kk, I, L, wQQ q)) 1 rfl ?_
          exact tv_ri rfl ⟨rfl, rfl⟩
        · exact absurd h (fun h => h.elim d0 (fun h => h.elim d1 (fun h => h.elim d2 d3)))
set_option maxHeartbeats 4000000 in
theorem tv_m_spoons {n sl C : Nat} {kk : Nat → Nat × Nat} {q : Nat → Nat → Option Nat} {J : Nat → Nat → Int32} {K3 : Nat → Nat → Int64} {ah : Nat → Nat} {M : Nat → List (Nat × Nat × List Nat)} {lc cl : Nat → Nat} {D N : Nat} {z w : Int32} (g0 : gInv n kk q J K3 C ah M) (hP : mPl J K3) (hlc : ∀ k, k < 3 → lc k ≤ 1000) (h122 : ∀ k, k < 3 → J 122 k = nI (lc k)) (h121 : ∀ k, k < 3 → J 121 k = nI (cl k) ∧ cl k < 16) (hDN : D + (N + 1) ≤ 400) (hN8 : N + 1 ≤ 8) (hw : 0 ≤ w.toInt ∧ w.toInt ≤ 1000000000) : am_T 5 233 44 [some (.ref 80), some (.int (nI D)), some (.int (nI (N + 1))), some (.int z), some (.int w), none, none, none, none, none, none, none] [] (n, sl, wKK kk, J, K3, wQQ q) (fun rv h' => rv = some (.int (bsI (nodeZ J lc cl D z.toInt ((pS J D).2 + w.toInt) (N + 1) 0 (pS J D).1 0 (fun _ => 0) none))) ∧ ∃ (r123 r124 : Nat → Int32) (K' : Nat → Nat → Int64), bstB (nodeZ J lc cl D z.toInt ((pS J D).2 + w.toInt) (N + 1) 0 (pS J D).1 0 (fun _ => 0) none) ∧ mkQ (J 124) (N + 1) (nodeZ J lc cl D z.toInt ((pS J D).2 + w.toInt) (N + 1) 0 (pS J D).1 0 (fun _ => 0) none) r124 ∧ (∀ j, j < 57 → K' j = K3 j) ∧ h' = (n, sl, wKK kk, (match (nodeZ J lc cl D z.toInt ((pS J D).2 + w.toInt) (N + 1) 0 (pS J D).1 0 (fun _ => 0) none) with | none => mgI J r123 r124 | some _ => va_up (mgI J r123 r124) 80 (upd (mgI J r123 r124 80) 68 (nI (N + 1)))), K', wQQ q)) := by
  have hpb := pS_b g0.1 g0.2.1 D (by omega)
  have hcei : jL (pS J D).2 + w.toInt64 = jL ((pS J D).2 + w.toInt) := by
    rw [← jI_self w, jI_64 ⟨by omega, by omega⟩, jI_self, jL_add]
  have h114 := (hP.2.2 D (by omega)).1
  have h113 := (hP.2.2 D (by omega)).2
  have hlz : (pS J D).2 = lz (xs (pS J D).1) := by
    cases D with
    | zero => show (0 : Int) = lz (xs (fun _ => 0)); decide +kernel
    | succ D => rfl
  refine tv_b (pc' := 49) (ls' := [some (.ref 80), some (.int (nI D)), some (.int (nI (N + 1))), some (.int z), some (.int w), none, none, none, none, none, none, none]) (st' := [.int (nI D), .ref 114]) (h' := (n, sl, wKK kk, J, K3, wQQ q)) 3 rfl ?_
  refine tv_lalN (k := D) rfl (rfl) (⟨by omega, by omega⟩) ?_
  rw [h114]
  refine tv_b (pc' := 54) (ls' := [some (.ref 80), some (.int (nI D)), some (.int (nI (N + 1))), some (.int z), some (.int w), none, none, none, none, none, none, none]) (st' := [.long ((jL (pS J D).2) + w.toInt64)]) (h' := (n, sl, wKK kk, J, K3, wQQ q)) 3 rfl ?_
  rw [hcei]
  refine tv_b (pc' := 65) (ls' := [some (.ref 80), some (.int (nI D)), some (.int (nI (N + 1))), some (.int z), some (.int w), some (.long (jL ((pS J D).2 + w.toInt))), none, some (.int (-1)), some (.int 0), some (.int 0), none, none]) (st' := []) (h' := (n, sl, wKK kk, J, K3, wQQ q)) 7 rfl ?_
  refine tv_hI mg_s ?_
  refine tv_b (pc' := 73) (ls' := [some (.ref 80), some (.int (nI D)), some (.int (nI (N + 1))), some (.int z), some (.int w), some (.long (jL ((pS J D).2 + w.toInt))), none, some (.int (-1)), some (.int 0), some (.int 0), none, none]) (st' := []) (h' := (n, sl, wKK kk, va_up (mgI J (J 123) (J 124)) 123 (upd ((mgI J (J 123) (J 124)) 123) 0 (-2)), K3, wQQ q)) 5 rfl ?_
  refine tv_hI mgI_w_r123 ?_
  refine tv_m_in (g := 0) (lit := 0) (bx := -1) (cei := (pS J D).2 + w.toInt) (N := N + 1) (by decide) upd_e ?_
  have hCH := fun Q => mCH_all (n := n) (sl := sl) (kk := kk) (q := q) (N := N + 1) (a := z) (sc := w) (cei := (pS J D).2 + w.toInt) (R0 := J 124) (Q := Q) g0 hP hlc h122 h121 ⟨by omega, by omega⟩ hDN hN8 N 0 (by omega)
  have hkz : kidZ J lc cl D ((pS J D).2 + w.toInt) (nodeZ J lc cl D z.toInt ((pS J D).2 + w.toInt) N (0 + 1)) 0 (pS J D).1 0 (fun _ => 0) 4 0 none = (nodeZ J lc cl D z.toInt ((pS J D).2 + w.toInt) (N + 1) 0 (pS J D).1 0 (fun _ => 0) none) := rfl
  refine tv_m_lvl g0 hP hlc h122 h121 ⟨by omega, by omega⟩ hDN hN8 (m := N) (g := 0) (by omega) (hCH _) (σ := (pS J D).1) (lit := 0) (ch := fun _ => 0) (fun c hc => by have := hpb.1 c hc; omega) (by omega) 4 0 rfl none _ _ _ _ _ ⟨rfl, rfl, h114.trans (congrArg jL hlz), h113, fun _ _ => rfl⟩ trivial rfl (fun i hi => absurd hi (by omega)) upd_e (fun r123 r124 K' o10 o11 e1 e2 e3 e4 => ?_)
  rw [hkz] at e3 e4 ⊢
  rw [show nI 0 + Int32.ofInt (-1) = -1 from rg_d 0]
  generalize (nodeZ J lc cl D z.toInt ((pS J D).2 + w.toInt) (N + 1) 0 (pS J D).1 0 (fun _ => 0) none) = bb at e3 e4 ⊢
  have e5 := e2.2.2.2.2
  cases bb with
  | none =>
    show am_T _ _ 73 [some (.ref 80), some (.int (nI D)), some (.int (nI (N + 1))), some (.int z), some (.int w), some (.long (jL ((pS J D).2 + w.toInt))), none, some (.int (-1)), some (.int (-1)), some (.int (nI 0)), o10, o11] [] (n, sl, wKK kk, (mgI J r123 r124), K', wQQ q) _
    refine tv_b (pc' := 372) (ls' := [some (.ref 80), some (.int (nI D)), some (.int (nI (N + 1))), some (.int z), some (.int w), some (.long (jL ((pS J D).2 + w.toInt))), none, some (.int (-1)), some (.int (-1)), some (.int (nI 0)), o10, o11]) (st' := [.int (-1)]) (h' := (n, sl, wKK kk, (mgI J r123 r124), K', wQQ q)) 6 rfl ?_
    exact tv_ri rfl ⟨rfl, r123, r124, K', e3, e4, e5, rfl⟩
  | some v =>
    have hv : v.1 ≤ 8000 := e3
    have hne : ¬ nI v.1 = -1 := fun y => by
      have h1 := congrArg Int32.toInt y
      rw [nI_j, jI_toInt ⟨by omega, by omega⟩] at h1
      have h2 : (-1 : Int32).toInt = -1 := rfl
      omega
    show am_T _ _ 73 [some (.ref 80), some (.int (nI D)), some (.int (nI (N + 1))), some (.int z), some (.int w), some (.long (jL ((pS J D).2 + w.toInt))), none, some (.int (nI v.1)), some (.int (-1)), some (.int (nI 0)), o10, o11] [] (n, sl, wKK kk, (mgI J r123 r124), K', wQQ q) _
    refine tv_b (pc' := (if (nI v.1) = (-1) then 370 else 365)) (ls' := [some (.ref 80), some (.int (nI D)), some (.int (nI (N + 1))), some (.int z), some (.int w), some (.long (jL ((pS J D).2 + w.toInt))), none, some (.int (nI v.1)), some (.int (-1)), some (.int (nI 0)), o10, o11]) (st' := []) (h' := (n, sl, wKK kk, (mgI J r123 r124), K', wQQ q)) 5 rfl ?_
    refine tv_f (hne) ?_
    refine tv_b (pc' := 370) (ls' := [some (.ref 80), some (.int (nI D)), some (.int (nI (N + 1))), some (.int z), some (.int w), some (.long (jL ((pS J D).2 + w.toInt))), none, some (.int (nI v.1)), some (.int (-1)), some (.int (nI 0)), o10, o11]) (st' := []) (h' := (n, sl, wKK kk, va_up (mgI J r123 r124) 80 (upd ((mgI J r123 r124) 80) 68 (nI (N + 1))), K', wQQ q)) 3 rfl ?_
    refine tv_b (pc' := 372) (ls' := [some (.ref 80), some (.int (nI D)), some (.int (nI (N + 1))), some (.int z), some (.int w), some (.long (jL ((pS J D).2 + w.toInt))), none, some (.int (nI v.1)), some (.int (-1)), some (.int (nI 0)), o10, o11]) (st' := [.int (nI v.1)]) (h' := (n, sl, wKK kk, va_up (mgI J r123 r124) 80 (upd ((mgI J r123 r124) 80) 68 (nI (N + 1))), K', wQQ q)) 1 rfl ?_
    exact tv_ri rfl ⟨rfl, r123, r124, K', e3, e4, e5, rfl⟩
set_option maxHeartbeats 4000000 in
theorem jx_spoons {x y z w : Int32} : jx 137 (am_ent 5 [.ref 0, .int x, .int y, .int z, .int w]) 233 (am_ent 12 [.ref 80, .int x, .int y, .int z, .int w]) := by
  rintro k h hk ⟨n, sl, kk, I, L, q, rfl, C, ah, M, tx, T0, g, hr, ht, hu, hs, hc, hj, hn, hsl⟩
  have same := h_same (q := q) hk g hr ht hu hs hc hj hn hsl
  have gB := g.2.1
  have hC : nC I = C := g.2.2.1.2.2.1.2.1
  have x0 : sp_isDay x = 0 ↔ ¬ (0 ≤ x.toInt ∧ x.toInt < 400) := ar_day
  have m0 : sp_m_isDay x = 0 ↔ ¬ (0 ≤ x.toInt ∧ x.toInt < 400) := ar_mday
  have x1 : sp_isWithin y.toInt64 1 8 = 0 ↔ ¬ (1 ≤ y.toInt ∧ y.toInt ≤ 8) := ar_wi2 (a := 1) (b := 8) rfl rfl ⟨by decide, by decide⟩ ⟨by decide, by decide⟩
  have m1 : sp_m_is y 1 8 = 0 ↔ ¬ (1 ≤ y.toInt ∧ y.toInt ≤ 8) := ar_mi2 (a := 1) (b := 8) rfl rfl ⟨by decide, by decide⟩ ⟨by decide, by decide⟩
  have x3 : sp_isWithin w.toInt64 0 1000000000 = 0 ↔ ¬ (0 ≤ w.toInt ∧ w.toInt ≤ 1000000000) := ar_wi2 (a := 0) (b := 1000000000) rfl rfl ⟨by decide, by decide⟩ ⟨by decide, by decide⟩
  have m3 : sp_m_is w 0 1000000000 = 0 ↔ ¬ (0 ≤ w.toInt ∧ w.toInt ≤ 1000000000) := ar_mi2 (a := 0) (b := 1000000000) rfl rfl ⟨by decide, by decide⟩ ⟨by decide, by decide⟩
  by_cases h : sp_isDay x = 0 ∨ sp_isWithin y.toInt64 1 8 = 0 ∨ 400 < x + y ∨ sp_isWithin w.toInt64 0 1000000000 = 0
  · have h2 : sp_m_isDay x = 0 ∨ sp_m_is y 1 8 = 0 ∨ 400 < x + y ∨ sp_m_is w 0 1000000000 = 0 := h.elim (fun v => Or.inl (m0.mpr (x0.mp v))) (fun h => Or.inr (h.elim (fun v => Or.inl (m1.mpr (x1.mp v))) (fun h => Or.inr (h.elim Or.inl (fun v => Or.inr (m3.mpr (x3.mp v)))))))
    exact jx_e (d1 := 2) (d2 := 3) (by decide) (by decide) (ev_x_spoO h) (ev_m_spoO h2) same
  · have y0 : ¬ sp_isDay x = 0 := fun v => h (Or.inl v)
    have y1 : ¬ sp_isWithin y.toInt64 1 8 = 0 := fun v => h (Or.inr (Or.inl v))
    have y2 : ¬ 400 < x + y := fun v => h (Or.inr (Or.inr (Or.inl v)))
    have y3 : ¬ sp_isWithin w.toInt64 0 1000000000 = 0 := fun v => h (Or.inr (Or.inr (Or.inr v)))
    have w0 : ¬ sp_m_isDay x = 0 := fun v => y0 (x0.mpr (m0.mp v))
    have w1 : ¬ sp_m_is y 1 8 = 0 := fun v => y1 (x1.mpr (m1.mp v))
    have w3 : ¬ sp_m_is w 0 1000000000 = 0 := fun v => y3 (x3.mpr (m3.mp v))
    have r0 := (nn_iff x0).mp y0
    have r1 := (nn_iff x1).mp y1
    have hw := (nn_iff x3).mp y3
    have ex := x_nI r0.1
    have ey := x_nI (x := y) (by omega)
    have hD : x.toInt.toNat < 400 := by omega
    obtain ⟨N, hN⟩ : ∃ N, y.toInt.toNat = N + 1 := ⟨y.toInt.toNat - 1, by omega⟩
    have hN8 : N + 1 ≤ 8 := by omega
    rw [hN] at ey
    generalize x.toInt.toNat = D at ex hD
    subst ex
    subst ey
    have hDN : D + (N + 1) ≤ 400 := by
      rw [nI_add] at y2
      exact Nat.not_lt.mp (fun v => y2 ((nI_ltI (a := 400) (b := D + (N + 1)) (by omega) (by omega)).mpr v))
    clear r0 r1 hN
    obtain ⟨hp, hkp⟩ := hs
    obtain ⟨lc, hlcd⟩ : ∃ lc : Nat → Nat, lc = fun k => (I 122 k).toInt.toNat := ⟨_, rfl⟩
    obtain ⟨cl, hcld⟩ : ∃ cl : Nat → Nat, cl = fun k => (I 121 k).toInt.toNat := ⟨_, rfl⟩
    have hlc : ∀ k, k < 3 → lc k ≤ 1000 := fun k hk => by obtain ⟨_, _, _, a1, a2⟩ := hp k hk; rw [hlcd]; show (I 122 k).toInt.toNat ≤ 1000; omega
    have h122 : ∀ k, k < 3 → I 122 k = nI (lc k) := fun k hk => by obtain ⟨_, _, _, a1, a2⟩ := hp k hk; rw [hlcd]; exact x_nI a1
    have h121 : ∀ k, k < 3 → I 121 k = nI (cl k) ∧ cl k < 16 := fun k hk => by obtain ⟨_, _, ⟨a1, a2⟩, _⟩ := hp k hk; rw [hcld]; exact ⟨x_nI a1, by show (I 121 k).toInt.toNat < 16; omega⟩
    -- reach
    obtain ⟨g1, r1, f1, r80, r55, r13, ⟨k1, k2⟩, hp1, h14⟩ := reach_g g (D := D) (by omega)
    have er := fun d => ev_d_reach (d := d) (n := n) (sl := sl) (k := kk) (q := q) (L := L) (D := D) (by omega) k1 k2 h14
    generalize sI_d_reach D I L = J0 at g1 r1 f1 r80 r55 r13 hp1 er
    generalize sL_d_reach D I L = K0 at g1 r1 f1 er
    have hE0 : rE J0 I := ⟨fun j j1 j2 => r80 j (by omega), by rw [r80 80 (by decide)], by rw [r80 80 (by decide)]⟩
    have lo0 : ∀ j, (j < 13 ∨ (57 ≤ j ∧ j < 80) ∨ 80 ≤ j) → J0 j = I j := fun j hj => by
      rcases hj with z | z | z
      · exact f1.2.1 j z
      · exact f1.1 j z.1 z.2
      · exact r80 j z
    have hnz0 : ∀ X : Nat → Nat → Int32, rE X I → nodeZ X lc cl D z.toInt ((pS X D).2 + w.toInt) (N + 1) 0 (pS X D).1 0 (fun _ => 0) none = (nodeZ I lc cl D z.toInt ((pS I D).2 + w.toInt) (N + 1) 0 (pS I D).1 0 (fun _ => 0) none) := fun X hX => by
      rw [pS_c hX D, node_c (dG_c hX).2.2.2.1]
    have hsr := tv_search (n := n) (sl := sl) (kk := kk) (q := q) (lc := lc) (cl := cl) (N := N + 1) (a := z) (sc := w) g1 (r1 D (Nat.le_refl _)) hlc (fun k hk => by rw [lo0 73 (by decide), (hp k hk).2.1]; exact h122 k hk) (fun k hk => by rw [lo0 72 (by decide), (hp k hk).1]; exact h121 k hk) hDN hN8 hw
    rw [hnz0 J0 hE0] at hsr
    generalize hbbe : (nodeZ I lc cl D z.toInt ((pS I D).2 + w.toInt) (N + 1) 0 (pS I D).1 0 (fun _ => 0) none) = bb at hsr hnz0
    refine tv_up (d := 20) (by decide) ?_
    show am_T _ _ 0 [some (.ref 0), some (.int (nI D)), some (.int (nI (N + 1))), some (.int z), some (.int w)] _ _ _
    refine tv_b (pc' := 1) (ls' := [some (.ref 0), some (.int (nI D)), some (.int (nI (N + 1))), some (.int z), some (.int w)]) (st' := [.int (nI D)]) (h' := (n, sl, wKK kk, I, L, wQQ q)) 1 rfl ?_
    refine tv_csE [.int (nI D)] [] rfl rfl (by omega) rfl (Nat.le_of_ble_eq_true rfl) (Nat.le_of_ble_eq_true rfl) (ev_isDay) ?_
    refine tv_b (pc' := (if (sp_isDay (nI D)) = 0 then 41 else 7)) (ls' := [some (.ref 0), some (.int (nI D)), some (.int (nI (N + 1))), some (.int z), some (.int w)]) (st' := []) (h' := (n, sl, wKK kk, I, L, wQQ q)) 1 rfl ?_
    refine tv_f (y0) ?_
    refine tv_b (pc' := 13) (ls' := [some (.ref 0), some (.int (nI D)), some (.int (nI (N + 1))), some (.int z), some (.int w)]) (st' := [.long 8, .long 1, .long ((nI (N + 1)).toInt64)]) (h' := (n, sl, wKK kk, I, L, wQQ q)) 4 rfl ?_
    refine tv_csE [.long ((nI (N + 1)).toInt64), .long 1, .long 8] [] rfl rfl (by omega) rfl (Nat.le_of_ble_eq_true rfl) (Nat.le_of_ble_eq_true rfl) (ev_isWithin) ?_
    refine tv_b (pc' := (if (sp_isWithin ((nI (N + 1)).toInt64) 1 8) = 0 then 41 else 19)) (ls' := [some (.ref 0), some (.int (nI D)), some (.int (nI (N + 1))), some (.int z), some (.int w)]) (st' := []) (h' := (n, sl, wKK kk, I, L, wQQ q)) 1 rfl ?_
    refine tv_f (y1) ?_
    refine tv_b (pc' := 21) (ls' := [some (.ref 0), some (.int (nI D)), some (.int (nI (N + 1))), some (.int z), some (.int w)]) (st' := [.int (nI (N + 1)), .int (nI D)]) (h' := (n, sl, wKK kk, I, L, wQQ q)) 2 rfl ?_
    refine tv_b (pc' := 22) (ls' := [some (.ref 0), some (.int (nI D)), some (.int (nI (N + 1))), some (.int z), some (.int w)]) (st' := [.int ((nI D) + (nI (N + 1)))]) (h' := (n, sl, wKK kk, I, L, wQQ q)) 1 rfl ?_
    refine tv_top (show (nI D) + (nI (N + 1)) = nI (D + (N + 1)) from nI_add D (N + 1)) ?_
    refine tv_b (pc' := (if 400 < (nI (D + (N + 1))) then 41 else 28)) (ls' := [some (.ref 0), some (.int (nI D)), some (.int (nI (N + 1))), some (.int z), some (.int w)]) (st' := []) (h' := (n, sl, wKK kk, I, L, wQQ q)) 2 rfl ?_
    refine tv_f (fun hq => absurd ((nI_ltI (a := 400) (b := D + (N + 1)) (by omega) (by omega)).mp hq) (by omega)) ?_
    refine tv_b (pc' := 35) (ls' := [some (.ref 0), some (.int (nI D)), some (.int (nI (N + 1))), some (.int z), some (.int w)]) (st' := [.long 1000000000, .long 0, .long w.toInt64]) (h' := (n, sl, wKK kk, I, L, wQQ q)) 4 rfl ?_
    refine tv_csE [.long w.toInt64, .long 0, .long 1000000000] [] rfl rfl (by omega) rfl (Nat.le_of_ble_eq_true rfl) (Nat.le_of_ble_eq_true rfl) (ev_isWithin) ?_
    refine tv_b (pc' := (if (sp_isWithin w.toInt64 0 1000000000) = 0 then 41 else 43)) (ls' := [some (.ref 0), some (.int (nI D)), some (.int (nI (N + 1))), some (.int z), some (.int w)]) (st' := []) (h' := (n, sl, wKK kk, I, L, wQQ q)) 1 rfl ?_
    refine tv_f (y3) ?_
    refine tv_b (pc' := 48) (ls' := [some (.ref 0), some (.int (nI D)), some (.int (nI (N + 1))), some (.int z), some (.int w)]) (st' := [.int (nI D), .ref 13]) (h' := (n, sl, wKK kk, I, L, wQQ q)) 3 rfl ?_
    refine tv_cvE [.int (nI D)] [] rfl rfl (by omega) rfl (Nat.le_of_ble_eq_true rfl) (Nat.le_of_ble_eq_true rfl) (Or.inr (Or.inr rfl)) (er 14) ?_
    refine tv_b (pc' := 60) (ls' := [some (.ref 0), some (.int (nI D)), some (.int (nI (N + 1))), some (.int z), some (.int w)]) (st' := [.int w, .int z, .int (nI (N + 1)), .int (nI D), .ref 71]) (h' := (n, sl, wKK kk, J0, K0, wQQ q)) 6 rfl ?_
    refine tv_cv [.int (nI D), .int (nI (N + 1)), .int z, .int w] [] rfl rfl (by omega) rfl (Nat.le_of_ble_eq_true rfl) (Nat.le_of_ble_eq_true rfl) (Or.inr (Or.inr rfl)) (tv_up (d := 6 + (N + 1) + 1) (by omega) hsr) ?_
    rintro rv9 h9 ⟨rfl, lst, r74, r75, c6, r76, rfl, hkq, hbb⟩
    refine tv_ri rfl ⟨.int (bsI bb), Or.inl ⟨_, rfl⟩, rfl, ?_⟩
    have gs := ss_g (a := nI D) (b := nI (N + 1)) (c := z) (l := lst) (k := kpv (J0 71 10) (N + 1) bb) (r := r74) (s := r75) (c6 := c6) (r76 := r76) g1
    have hEs : rE (ssI J0 (nI D) (nI (N + 1)) z lst (kpv (J0 71 10) (N + 1) bb) r74 r75) I := ⟨fun j j1 j2 => by rw [ssI_o (by omega) (by omega) (by omega)]; exact hE0.1 j j1 j2, by rw [ssI_o (by decide) (by decide) (by decide)]; exact hE0.2.1, by rw [ssI_o (by decide) (by decide) (by decide)]; exact hE0.2.2⟩
    have los : ∀ j, j ≠ 71 → j ≠ 74 → j ≠ 75 → (j < 13 ∨ (57 ≤ j ∧ j < 80) ∨ 80 ≤ j) → (ssI J0 (nI D) (nI (N + 1)) z lst (kpv (J0 71 10) (N + 1) bb) r74 r75) j = I j := fun j a1 a2 a3 a4 => by rw [ssI_o a1 a2 a3]; exact lo0 j a4
    have s55 : (ssI J0 (nI D) (nI (N + 1)) z lst (kpv (J0 71 10) (N + 1) bb) r74 r75) 55 = I 55 := by rw [ssI_o (by decide) (by decide) (by decide)]; exact r55
    have s13 : (ssI J0 (nI D) (nI (N + 1)) z lst (kpv (J0 71 10) (N + 1) bb) r74 r75) 13 12 = I 13 12 := by rw [ssI_o (by decide) (by decide) (by decide)]; exact r13
    have s75 : (ssI J0 (nI D) (nI (N + 1)) z lst (kpv (J0 71 10) (N + 1) bb) r74 r75) 75 = r75 := rfl
    have s71 : (ssI J0 (nI D) (nI (N + 1)) z lst (kpv (J0 71 10) (N + 1) bb) r74 r75) 71 10 = kpv (I 71 10) (N + 1) bb := by rw [← lo0 71 (by decide)]; rfl
    rw [lo0 75 (by decide)] at hkq
    generalize (ssI J0 (nI D) (nI (N + 1)) z lst (kpv (J0 71 10) (N + 1) bb) r74 r75) = J1 at gs hEs los s55 s13 s75 s71 ⊢
    generalize (ssL K0 c6 r76) = K1 at gs ⊢
    have gB1 := gs.2.1
    obtain ⟨hn1, hn2⟩ := now_N (L := K1) gB1
    have hC2 := gB1.1.2
    obtain ⟨g2, hP, f2, p2, hp2⟩ := play_g gs
    have ep := fun d => ev_m_play (d := d) (n := n) (sl := sl) (k := kk) (q := q) (I := J1) (L := K1) (by rw [now_cl gB1]; exact hn1) (by rw [now_cl gB1]; omega) (gx_ok gB1) (gl_ok gB1)
    generalize sI_m_play J1 K1 = J3 at g2 hP f2 p2 hp2 ep
    generalize sL_m_play J1 K1 = K3 at g2 hP f2 ep
    have hE3 : rE J3 I := ⟨fun j i1 i2 => by rw [p2 j (by omega) (by omega), hEs.1 j i1 i2], by rw [p2 80 (by decide) (by decide), hEs.2.1], by rw [p2 80 (by decide) (by decide), hEs.2.2]⟩
    have lo3 : ∀ j, j ≠ 71 → j ≠ 74 → j ≠ 75 → j ≠ 117 → j ≠ 118 → (j < 13 ∨ (57 ≤ j ∧ j < 80) ∨ 80 ≤ j) → J3 j = I j := fun j a1 a2 a3 a4 a5 a6 => by rw [p2 j a4 a5]; exact los j a1 a2 a3 a6
    have hms := tv_m_spoons (n := n) (sl := sl) (kk := kk) (q := q) (lc := lc) (cl := cl) (D := D) (N := N) (z := z) (w := w) g2 hP hlc (fun k hk => by rw [lo3 122 (by decide) (by decide) (by decide) (by decide) (by decide) (by decide)]; exact h122 k hk) (fun k hk => by rw [lo3 121 (by decide) (by decide) (by decide) (by decide) (by decide) (by decide)]; exact h121 k hk) hDN hN8 hw
    rw [hnz0 J3 hE3] at hms
    refine tv_up (d := 5) (by decide) ?_
    show am_T _ _ 0 [some (.ref 80), some (.int (nI D)), some (.int (nI (N + 1))), some (.int z), some (.int w), none, none, none, none, none, none, none] _ _ _
    refine tv_b (pc' := 1) (ls' := [some (.ref 80), some (.int (nI D)), some (.int (nI (N + 1))), some (.int z), some (.int w), none, none, none, none, none, none, none]) (st' := [.int (nI D)]) (h' := (n, sl, wKK kk, J1, K1, wQQ q)) 1 rfl ?_
    refine tv_csE [.int (nI D)] [] rfl rfl (by omega) rfl (Nat.le_of_ble_eq_true rfl) (Nat.le_of_ble_eq_true rfl) (ev_m_isDay) ?_
    refine tv_b (pc' := (if (sp_m_isDay (nI D)) = 0 then 38 else 7)) (ls' := [some (.ref 80), some (.int (nI D)), some (.int (nI (N + 1))), some (.int z), some (.int w), none, none, none, none, none, none, none]) (st' := []) (h' := (n, sl, wKK kk, J1, K1, wQQ q)) 1 rfl ?_
    refine tv_f (w0) ?_
    refine tv_b (pc' := 11) (ls' := [some (.ref 80), some (.int (nI D)), some (.int (nI (N + 1))), some (.int z), some (.int w), none, none, none, none, none, none, none]) (st' := [.int 8, .int 1, .int (nI (N + 1))]) (h' := (n, sl, wKK kk, J1, K1, wQQ q)) 3 rfl ?_
    refine tv_csE [.int (nI (N + 1)), .int 1, .int 8] [] rfl rfl (by omega) rfl (Nat.le_of_ble_eq_true rfl) (Nat.le_of_ble_eq_true rfl) (ev_m_is) ?_
    refine tv_b (pc' := (if (sp_m_is (nI (N + 1)) 1 8) = 0 then 38 else 17)) (ls' := [some (.ref 80), some (.int (nI D)), some (.int (nI (N + 1))), some (.int z), some (.int w), none, none, none, none, none, none, none]) (st' := []) (h' := (n, sl, wKK kk, J1, K1, wQQ q)) 1 rfl ?_
    refine tv_f (w1) ?_
    refine tv_b (pc' := 19) (ls' := [some (.ref 80), some (.int (nI D)), some (.int (nI (N + 1))), some (.int z), some (.int w), none, none, none, none, none, none, none]) (st' := [.int (nI (N + 1)), .int (nI D)]) (h' := (n, sl, wKK kk, J1, K1, wQQ q)) 2 rfl ?_
    refine tv_b (pc' := 20) (ls' := [some (.ref 80), some (.int (nI D)), some (.int (nI (N + 1))), some (.int z), some (.int w), none, none, none, none, none, none, none]) (st' := [.int ((nI D) + (nI (N + 1)))]) (h' := (n, sl, wKK kk, J1, K1, wQQ q)) 1 rfl ?_
    refine tv_top (show (nI D) + (nI (N + 1)) = nI (D + (N + 1)) from nI_add D (N + 1)) ?_
    refine tv_b (pc' := (if 400 < (nI (D + (N + 1))) then 38 else 26)) (ls' := [some (.ref 80), some (.int (nI D)), some (.int (nI (N + 1))), some (.int z), some (.int w), none, none, none, none, none, none, none]) (st' := []) (h' := (n, sl, wKK kk, J1, K1, wQQ q)) 2 rfl ?_
    refine tv_f (fun hq => absurd ((nI_ltI (a := 400) (b := D + (N + 1)) (by omega) (by omega)).mp hq) (by omega)) ?_
    refine tv_b (pc' := 32) (ls' := [some (.ref 80), some (.int (nI D)), some (.int (nI (N + 1))), some (.int z), some (.int w), none, none, none, none, none, none, none]) (st' := [.int 1000000000, .int 0, .int w]) (h' := (n, sl, wKK kk, J1, K1, wQQ q)) 3 rfl ?_
    refine tv_csE [.int w, .int 0, .int 1000000000] [] rfl rfl (by omega) rfl (Nat.le_of_ble_eq_true rfl) (Nat.le_of_ble_eq_true rfl) (ev_m_is) ?_
    refine tv_b (pc' := (if (sp_m_is w 0 1000000000) = 0 then 38 else 40)) (ls' := [some (.ref 80), some (.int (nI D)), some (.int (nI (N + 1))), some (.int z), some (.int w), none, none, none, none, none, none, none]) (st' := []) (h' := (n, sl, wKK kk, J1, K1, wQQ q)) 1 rfl ?_
    refine tv_f (w3) ?_
    refine tv_b (pc' := 41) (ls' := [some (.ref 80), some (.int (nI D)), some (.int (nI (N + 1))), some (.int z), some (.int w), none, none, none, none, none, none, none]) (st' := [.ref 80]) (h' := (n, sl, wKK kk, J1, K1, wQQ q)) 1 rfl ?_
    refine tv_cvE [] [] rfl rfl (by omega) rfl (Nat.le_of_ble_eq_true rfl) (Nat.le_of_ble_eq_true rfl) (Or.inr (Or.inr rfl)) (ep 0) ?_
    refine tv_w hms (fun rv h' ho => ?_)
    obtain ⟨rfl, r123, r124, K', hb', hmq, hK', rfl⟩ := ho
    refine ⟨rfl, ?_⟩
    have l3 : ∀ (J4 : Nat → Nat → Int32), (∀ j, j ≠ 80 → J4 j = mgI J3 r123 r124 j) → (∀ i, i ≠ 68 → J4 80 i = J3 80 i) → sInv J4 → hInv (k + 1) (n, sl, wKK kk, J4, K', wQQ q) := fun J4 a1 a2 a3 => by
      have go : ∀ j, j ≠ 80 → j ≠ 123 → j ≠ 124 → J4 j = J3 j := fun j b1 b2 b3 => (a1 j b1).trans (mgI_o b2 b3)
      have hE4 : rE J4 J3 := ⟨fun j j1 j2 => go j (by omega) (by omega) (by omega), a2 45 (by decide), a2 46 (by decide)⟩
      refine fo_fin hk gB hC hr ht hu ⟨hp, hkp⟩ hc hj hn hsl (gInv_k g2 (fun j hj => go j (by omega) (by omega) (by omega)) (fun j hj => go j (by omega) (by omega) (by omega)) hE4 (fun j hj => by rw [go 82 (by decide) (by decide) (by decide)]) (fun j hj => by rw [go 83 (by decide) (by decide) (by decide), go 84 (by decide) (by decide) (by decide), go 85 (by decide) (by decide) (by decide), go 86 (by decide) (by decide) (by decide)]; exact ⟨rfl, rfl, rfl, rfl⟩) (fun j hj => by rw [go 87 (by decide) (by decide) (by decide)]) hK') ⟨fun j j1 j2 => by rw [go j (by omega) (by omega) (by omega)]; exact hE3.1 j j1 j2, (a2 45 (by decide)).trans hE3.2.1, (a2 46 (by decide)).trans hE3.2.2⟩ (fun j hj => by rw [go j (by omega) (by omega) (by omega)]; exact lo3 j (by omega) (by omega) (by omega) (by omega) (by omega) (by omega)) (fun i i1 i2 => by rw [a2 i i2, lo3 80 (by decide) (by decide) (by decide) (by decide) (by decide) (by decide)]) (by rw [go 55 (by decide) (by decide) (by decide), p2 55 (by decide) (by decide)]; exact s55) (by rw [go 13 (by decide) (by decide) (by decide), p2 13 (by decide) (by decide)]; exact s13) a3
    have t71 : J3 71 10 = kpv (I 71 10) (N + 1) bb := by rw [p2 71 (by decide) (by decide)]; exact s71
    have t75 : J3 75 = r75 := by rw [p2 75 (by decide) (by decide)]; exact s75
    have t124 : J3 124 = I 124 := lo3 124 (by decide) (by decide) (by decide) (by decide) (by decide) (by decide)
    have t80 : J3 80 68 = I 80 68 := by rw [lo3 80 (by decide) (by decide) (by decide) (by decide) (by decide) (by decide)]
    have u124 : mgI J3 r123 r124 124 = r124 := rfl
    have go : ∀ j, j ≠ 123 → j ≠ 124 → mgI J3 r123 r124 j = J3 j := fun j b2 b3 => mgI_o b2 b3
    have hpp : ∀ k, k < 3 → J3 72 k = J3 121 k ∧ J3 73 k = J3 122 k ∧ (0 ≤ (J3 121 k).toInt ∧ (J3 121 k).toInt < 16) ∧ (0 ≤ (J3 122 k).toInt ∧ (J3 122 k).toInt ≤ 1000) := fun k hk => by
      rw [lo3 72 (by decide) (by decide) (by decide) (by decide) (by decide) (by decide), lo3 73 (by decide) (by decide) (by decide) (by decide) (by decide) (by decide), lo3 121 (by decide) (by decide) (by decide) (by decide) (by decide) (by decide), lo3 122 (by decide) (by decide) (by decide) (by decide) (by decide) (by decide)]
      exact hp k hk
    cases bb with
    | none =>
      refine l3 _ (fun _ _ => rfl) (fun i _ => by show mgI J3 r123 r124 80 i = _; rw [go 80 (by decide) (by decide)]) ?_
      have e1 : r75 = I 75 := hkq
      have e2 : r124 = J3 124 := hmq
      show sInv (mgI J3 r123 r124)
      unfold sInv
      rw [go 71 (by decide) (by decide), go 72 (by decide) (by decide), go 73 (by decide) (by decide), go 75 (by decide) (by decide), go 121 (by decide) (by decide), go 122 (by decide) (by decide), go 80 (by decide) (by decide), u124, t71, t75, t80, e1, e2, t124]
      exact ⟨hpp, hkp⟩
    | some v =>
      have e1 : ∀ i, i < N + 1 → r75 i = rgI (v.2 i) := hkq
      have e2 : ∀ i, i < N + 1 → r124 i = if 0 ≤ rgI (v.2 i) then rgI (v.2 i) else -2 := hmq
      have n8 : ∀ j, j ≠ 80 → va_up (mgI J3 r123 r124) 80 (upd (mgI J3 r123 r124 80) 68 (nI (N + 1))) j = mgI J3 r123 r124 j := fun j hj => va_n1 hj
      refine l3 _ n8 (fun i hi => by show va_up (mgI J3 r123 r124) 80 (upd (mgI J3 r123 r124 80) 68 (nI (N + 1))) 80 i = _; rw [va_e1, upd_n hi, go 80 (by decide) (by decide)]) ?_
      show sInv (va_up (mgI J3 r123 r124) 80 (upd (mgI J3 r123 r124 80) 68 (nI (N + 1))))
      unfold sInv
      rw [n8 71 (by decide), n8 72 (by decide), n8 73 (by decide), n8 75 (by decide), n8 121 (by decide), n8 122 (by decide), n8 124 (by decide), go 71 (by decide) (by decide), go 72 (by decide) (by decide), go 73 (by decide) (by decide), go 75 (by decide) (by decide), go 121 (by decide) (by decide), go 122 (by decide) (by decide), u124, va_e1, upd_e, t71, t75]
      exact ⟨hpp, Or.inr ⟨N + 1, by omega, hN8, rfl, rfl, fun i hi => by rw [e1 i hi, e2 i hi]⟩⟩
