/-! STIFF, RING, STONE, WATER, WARMTH, GAUGE, SPOON -/
theorem ev_xwater_O {d n sl : Nat} {kk : Nat → Nat × Nat} {I : Nat → Nat → Int32} {L : Nat → Nat → Int64} {q : Nat → Nat → Option Nat} {x e : Int32} (hx : sp_isDay x = 0) : am_Ev (d + 1) 114 0 (am_ent 3 [.ref 0, .int x, .int e]) [] (n, sl, wKK kk, I, L, wQQ q) (some (.int 0), (n, sl, wKK kk, I, L, wQQ q)) := by
  refine tv_ev ?_
  show am_T _ _ 0 [some (.ref 0), some (.int x), some (.int e)] _ _ _
  refine tv_b (pc' := 1) (ls' := [some (.ref 0), some (.int x), some (.int e)]) (st' := [.int x]) (h' := (n, sl, wKK kk, I, L, wQQ q)) 1 rfl ?_
  refine tv_csE [.int x] [] rfl rfl (by omega) rfl (Nat.le_of_ble_eq_true rfl) (Nat.le_of_ble_eq_true rfl) (ev_isDay) ?_
  refine tv_b (pc' := (if (sp_isDay x) = 0 then 19 else 7)) (ls' := [some (.ref 0), some (.int x), some (.int e)]) (st' := []) (h' := (n, sl, wKK kk, I, L, wQQ q)) 1 rfl ?_
  refine tv_t (hx) ?_
  refine tv_b (pc' := 20) (ls' := [some (.ref 0), some (.int x), some (.int e)]) (st' := [.int 0]) (h' := (n, sl, wKK kk, I, L, wQQ q)) 1 rfl ?_
  exact tv_rz rfl (Or.inl rfl) ⟨rfl, rfl⟩
theorem ev_xwarmth_O {d n sl : Nat} {kk : Nat → Nat × Nat} {I : Nat → Nat → Int32} {L : Nat → Nat → Int64} {q : Nat → Nat → Option Nat} {x e : Int32} (hx : sp_isDay x = 0) : am_Ev (d + 1) 115 0 (am_ent 3 [.ref 0, .int x, .int e]) [] (n, sl, wKK kk, I, L, wQQ q) (some (.int 0), (n, sl, wKK kk, I, L, wQQ q)) := by
  refine tv_ev ?_
  show am_T _ _ 0 [some (.ref 0), some (.int x), some (.int e)] _ _ _
  refine tv_b (pc' := 1) (ls' := [some (.ref 0), some (.int x), some (.int e)]) (st' := [.int x]) (h' := (n, sl, wKK kk, I, L, wQQ q)) 1 rfl ?_
  refine tv_csE [.int x] [] rfl rfl (by omega) rfl (Nat.le_of_ble_eq_true rfl) (Nat.le_of_ble_eq_true rfl) (ev_isDay) ?_
  refine tv_b (pc' := (if (sp_isDay x) = 0 then 21 else 7)) (ls' := [some (.ref 0), some (.int x), some (.int e)]) (st' := []) (h' := (n, sl, wKK kk, I, L, wQQ q)) 1 rfl ?_
  refine tv_t (hx) ?_
  refine tv_b (pc' := 22) (ls' := [some (.ref 0), some (.int x), some (.int e)]) (st' := [.int 0]) (h' := (n, sl, wKK kk, I, L, wQQ q)) 1 rfl ?_
  exact tv_rz rfl (Or.inl rfl) ⟨rfl, rfl⟩
theorem ar_mring {x : Int32} : sp_m_is x 0 7 = 0 ↔ ¬ (0 ≤ x.toInt ∧ x.toInt < 8) := by
  have h : sp_m_is x 0 7 = 0 ↔ ¬ (0 ≤ x.toInt ∧ x.toInt ≤ 7) := ar_mi2 (a := 0) (b := 7) rfl rfl ⟨by decide, by decide⟩ ⟨by decide, by decide⟩
  rw [h]
  omega
theorem spoil_0 {I : Nat → Nat → Int32} {L : Nat → Nat → Int64} {R : Nat} (hR : I 13 11 = nI R) (hR4 : R ≤ 400) : (∀ j, j ≠ 13 → sI_d_spoil 0 I L j = I j) ∧ (∀ i, i ≠ 11 → i ≠ 12 → sI_d_spoil 0 I L 13 i = I 13 i) ∧ sI_d_spoil 0 I L 13 11 = nI (min R 0) ∧ sI_d_spoil 0 I L 13 12 = I 13 12 + 1 := spoil_v (A := 0) hR hR4 (by decide)
theorem upd_p {P : Int32 → Prop} {f : Nat → Int32} {i j : Nat} {x : Int32} (h1 : P x) (h2 : P (f j)) : P (upd f i x j) := by
  by_cases h : j = i
  · subst h; rw [upd_e]; exact h1
  · rw [upd_n h]; exact h2
theorem upd_q {P : Int32 → Prop} {f : Nat → Int32} {i : Nat} {x : Int32} (h1 : P x) {N : Nat} (h2 : ∀ j, j < N → P (f j)) : ∀ j, j < N → P (upd f i x j) := fun j hj => upd_p h1 (h2 j hj)
/-- the day told of, and all up to the next told of -/
theorem wf_tell {b x : Int32} {f g f' g' : Nat → Int32} {D N : Nat} (hf : ∀ d, d ≠ D → f' d = f d) (hg : ∀ d, d ≠ D → g' d = g d) (hD : ¬ f' D = 0) (hx : g' D = x) (hz : ∀ j, j < N → f' (D + 1 + j) = 0) (hE : D + 1 + N < 400 → ¬ f' (D + 1 + N) = 0) : ∀ d, d < 400 → wf b f' g' d = if D ≤ d ∧ d < D + 1 + N then x else wf b f g d := by
  intro d
  induction d with
  | zero =>
    intro _
    show (if f' 0 = 0 then b else g' 0) = _
    by_cases z : D = 0
    · subst z
      rw [if_neg hD, hx, if_pos ⟨Nat.le_refl _, by omega⟩]
    · rw [if_neg (show ¬ (D ≤ 0 ∧ 0 < D + 1 + N) by omega), hf 0 (by omega), hg 0 (by omega)]
      rfl
  | succ m ih =>
    intro hm
    have e := ih (by omega)
    show (if f' (m + 1) = 0 then wf b f' g' m else g' (m + 1)) = if D ≤ m + 1 ∧ m + 1 < D + 1 + N then x else (if f (m + 1) = 0 then wf b f g m else g (m + 1))
    by_cases z : m + 1 = D
    · rw [z, if_neg hD, hx, if_pos ⟨Nat.le_refl _, by omega⟩]
    · by_cases z1 : m + 1 < D
      · rw [if_neg (show ¬ (D ≤ m + 1 ∧ m + 1 < D + 1 + N) by omega), hf (m + 1) z, hg (m + 1) z, e, if_neg (show ¬ (D ≤ m ∧ m < D + 1 + N) by omega)]
      · by_cases z2 : m + 1 < D + 1 + N
        · have h0 := hz (m - D) (by omega)
          rw [show D + 1 + (m - D) = m + 1 by omega] at h0
          rw [if_pos h0, e, if_pos ⟨by omega, by omega⟩, if_pos ⟨by omega, by omega⟩]
        · rw [if_neg (show ¬ (D ≤ m + 1 ∧ m + 1 < D + 1 + N) by omega)]
          by_cases z3 : m + 1 = D + 1 + N
          · have h0 := hE (by omega)
            rw [← z3] at h0
            have h1 : ¬ f (m + 1) = 0 := by rw [← hf (m + 1) z]; exact h0
            rw [if_neg h0, if_neg h1, hg (m + 1) z]
          · rw [hf (m + 1) z, hg (m + 1) z, e, if_neg (show ¬ (D ≤ m ∧ m < D + 1 + N) by omega)]
theorem it_wet_v {x : Int32} {A N : Nat} {I : Nat → Nat → Int32} {L : Nat → Nat → Int64} : ∀ k d, it_lwet_tell x A N I L k 2 d = if A ≤ d ∧ d < A + k then x else I 2 d := by
  intro k
  induction k with
  | zero => intro d; rw [if_neg (by omega)]; rfl
  | succ k ih =>
    intro d
    show (va_up (it_lwet_tell x A N I L k) 2 (upd (it_lwet_tell x A N I L k 2) (A + k) x)) 2 d = _
    rw [va_e1]
    by_cases z : d = A + k
    · subst z; rw [upd_e, if_pos ⟨by omega, by omega⟩]
    · rw [upd_n z, ih d]
      by_cases y : A ≤ d ∧ d < A + k
      · rw [if_pos y, if_pos ⟨y.1, by omega⟩]
      · rw [if_neg y, if_neg (by omega)]
theorem it_warm_v {x : Int32} {A N : Nat} {I : Nat → Nat → Int32} {L : Nat → Nat → Int64} : ∀ k d, it_lwarm_tell x A N I L k 5 d = if A ≤ d ∧ d < A + k then x else I 5 d := by
  intro k
  induction k with
  | zero => intro d; rw [if_neg (by omega)]; rfl
  | succ k ih =>
    intro d
    show (va_up (it_lwarm_tell x A N I L k) 5 (upd (it_lwarm_tell x A N I L k 5) (A + k) x)) 5 d = _
    rw [va_e1]
    by_cases z : d = A + k
    · subst z; rw [upd_e, if_pos ⟨by omega, by omega⟩]
    · rw [upd_n z, ih d]
      by_cases y : A ≤ d ∧ d < A + k
      · rw [if_pos y, if_pos ⟨y.1, by omega⟩]
      · rw [if_neg y, if_neg (by omega)]
theorem set_fin {k n sl C : Nat} {kk : Nat → Nat × Nat} {q : Nat → Nat → Option Nat} {I J : Nat → Nat → Int32} {L : Nat → Nat → Int64} {ah : Nat → Nat} {M : Nat → List (Nat × Nat × List Nat)} {tx : Nat → Nat} {T : Nat} (hr : rInv kk I tx T) (hn : n ≤ 131 + 2 * k) (hsl : sl ≤ 231806 + 820 * k) (f : ∀ j, 131 ≤ j → J j = I j) (h57 : J 57 = I 57) (h58 : J 58 = I 58) (h81 : J 81 = I 81) (h1 : J 80 1 = I 80 1) (h10 : J 80 10 = I 80 10) (h11 : J 80 11 = I 80 11) (g' : gInv n kk q J L C ah M) (ht : tInv J) (hu : uInv J) (hs : sInv J) (hc : cInv J) (hj : jInv (201 * k + 201) J C M) : hInv (k + 1) (n, sl, wKK kk, J, L, wQQ q) :=
  ⟨n, sl, kk, J, L, q, rfl, C, ah, M, tx, T, g', rInv_f h57 h58 h81 h1 h10 h11 (fun w _ => ⟨f _ (by unfold am_B; omega), rfl⟩) hr, ht, hu, hs, hc, by rw [show 201 * (k + 1) = 201 * k + 201 by omega]; exact hj, by omega, sl_up hsl (by omega)⟩
set_option maxHeartbeats 4000000 in
theorem jx_stiff {c e : Int32} : jx 111 (am_ent 3 [.ref 0, .int c, .int e]) 183 (am_ent 3 [.ref 80, .int c, .int e]) := by
  rintro k h hk ⟨n, sl, kk, I, L, q, rfl, C, ah, M, tx, T, g, hr, ht, hu, hs, hc, hj, hn, hsl⟩
  have x0 : sp_isColumn c = 0 ↔ ¬ (0 ≤ c.toInt ∧ c.toInt < 16) := ar_col
  have m0 : sp_m_isColumn c = 0 ↔ ¬ (0 ≤ c.toInt ∧ c.toInt < 16) := ar_mcol
  have x1 : sp_isWithin e.toInt64 (1) (1000) = 0 ↔ ¬ (1 ≤ e.toInt ∧ e.toInt ≤ 1000) := ar_wi2 (a := 1) (b := 1000) rfl rfl ⟨by decide, by decide⟩ ⟨by decide, by decide⟩
  have m1 : sp_m_is e (1) (1000) = 0 ↔ ¬ (1 ≤ e.toInt ∧ e.toInt ≤ 1000) := ar_mi2 (a := 1) (b := 1000) rfl rfl ⟨by decide, by decide⟩ ⟨by decide, by decide⟩
  have same := h_same (q := q) hk g hr ht hu hs hc hj hn hsl
  by_cases h : sp_isColumn c = 0 ∨ sp_isWithin e.toInt64 (1) (1000) = 0
  · have h2 : sp_m_isColumn c = 0 ∨ sp_m_is e (1) (1000) = 0 := (fun h => h.elim (fun z => Or.inl ((fun z => m0.mpr (x0.mp z)) z)) (fun z => Or.inr ((fun z => m1.mpr (x1.mp z)) z))) h
    have e1 := ev_x_stiff (d := 0) (n := n) (sl := sl) (k := kk) (q := q) (I := I) (L := L) (c := c) (e := e)
    have v1 : sp_x_stiff c e I L = 0 ∧ sI_x_stiff c e I L = I ∧ sL_x_stiff c e I L = L := by
      unfold sp_x_stiff sI_x_stiff sL_x_stiff
      refine ⟨?_, ?_, ?_⟩ <;> (repeat' split) <;> first | rfl | (rcases h with h | h <;> contradiction)
    rw [v1.1, v1.2.1, v1.2.2] at e1
    have e2 := ev_m_stiff (d := 0) (n := n) (sl := sl) (k := kk) (q := q) (I := I) (L := L) (c := c) (e := e)
    have v2 : sp_m_stiff c e I L = 0 ∧ sI_m_stiff c e I L = I ∧ sL_m_stiff c e I L = L := by
      unfold sp_m_stiff sI_m_stiff sL_m_stiff
      refine ⟨?_, ?_, ?_⟩ <;> (repeat' split) <;> first | rfl | (rcases h2 with h2 | h2 <;> contradiction)
    rw [v2.1, v2.2.1, v2.2.2] at e2
    exact jx_e (by decide) (by decide) e1 e2 same
  · have ⟨y0, y1⟩ := (show ¬ sp_isColumn c = 0 ∧ ¬ sp_isWithin e.toInt64 (1) (1000) = 0 from ⟨fun z => h (Or.inl z), fun z => h (Or.inr (z))⟩)
    have w0 : ¬ sp_m_isColumn c = 0 := fun z => y0 (x0.mpr (m0.mp z))
    have r0 : (0 ≤ c.toInt ∧ c.toInt < 16) := (nn_iff x0).mp y0
    have w1 : ¬ sp_m_is e (1) (1000) = 0 := fun z => y1 (x1.mpr (m1.mp z))
    have r1 : (1 ≤ e.toInt ∧ e.toInt ≤ 1000) := (nn_iff x1).mp y1
    have e1 := ev_x_stiff (d := 0) (n := n) (sl := sl) (k := kk) (q := q) (I := I) (L := L) (c := c) (e := e)
    have e2 := fun J0 => ev_m_stiff (d := 0) (n := n) (sl := sl) (k := kk) (q := q) (I := J0) (L := L) (c := c) (e := e)
    simp only [sp_x_stiff, sI_x_stiff, sL_x_stiff, sI_d_stiffen, sL_d_stiffen, sL_d_spoil, if_neg y0, if_neg y1] at e1
    simp only [sp_m_stiff, sI_m_stiff, sL_m_stiff, if_neg w0, if_neg w1] at e2
    obtain ⟨R, q1, q2, q3⟩ := g.2.2.1.2.2.2.2
    have sp := spoil_0 (I := (va_up I 14 (upd (I 14) c.toNatClampNeg e))) (L := L) (R := R) q1 q2
    refine jx_e (d1 := 3) (d2 := 2) (by decide) (by decide) (ev_up (by decide) e1) (ev_up (by decide) (e2 _)) ?_
    have lo : ∀ j, (j ≠ 13 ∧ j ≠ 14 ∧ j ≠ 94) → (va_up (sI_d_spoil 0 (va_up I 14 (upd (I 14) c.toNatClampNeg e)) L) 94 (upd ((sI_d_spoil 0 (va_up I 14 (upd (I 14) c.toNatClampNeg e)) L) 94) c.toNatClampNeg e)) j = I j := fun j hj => by
      obtain ⟨j1, j2, j3⟩ := hj
      rw [va_n1 j3, sp.1 j j1, va_n1 j2]
    have h14 : (va_up (sI_d_spoil 0 (va_up I 14 (upd (I 14) c.toNatClampNeg e)) L) 94 (upd ((sI_d_spoil 0 (va_up I 14 (upd (I 14) c.toNatClampNeg e)) L) 94) c.toNatClampNeg e)) 14 = upd (I 14) c.toNatClampNeg e := by rw [va_n1 (by decide), sp.1 14 (by decide), va_e1]
    have h94 : (va_up (sI_d_spoil 0 (va_up I 14 (upd (I 14) c.toNatClampNeg e)) L) 94 (upd ((sI_d_spoil 0 (va_up I 14 (upd (I 14) c.toNatClampNeg e)) L) 94) c.toNatClampNeg e)) 94 = upd (I 94) c.toNatClampNeg e := by rw [va_e1, sp.1 94 (by decide), va_n1 (by decide)]
    have h11 : (va_up (sI_d_spoil 0 (va_up I 14 (upd (I 14) c.toNatClampNeg e)) L) 94 (upd ((sI_d_spoil 0 (va_up I 14 (upd (I 14) c.toNatClampNeg e)) L) 94) c.toNatClampNeg e)) 13 11 = nI (min R 0) := by rw [va_n1 (by decide)]; exact sp.2.2.1
    have h12 : (va_up (sI_d_spoil 0 (va_up I 14 (upd (I 14) c.toNatClampNeg e)) L) 94 (upd ((sI_d_spoil 0 (va_up I 14 (upd (I 14) c.toNatClampNeg e)) L) 94) c.toNatClampNeg e)) 13 12 = I 13 12 + 1 := by rw [va_n1 (by decide)]; exact sp.2.2.2
    generalize (va_up (sI_d_spoil 0 (va_up I 14 (upd (I 14) c.toNatClampNeg e)) L) 94 (upd ((sI_d_spoil 0 (va_up I 14 (upd (I 14) c.toNatClampNeg e)) L) 94) c.toNatClampNeg e)) = J at lo h14 h94 h11 h12 ⊢
    have tf := (show tFr I J from ⟨fun j hj => lo j (by omega), by rw [lo 80 (by decide)], by rw [lo 80 (by decide)]⟩)
    obtain ⟨t1, t2, t3, t4⟩ := g.1
    have gg : gInv n kk q J L C ah M := gInv_t g tf (by
      unfold wfT
      rw [h94, lo 95 (by decide), lo 96 (by decide), lo 97 (by decide), lo 98 (by decide), lo 99 (by decide), lo 100 (by decide)]
      exact ⟨upd_q (P := fun z => 1 ≤ z.toInt ∧ z.toInt ≤ 1000) r1 t1, fun j => upd_p (P := fun z => z ≤ 1000) (Int32.le_iff_toInt_le.mpr r1.2) (t2 j), t3, t4⟩) (by
      obtain ⟨k1, k2⟩ := g.2.2.1.1
      unfold cTow
      rw [h14, h94, k1, lo 8 (by decide), lo 9 (by decide), lo 10 (by decide), lo 11 (by decide), lo 12 (by decide), lo 95 (by decide), lo 96 (by decide), lo 97 (by decide), lo 98 (by decide), lo 99 (by decide)]
      exact ⟨rfl, k2⟩) (by
      unfold cWet
      rw [lo 2 (by decide), lo 100 (by decide), lo 101 (by decide)]
      exact g.2.2.1.2.1) (cDay_t tf g.2.2.1.2.2.2.2 (A := 0) (by decide) (fun R' z1 z2 => by rw [h11, Nat.min_zero, Nat.min_zero]) (fun z => absurd rfl z) (fun d z => absurd z (by omega)))
    exact set_fin hr hn hsl (fun j hj => lo j (by omega)) (lo 57 (by decide)) (lo 58 (by decide)) (lo 81 (by decide)) (by rw [lo 80 (by decide)]) (by rw [lo 80 (by decide)]) (by rw [lo 80 (by decide)]) gg (by unfold tInv; rw [lo 3 (by decide), lo 5 (by decide), lo 6 (by decide), lo 101 (by decide), lo 102 (by decide), lo 103 (by decide)]; exact ht) (by unfold uInv; rw [lo 65 (by decide), lo 66 (by decide), lo 67 (by decide), lo 104 (by decide), lo 105 (by decide), lo 106 (by decide)]; exact hu) (by unfold sInv; rw [lo 71 (by decide), lo 72 (by decide), lo 73 (by decide), lo 75 (by decide), lo 80 (by decide), lo 121 (by decide), lo 122 (by decide), lo 124 (by decide)]; exact hs) (by unfold cInv; rw [lo 77 (by decide), lo 78 (by decide), lo 79 (by decide), lo 80 (by decide), lo 125 (by decide), lo 126 (by decide)]; exact hc) (jInv_s hj (by rw [lo 55 (by decide)]) h12 (lo 60 (by decide)))
set_option maxHeartbeats 4000000 in
theorem jx_ring {r t g0 c : Int32} : jx 112 (am_ent 5 [.ref 0, .int r, .int t, .int g0, .int c]) 184 (am_ent 5 [.ref 80, .int r, .int t, .int g0, .int c]) := by
  rintro k h hk ⟨n, sl, kk, I, L, q, rfl, C, ah, M, tx, T, g, hr, ht, hu, hs, hc, hj, hn, hsl⟩
  have x0 : sp_isRing r = 0 ↔ ¬ (0 ≤ r.toInt ∧ r.toInt < 8) := ar_ring
  have m0 : sp_m_is r 0 7 = 0 ↔ ¬ (0 ≤ r.toInt ∧ r.toInt < 8) := ar_mring
  have x1 : sp_isWithin t.toInt64 (0) (5000) = 0 ↔ ¬ (0 ≤ t.toInt ∧ t.toInt ≤ 5000) := ar_wi2 (a := 0) (b := 5000) rfl rfl ⟨by decide, by decide⟩ ⟨by decide, by decide⟩
  have m1 : sp_m_is t (0) (5000) = 0 ↔ ¬ (0 ≤ t.toInt ∧ t.toInt ≤ 5000) := ar_mi2 (a := 0) (b := 5000) rfl rfl ⟨by decide, by decide⟩ ⟨by decide, by decide⟩
  have x2 : sp_isWithin g0.toInt64 (0) (100) = 0 ↔ ¬ (0 ≤ g0.toInt ∧ g0.toInt ≤ 100) := ar_wi2 (a := 0) (b := 100) rfl rfl ⟨by decide, by decide⟩ ⟨by decide, by decide⟩
  have m2 : sp_m_is g0 (0) (100) = 0 ↔ ¬ (0 ≤ g0.toInt ∧ g0.toInt ≤ 100) := ar_mi2 (a := 0) (b := 100) rfl rfl ⟨by decide, by decide⟩ ⟨by decide, by decide⟩
  have x3 : sp_isWithin c.toInt64 (-500) (500) = 0 ↔ ¬ (-500 ≤ c.toInt ∧ c.toInt ≤ 500) := ar_wi2 (a := -500) (b := 500) rfl rfl ⟨by decide, by decide⟩ ⟨by decide, by decide⟩
  have m3 : sp_m_is c (-500) (500) = 0 ↔ ¬ (-500 ≤ c.toInt ∧ c.toInt ≤ 500) := ar_mi2 (a := -500) (b := 500) rfl rfl ⟨by decide, by decide⟩ ⟨by decide, by decide⟩
  have same := h_same (q := q) hk g hr ht hu hs hc hj hn hsl
  by_cases h : sp_isRing r = 0 ∨ sp_isWithin t.toInt64 (0) (5000) = 0 ∨ sp_isWithin g0.toInt64 (0) (100) = 0 ∨ sp_isWithin c.toInt64 (-500) (500) = 0
  · have h2 : sp_m_is r 0 7 = 0 ∨ sp_m_is t (0) (5000) = 0 ∨ sp_m_is g0 (0) (100) = 0 ∨ sp_m_is c (-500) (500) = 0 := (fun h => h.elim (fun z => Or.inl ((fun z => m0.mpr (x0.mp z)) z)) (fun z => Or.inr ((fun h => h.elim (fun z => Or.inl ((fun z => m1.mpr (x1.mp z)) z)) (fun z => Or.inr ((fun h => h.elim (fun z => Or.inl ((fun z => m2.mpr (x2.mp z)) z)) (fun z => Or.inr ((fun z => m3.mpr (x3.mp z)) z))) z))) z))) h
    have e1 := ev_x_ring (d := 0) (n := n) (sl := sl) (k := kk) (q := q) (I := I) (L := L) (r := r) (t := t) (g := g0) (c := c)
    have v1 : sp_x_ring r t g0 c I L = 0 ∧ sI_x_ring r t g0 c I L = I ∧ sL_x_ring r t g0 c I L = L := by
      unfold sp_x_ring sI_x_ring sL_x_ring
      refine ⟨?_, ?_, ?_⟩ <;> (repeat' split) <;> first | rfl | (rcases h with h | h | h | h <;> contradiction)
    rw [v1.1, v1.2.1, v1.2.2] at e1
    have e2 := ev_m_ring (d := 0) (n := n) (sl := sl) (k := kk) (q := q) (I := I) (L := L) (r := r) (t := t) (g := g0) (c := c)
    have v2 : sp_m_ring r t g0 c I L = 0 ∧ sI_m_ring r t g0 c I L = I ∧ sL_m_ring r t g0 c I L = L := by
      unfold sp_m_ring sI_m_ring sL_m_ring
      refine ⟨?_, ?_, ?_⟩ <;> (repeat' split) <;> first | rfl | (rcases h2 with h2 | h2 | h2 | h2 <;> contradiction)
    rw [v2.1, v2.2.1, v2.2.2] at e2
    exact jx_e (by decide) (by decide) e1 e2 same
  · have ⟨y0, y1, y2, y3⟩ := (show ¬ sp_isRing r = 0 ∧ ¬ sp_isWithin t.toInt64 (0) (5000) = 0 ∧ ¬ sp_isWithin g0.toInt64 (0) (100) = 0 ∧ ¬ sp_isWithin c.toInt64 (-500) (500) = 0 from ⟨fun z => h (Or.inl z), fun z => h (Or.inr (Or.inl z)), fun z => h (Or.inr (Or.inr (Or.inl z))), fun z => h (Or.inr (Or.inr (Or.inr (z))))⟩)
    have w0 : ¬ sp_m_is r 0 7 = 0 := fun z => y0 (x0.mpr (m0.mp z))
    have r0 : (0 ≤ r.toInt ∧ r.toInt < 8) := (nn_iff x0).mp y0
    have w1 : ¬ sp_m_is t (0) (5000) = 0 := fun z => y1 (x1.mpr (m1.mp z))
    have r1 : (0 ≤ t.toInt ∧ t.toInt ≤ 5000) := (nn_iff x1).mp y1
    have w2 : ¬ sp_m_is g0 (0) (100) = 0 := fun z => y2 (x2.mpr (m2.mp z))
    have r2 : (0 ≤ g0.toInt ∧ g0.toInt ≤ 100) := (nn_iff x2).mp y2
    have w3 : ¬ sp_m_is c (-500) (500) = 0 := fun z => y3 (x3.mpr (m3.mp z))
    have r3 : (-500 ≤ c.toInt ∧ c.toInt ≤ 500) := (nn_iff x3).mp y3
    have e1 := ev_x_ring (d := 0) (n := n) (sl := sl) (k := kk) (q := q) (I := I) (L := L) (r := r) (t := t) (g := g0) (c := c)
    have e2 := fun J0 => ev_m_ring (d := 0) (n := n) (sl := sl) (k := kk) (q := q) (I := J0) (L := L) (r := r) (t := t) (g := g0) (c := c)
    simp only [sp_x_ring, sI_x_ring, sL_x_ring, sI_st_lay, sL_st_lay, sL_d_spoil, if_neg y0, if_neg y1, if_neg y2, if_neg y3] at e1
    simp only [sp_m_ring, sI_m_ring, sL_m_ring, if_neg w0, if_neg w1, if_neg w2, if_neg w3] at e2
    obtain ⟨R, q1, q2, q3⟩ := g.2.2.1.2.2.2.2
    have sp := spoil_0 (I := (va_up (va_up (va_up I 8 (upd (I 8) r.toNatClampNeg t)) 9 (upd ((va_up I 8 (upd (I 8) r.toNatClampNeg t)) 9) r.toNatClampNeg g0)) 10 (upd ((va_up (va_up I 8 (upd (I 8) r.toNatClampNeg t)) 9 (upd ((va_up I 8 (upd (I 8) r.toNatClampNeg t)) 9) r.toNatClampNeg g0)) 10) r.toNatClampNeg c))) (L := L) (R := R) q1 q2
    refine jx_e (d1 := 3) (d2 := 2) (by decide) (by decide) (ev_up (by decide) e1) (ev_up (by decide) (e2 _)) ?_
    have lo : ∀ j, (j ≠ 8 ∧ j ≠ 9 ∧ j ≠ 10 ∧ j ≠ 13 ∧ j ≠ 95 ∧ j ≠ 96 ∧ j ≠ 97) → (va_up (va_up (va_up (sI_d_spoil 0 (va_up (va_up (va_up I 8 (upd (I 8) r.toNatClampNeg t)) 9 (upd ((va_up I 8 (upd (I 8) r.toNatClampNeg t)) 9) r.toNatClampNeg g0)) 10 (upd ((va_up (va_up I 8 (upd (I 8) r.toNatClampNeg t)) 9 (upd ((va_up I 8 (upd (I 8) r.toNatClampNeg t)) 9) r.toNatClampNeg g0)) 10) r.toNatClampNeg c)) L) 95 (upd ((sI_d_spoil 0 (va_up (va_up (va_up I 8 (upd (I 8) r.toNatClampNeg t)) 9 (upd ((va_up I 8 (upd (I 8) r.toNatClampNeg t)) 9) r.toNatClampNeg g0)) 10 (upd ((va_up (va_up I 8 (upd (I 8) r.toNatClampNeg t)) 9 (upd ((va_up I 8 (upd (I 8) r.toNatClampNeg t)) 9) r.toNatClampNeg g0)) 10) r.toNatClampNeg c)) L) 95) r.toNatClampNeg t)) 96 (upd ((va_up (sI_d_spoil 0 (va_up (va_up (va_up I 8 (upd (I 8) r.toNatClampNeg t)) 9 (upd ((va_up I 8 (upd (I 8) r.toNatClampNeg t)) 9) r.toNatClampNeg g0)) 10 (upd ((va_up (va_up I 8 (upd (I 8) r.toNatClampNeg t)) 9 (upd ((va_up I 8 (upd (I 8) r.toNatClampNeg t)) 9) r.toNatClampNeg g0)) 10) r.toNatClampNeg c)) L) 95 (upd ((sI_d_spoil 0 (va_up (va_up (va_up I 8 (upd (I 8) r.toNatClampNeg t)) 9 (upd ((va_up I 8 (upd (I 8) r.toNatClampNeg t)) 9) r.toNatClampNeg g0)) 10 (upd ((va_up (va_up I 8 (upd (I 8) r.toNatClampNeg t)) 9 (upd ((va_up I 8 (upd (I 8) r.toNatClampNeg t)) 9) r.toNatClampNeg g0)) 10) r.toNatClampNeg c)) L) 95) r.toNatClampNeg t)) 96) r.toNatClampNeg g0)) 97 (upd ((va_up (va_up (sI_d_spoil 0 (va_up (va_up (va_up I 8 (upd (I 8) r.toNatClampNeg t)) 9 (upd ((va_up I 8 (upd (I 8) r.toNatClampNeg t)) 9) r.toNatClampNeg g0)) 10 (upd ((va_up (va_up I 8 (upd (I 8) r.toNatClampNeg t)) 9 (upd ((va_up I 8 (upd (I 8) r.toNatClampNeg t)) 9) r.toNatClampNeg g0)) 10) r.toNatClampNeg c)) L) 95 (upd ((sI_d_spoil 0 (va_up (va_up (va_up I 8 (upd (I 8) r.toNatClampNeg t)) 9 (upd ((va_up I 8 (upd (I 8) r.toNatClampNeg t)) 9) r.toNatClampNeg g0)) 10 (upd ((va_up (va_up I 8 (upd (I 8) r.toNatClampNeg t)) 9 (upd ((va_up I 8 (upd (I 8) r.toNatClampNeg t)) 9) r.toNatClampNeg g0)) 10) r.toNatClampNeg c)) L) 95) r.toNatClampNeg t)) 96 (upd ((va_up (sI_d_spoil 0 (va_up (va_up (va_up I 8 (upd (I 8) r.toNatClampNeg t)) 9 (upd ((va_up I 8 (upd (I 8) r.toNatClampNeg t)) 9) r.toNatClampNeg g0)) 10 (upd ((va_up (va_up I 8 (upd (I 8) r.toNatClampNeg t)) 9 (upd ((va_up I 8 (upd (I 8) r.toNatClampNeg t)) 9) r.toNatClampNeg g0)) 10) r.toNatClampNeg c)) L) 95 (upd ((sI_d_spoil 0 (va_up (va_up (va_up I 8 (upd (I 8) r.toNatClampNeg t)) 9 (upd ((va_up I 8 (upd (I 8) r.toNatClampNeg t)) 9) r.toNatClampNeg g0)) 10 (upd ((va_up (va_up I 8 (upd (I 8) r.toNatClampNeg t)) 9 (upd ((va_up I 8 (upd (I 8) r.toNatClampNeg t)) 9) r.toNatClampNeg g0)) 10) r.toNatClampNeg c)) L) 95) r.toNatClampNeg t)) 96) r.toNatClampNeg g0)) 97) r.toNatClampNeg c)) j = I j := fun j hj => by
      obtain ⟨j1, j2, j3, j4, j5, j6, j7⟩ := hj
      rw [va_n1 j7, va_n1 j6, va_n1 j5, sp.1 j j4, va_n1 j3, va_n1 j2, va_n1 j1]
    have h8 : (va_up (va_up (va_up (sI_d_spoil 0 (va_up (va_up (va_up I 8 (upd (I 8) r.toNatClampNeg t)) 9 (upd ((va_up I 8 (upd (I 8) r.toNatClampNeg t)) 9) r.toNatClampNeg g0)) 10 (upd ((va_up (va_up I 8 (upd (I 8) r.toNatClampNeg t)) 9 (upd ((va_up I 8 (upd (I 8) r.toNatClampNeg t)) 9) r.toNatClampNeg g0)) 10) r.toNatClampNeg c)) L) 95 (upd ((sI_d_spoil 0 (va_up (va_up (va_up I 8 (upd (I 8) r.toNatClampNeg t)) 9 (upd ((va_up I 8 (upd (I 8) r.toNatClampNeg t)) 9) r.toNatClampNeg g0)) 10 (upd ((va_up (va_up I 8 (upd (I 8) r.toNatClampNeg t)) 9 (upd ((va_up I 8 (upd (I 8) r.toNatClampNeg t)) 9) r.toNatClampNeg g0)) 10) r.toNatClampNeg c)) L) 95) r.toNatClampNeg t)) 96 (upd ((va_up (sI_d_spoil 0 (va_up (va_up (va_up I 8 (upd (I 8) r.toNatClampNeg t)) 9 (upd ((va_up I 8 (upd (I 8) r.toNatClampNeg t)) 9) r.toNatClampNeg g0)) 10 (upd ((va_up (va_up I 8 (upd (I 8) r.toNatClampNeg t)) 9 (upd ((va_up I 8 (upd (I 8) r.toNatClampNeg t)) 9) r.toNatClampNeg g0)) 10) r.toNatClampNeg c)) L) 95 (upd ((sI_d_spoil 0 (va_up (va_up (va_up I 8 (upd (I 8) r.toNatClampNeg t)) 9 (upd ((va_up I 8 (upd (I 8) r.toNatClampNeg t)) 9) r.toNatClampNeg g0)) 10 (upd ((va_up (va_up I 8 (upd (I 8) r.toNatClampNeg t)) 9 (upd ((va_up I 8 (upd (I 8) r.toNatClampNeg t)) 9) r.toNatClampNeg g0)) 10) r.toNatClampNeg c)) L) 95) r.toNatClampNeg t)) 96) r.toNatClampNeg g0)) 97 (upd ((va_up (va_up (sI_d_spoil 0 (va_up (va_up (va_up I 8 (upd (I 8) r.toNatClampNeg t)) 9 (upd ((va_up I 8 (upd (I 8) r.toNatClampNeg t)) 9) r.toNatClampNeg g0)) 10 (upd ((va_up (va_up I 8 (upd (I 8) r.toNatClampNeg t)) 9 (upd ((va_up I 8 (upd (I 8) r.toNatClampNeg t)) 9) r.toNatClampNeg g0)) 10) r.toNatClampNeg c)) L) 95 (upd ((sI_d_spoil 0 (va_up (va_up (va_up I 8 (upd (I 8) r.toNatClampNeg t)) 9 (upd ((va_up I 8 (upd (I 8) r.toNatClampNeg t)) 9) r.toNatClampNeg g0)) 10 (upd ((va_up (va_up I 8 (upd (I 8) r.toNatClampNeg t)) 9 (upd ((va_up I 8 (upd (I 8) r.toNatClampNeg t)) 9) r.toNatClampNeg g0)) 10) r.toNatClampNeg c)) L) 95) r.toNatClampNeg t)) 96 (upd ((va_up (sI_d_spoil 0 (va_up (va_up (va_up I 8 (upd (I 8) r.toNatClampNeg t)) 9 (upd ((va_up I 8 (upd (I 8) r.toNatClampNeg t)) 9) r.toNatClampNeg g0)) 10 (upd ((va_up (va_up I 8 (upd (I 8) r.toNatClampNeg t)) 9 (upd ((va_up I 8 (upd (I 8) r.toNatClampNeg t)) 9) r.toNatClampNeg g0)) 10) r.toNatClampNeg c)) L) 95 (upd ((sI_d_spoil 0 (va_up (va_up (va_up I 8 (upd (I 8) r.toNatClampNeg t)) 9 (upd ((va_up I 8 (upd (I 8) r.toNatClampNeg t)) 9) r.toNatClampNeg g0)) 10 (upd ((va_up (va_up I 8 (upd (I 8) r.toNatClampNeg t)) 9 (upd ((va_up I 8 (upd (I 8) r.toNatClampNeg t)) 9) r.toNatClampNeg g0)) 10) r.toNatClampNeg c)) L) 95) r.toNatClampNeg t)) 96) r.toNatClampNeg g0)) 97) r.toNatClampNeg c)) 8 = upd (I 8) r.toNatClampNeg t := by rw [va_n1 (by decide), va_n1 (by decide), va_n1 (by decide), sp.1 8 (by decide), va_n1 (by decide), va_n1 (by decide), va_e1]
    have h9 : (va_up (va_up (va_up (sI_d_spoil 0 (va_up (va_up (va_up I 8 (upd (I 8) r.toNatClampNeg t)) 9 (upd ((va_up I 8 (upd (I 8) r.toNatClampNeg t)) 9) r.toNatClampNeg g0)) 10 (upd ((va_up (va_up I 8 (upd (I 8) r.toNatClampNeg t)) 9 (upd ((va_up I 8 (upd (I 8) r.toNatClampNeg t)) 9) r.toNatClampNeg g0)) 10) r.toNatClampNeg c)) L) 95 (upd ((sI_d_spoil 0 (va_up (va_up (va_up I 8 (upd (I 8) r.toNatClampNeg t)) 9 (upd ((va_up I 8 (upd (I 8) r.toNatClampNeg t)) 9) r.toNatClampNeg g0)) 10 (upd ((va_up (va_up I 8 (upd (I 8) r.toNatClampNeg t)) 9 (upd ((va_up I 8 (upd (I 8) r.toNatClampNeg t)) 9) r.toNatClampNeg g0)) 10) r.toNatClampNeg c)) L) 95) r.toNatClampNeg t)) 96 (upd ((va_up (sI_d_spoil 0 (va_up (va_up (va_up I 8 (upd (I 8) r.toNatClampNeg t)) 9 (upd ((va_up I 8 (upd (I 8) r.toNatClampNeg t)) 9) r.toNatClampNeg g0)) 10 (upd ((va_up (va_up I 8 (upd (I 8) r.toNatClampNeg t)) 9 (upd ((va_up I 8 (upd (I 8) r.toNatClampNeg t)) 9) r.toNatClampNeg g0)) 10) r.toNatClampNeg c)) L) 95 (upd ((sI_d_spoil 0 (va_up (va_up (va_up I 8 (upd (I 8) r.toNatClampNeg t)) 9 (upd ((va_up I 8 (upd (I 8) r.toNatClampNeg t)) 9) r.toNatClampNeg g0)) 10 (upd ((va_up (va_up I 8 (upd (I 8) r.toNatClampNeg t)) 9 (upd ((va_up I 8 (upd (I 8) r.toNatClampNeg t)) 9) r.toNatClampNeg g0)) 10) r.toNatClampNeg c)) L) 95) r.toNatClampNeg t)) 96) r.toNatClampNeg g0)) 97 (upd ((va_up (va_up (sI_d_spoil 0 (va_up (va_up (va_up I 8 (upd (I 8) r.toNatClampNeg t)) 9 (upd ((va_up I 8 (upd (I 8) r.toNatClampNeg t)) 9) r.toNatClampNeg g0)) 10 (upd ((va_up (va_up I 8 (upd (I 8) r.toNatClampNeg t)) 9 (upd ((va_up I 8 (upd (I 8) r.toNatClampNeg t)) 9) r.toNatClampNeg g0)) 10) r.toNatClampNeg c)) L) 95 (upd ((sI_d_spoil 0 (va_up (va_up (va_up I 8 (upd (I 8) r.toNatClampNeg t)) 9 (upd ((va_up I 8 (upd (I 8) r.toNatClampNeg t)) 9) r.toNatClampNeg g0)) 10 (upd ((va_up (va_up I 8 (upd (I 8) r.toNatClampNeg t)) 9 (upd ((va_up I 8 (upd (I 8) r.toNatClampNeg t)) 9) r.toNatClampNeg g0)) 10) r.toNatClampNeg c)) L) 95) r.toNatClampNeg t)) 96 (upd ((va_up (sI_d_spoil 0 (va_up (va_up (va_up I 8 (upd (I 8) r.toNatClampNeg t)) 9 (upd ((va_up I 8 (upd (I 8) r.toNatClampNeg t)) 9) r.toNatClampNeg g0)) 10 (upd ((va_up (va_up I 8 (upd (I 8) r.toNatClampNeg t)) 9 (upd ((va_up I 8 (upd (I 8) r.toNatClampNeg t)) 9) r.toNatClampNeg g0)) 10) r.toNatClampNeg c)) L) 95 (upd ((sI_d_spoil 0 (va_up (va_up (va_up I 8 (upd (I 8) r.toNatClampNeg t)) 9 (upd ((va_up I 8 (upd (I 8) r.toNatClampNeg t)) 9) r.toNatClampNeg g0)) 10 (upd ((va_up (va_up I 8 (upd (I 8) r.toNatClampNeg t)) 9 (upd ((va_up I 8 (upd (I 8) r.toNatClampNeg t)) 9) r.toNatClampNeg g0)) 10) r.toNatClampNeg c)) L) 95) r.toNatClampNeg t)) 96) r.toNatClampNeg g0)) 97) r.toNatClampNeg c)) 9 = upd (I 9) r.toNatClampNeg g0 := by rw [va_n1 (by decide), va_n1 (by decide), va_n1 (by decide), sp.1 9 (by decide), va_n1 (by decide), va_e1, va_n1 (by decide)]
    have h10 : (va_up (va_up (va_up (sI_d_spoil 0 (va_up (va_up (va_up I 8 (upd (I 8) r.toNatClampNeg t)) 9 (upd ((va_up I 8 (upd (I 8) r.toNatClampNeg t)) 9) r.toNatClampNeg g0)) 10 (upd ((va_up (va_up I 8 (upd (I 8) r.toNatClampNeg t)) 9 (upd ((va_up I 8 (upd (I 8) r.toNatClampNeg t)) 9) r.toNatClampNeg g0)) 10) r.toNatClampNeg c)) L) 95 (upd ((sI_d_spoil 0 (va_up (va_up (va_up I 8 (upd (I 8) r.toNatClampNeg t)) 9 (upd ((va_up I 8 (upd (I 8) r.toNatClampNeg t)) 9) r.toNatClampNeg g0)) 10 (upd ((va_up (va_up I 8 (upd (I 8) r.toNatClampNeg t)) 9 (upd ((va_up I 8 (upd (I 8) r.toNatClampNeg t)) 9) r.toNatClampNeg g0)) 10) r.toNatClampNeg c)) L) 95) r.toNatClampNeg t)) 96 (upd ((va_up (sI_d_spoil 0 (va_up (va_up (va_up I 8 (upd (I 8) r.toNatClampNeg t)) 9 (upd ((va_up I 8 (upd (I 8) r.toNatClampNeg t)) 9) r.toNatClampNeg g0)) 10 (upd ((va_up (va_up I 8 (upd (I 8) r.toNatClampNeg t)) 9 (upd ((va_up I 8 (upd (I 8) r.toNatClampNeg t)) 9) r.toNatClampNeg g0)) 10) r.toNatClampNeg c)) L) 95 (upd ((sI_d_spoil 0 (va_up (va_up (va_up I 8 (upd (I 8) r.toNatClampNeg t)) 9 (upd ((va_up I 8 (upd (I 8) r.toNatClampNeg t)) 9) r.toNatClampNeg g0)) 10 (upd ((va_up (va_up I 8 (upd (I 8) r.toNatClampNeg t)) 9 (upd ((va_up I 8 (upd (I 8) r.toNatClampNeg t)) 9) r.toNatClampNeg g0)) 10) r.toNatClampNeg c)) L) 95) r.toNatClampNeg t)) 96) r.toNatClampNeg g0)) 97 (upd ((va_up (va_up (sI_d_spoil 0 (va_up (va_up (va_up I 8 (upd (I 8) r.toNatClampNeg t)) 9 (upd ((va_up I 8 (upd (I 8) r.toNatClampNeg t)) 9) r.toNatClampNeg g0)) 10 (upd ((va_up (va_up I 8 (upd (I 8) r.toNatClampNeg t)) 9 (upd ((va_up I 8 (upd (I 8) r.toNatClampNeg t)) 9) r.toNatClampNeg g0)) 10) r.toNatClampNeg c)) L) 95 (upd ((sI_d_spoil 0 (va_up (va_up (va_up I 8 (upd (I 8) r.toNatClampNeg t)) 9 (upd ((va_up I 8 (upd (I 8) r.toNatClampNeg t)) 9) r.toNatClampNeg g0)) 10 (upd ((va_up (va_up I 8 (upd (I 8) r.toNatClampNeg t)) 9 (upd ((va_up I 8 (upd (I 8) r.toNatClampNeg t)) 9) r.toNatClampNeg g0)) 10) r.toNatClampNeg c)) L) 95) r.toNatClampNeg t)) 96 (upd ((va_up (sI_d_spoil 0 (va_up (va_up (va_up I 8 (upd (I 8) r.toNatClampNeg t)) 9 (upd ((va_up I 8 (upd (I 8) r.toNatClampNeg t)) 9) r.toNatClampNeg g0)) 10 (upd ((va_up (va_up I 8 (upd (I 8) r.toNatClampNeg t)) 9 (upd ((va_up I 8 (upd (I 8) r.toNatClampNeg t)) 9) r.toNatClampNeg g0)) 10) r.toNatClampNeg c)) L) 95 (upd ((sI_d_spoil 0 (va_up (va_up (va_up I 8 (upd (I 8) r.toNatClampNeg t)) 9 (upd ((va_up I 8 (upd (I 8) r.toNatClampNeg t)) 9) r.toNatClampNeg g0)) 10 (upd ((va_up (va_up I 8 (upd (I 8) r.toNatClampNeg t)) 9 (upd ((va_up I 8 (upd (I 8) r.toNatClampNeg t)) 9) r.toNatClampNeg g0)) 10) r.toNatClampNeg c)) L) 95) r.toNatClampNeg t)) 96) r.toNatClampNeg g0)) 97) r.toNatClampNeg c)) 10 = upd (I 10) r.toNatClampNeg c := by rw [va_n1 (by decide), va_n1 (by decide), va_n1 (by decide), sp.1 10 (by decide), va_e1, va_n1 (by decide), va_n1 (by decide)]
    have h95 : (va_up (va_up (va_up (sI_d_spoil 0 (va_up (va_up (va_up I 8 (upd (I 8) r.toNatClampNeg t)) 9 (upd ((va_up I 8 (upd (I 8) r.toNatClampNeg t)) 9) r.toNatClampNeg g0)) 10 (upd ((va_up (va_up I 8 (upd (I 8) r.toNatClampNeg t)) 9 (upd ((va_up I 8 (upd (I 8) r.toNatClampNeg t)) 9) r.toNatClampNeg g0)) 10) r.toNatClampNeg c)) L) 95 (upd ((sI_d_spoil 0 (va_up (va_up (va_up I 8 (upd (I 8) r.toNatClampNeg t)) 9 (upd ((va_up I 8 (upd (I 8) r.toNatClampNeg t)) 9) r.toNatClampNeg g0)) 10 (upd ((va_up (va_up I 8 (upd (I 8) r.toNatClampNeg t)) 9 (upd ((va_up I 8 (upd (I 8) r.toNatClampNeg t)) 9) r.toNatClampNeg g0)) 10) r.toNatClampNeg c)) L) 95) r.toNatClampNeg t)) 96 (upd ((va_up (sI_d_spoil 0 (va_up (va_up (va_up I 8 (upd (I 8) r.toNatClampNeg t)) 9 (upd ((va_up I 8 (upd (I 8) r.toNatClampNeg t)) 9) r.toNatClampNeg g0)) 10 (upd ((va_up (va_up I 8 (upd (I 8) r.toNatClampNeg t)) 9 (upd ((va_up I 8 (upd (I 8) r.toNatClampNeg t)) 9) r.toNatClampNeg g0)) 10) r.toNatClampNeg c)) L) 95 (upd ((sI_d_spoil 0 (va_up (va_up (va_up I 8 (upd (I 8) r.toNatClampNeg t)) 9 (upd ((va_up I 8 (upd (I 8) r.toNatClampNeg t)) 9) r.toNatClampNeg g0)) 10 (upd ((va_up (va_up I 8 (upd (I 8) r.toNatClampNeg t)) 9 (upd ((va_up I 8 (upd (I 8) r.toNatClampNeg t)) 9) r.toNatClampNeg g0)) 10) r.toNatClampNeg c)) L) 95) r.toNatClampNeg t)) 96) r.toNatClampNeg g0)) 97 (upd ((va_up (va_up (sI_d_spoil 0 (va_up (va_up (va_up I 8 (upd (I 8) r.toNatClampNeg t)) 9 (upd ((va_up I 8 (upd (I 8) r.toNatClampNeg t)) 9) r.toNatClampNeg g0)) 10 (upd ((va_up (va_up I 8 (upd (I 8) r.toNatClampNeg t)) 9 (upd ((va_up I 8 (upd (I 8) r.toNatClampNeg t)) 9) r.toNatClampNeg g0)) 10) r.toNatClampNeg c)) L) 95 (upd ((sI_d_spoil 0 (va_up (va_up (va_up I 8 (upd (I 8) r.toNatClampNeg t)) 9 (upd ((va_up I 8 (upd (I 8) r.toNatClampNeg t)) 9) r.toNatClampNeg g0)) 10 (upd ((va_up (va_up I 8 (upd (I 8) r.toNatClampNeg t)) 9 (upd ((va_up I 8 (upd (I 8) r.toNatClampNeg t)) 9) r.toNatClampNeg g0)) 10) r.toNatClampNeg c)) L) 95) r.toNatClampNeg t)) 96 (upd ((va_up (sI_d_spoil 0 (va_up (va_up (va_up I 8 (upd (I 8) r.toNatClampNeg t)) 9 (upd ((va_up I 8 (upd (I 8) r.toNatClampNeg t)) 9) r.toNatClampNeg g0)) 10 (upd ((va_up (va_up I 8 (upd (I 8) r.toNatClampNeg t)) 9 (upd ((va_up I 8 (upd (I 8) r.toNatClampNeg t)) 9) r.toNatClampNeg g0)) 10) r.toNatClampNeg c)) L) 95 (upd ((sI_d_spoil 0 (va_up (va_up (va_up I 8 (upd (I 8) r.toNatClampNeg t)) 9 (upd ((va_up I 8 (upd (I 8) r.toNatClampNeg t)) 9) r.toNatClampNeg g0)) 10 (upd ((va_up (va_up I 8 (upd (I 8) r.toNatClampNeg t)) 9 (upd ((va_up I 8 (upd (I 8) r.toNatClampNeg t)) 9) r.toNatClampNeg g0)) 10) r.toNatClampNeg c)) L) 95) r.toNatClampNeg t)) 96) r.toNatClampNeg g0)) 97) r.toNatClampNeg c)) 95 = upd (I 95) r.toNatClampNeg t := by rw [va_n1 (by decide), va_n1 (by decide), va_e1, sp.1 95 (by decide), va_n1 (by decide), va_n1 (by decide), va_n1 (by decide)]
    have h96 : (va_up (va_up (va_up (sI_d_spoil 0 (va_up (va_up (va_up I 8 (upd (I 8) r.toNatClampNeg t)) 9 (upd ((va_up I 8 (upd (I 8) r.toNatClampNeg t)) 9) r.toNatClampNeg g0)) 10 (upd ((va_up (va_up I 8 (upd (I 8) r.toNatClampNeg t)) 9 (upd ((va_up I 8 (upd (I 8) r.toNatClampNeg t)) 9) r.toNatClampNeg g0)) 10) r.toNatClampNeg c)) L) 95 (upd ((sI_d_spoil 0 (va_up (va_up (va_up I 8 (upd (I 8) r.toNatClampNeg t)) 9 (upd ((va_up I 8 (upd (I 8) r.toNatClampNeg t)) 9) r.toNatClampNeg g0)) 10 (upd ((va_up (va_up I 8 (upd (I 8) r.toNatClampNeg t)) 9 (upd ((va_up I 8 (upd (I 8) r.toNatClampNeg t)) 9) r.toNatClampNeg g0)) 10) r.toNatClampNeg c)) L) 95) r.toNatClampNeg t)) 96 (upd ((va_up (sI_d_spoil 0 (va_up (va_up (va_up I 8 (upd (I 8) r.toNatClampNeg t)) 9 (upd ((va_up I 8 (upd (I 8) r.toNatClampNeg t)) 9) r.toNatClampNeg g0)) 10 (upd ((va_up (va_up I 8 (upd (I 8) r.toNatClampNeg t)) 9 (upd ((va_up I 8 (upd (I 8) r.toNatClampNeg t)) 9) r.toNatClampNeg g0)) 10) r.toNatClampNeg c)) L) 95 (upd ((sI_d_spoil 0 (va_up (va_up (va_up I 8 (upd (I 8) r.toNatClampNeg t)) 9 (upd ((va_up I 8 (upd (I 8) r.toNatClampNeg t)) 9) r.toNatClampNeg g0)) 10 (upd ((va_up (va_up I 8 (upd (I 8) r.toNatClampNeg t)) 9 (upd ((va_up I 8 (upd (I 8) r.toNatClampNeg t)) 9) r.toNatClampNeg g0)) 10) r.toNatClampNeg c)) L) 95) r.toNatClampNeg t)) 96) r.toNatClampNeg g0)) 97 (upd ((va_up (va_up (sI_d_spoil 0 (va_up (va_up (va_up I 8 (upd (I 8) r.toNatClampNeg t)) 9 (upd ((va_up I 8 (upd (I 8) r.toNatClampNeg t)) 9) r.toNatClampNeg g0)) 10 (upd ((va_up (va_up I 8 (upd (I 8) r.toNatClampNeg t)) 9 (upd ((va_up I 8 (upd (I 8) r.toNatClampNeg t)) 9) r.toNatClampNeg g0)) 10) r.toNatClampNeg c)) L) 95 (upd ((sI_d_spoil 0 (va_up (va_up (va_up I 8 (upd (I 8) r.toNatClampNeg t)) 9 (upd ((va_up I 8 (upd (I 8) r.toNatClampNeg t)) 9) r.toNatClampNeg g0)) 10 (upd ((va_up (va_up I 8 (upd (I 8) r.toNatClampNeg t)) 9 (upd ((va_up I 8 (upd (I 8) r.toNatClampNeg t)) 9) r.toNatClampNeg g0)) 10) r.toNatClampNeg c)) L) 95) r.toNatClampNeg t)) 96 (upd ((va_up (sI_d_spoil 0 (va_up (va_up (va_up I 8 (upd (I 8) r.toNatClampNeg t)) 9 (upd ((va_up I 8 (upd (I 8) r.toNatClampNeg t)) 9) r.toNatClampNeg g0)) 10 (upd ((va_up (va_up I 8 (upd (I 8) r.toNatClampNeg t)) 9 (upd ((va_up I 8 (upd (I 8) r.toNatClampNeg t)) 9) r.toNatClampNeg g0)) 10) r.toNatClampNeg c)) L) 95 (upd ((sI_d_spoil 0 (va_up (va_up (va_up I 8 (upd (I 8) r.toNatClampNeg t)) 9 (upd ((va_up I 8 (upd (I 8) r.toNatClampNeg t)) 9) r.toNatClampNeg g0)) 10 (upd ((va_up (va_up I 8 (upd (I 8) r.toNatClampNeg t)) 9 (upd ((va_up I 8 (upd (I 8) r.toNatClampNeg t)) 9) r.toNatClampNeg g0)) 10) r.toNatClampNeg c)) L) 95) r.toNatClampNeg t)) 96) r.toNatClampNeg g0)) 97) r.toNatClampNeg c)) 96 = upd (I 96) r.toNatClampNeg g0 := by rw [va_n1 (by decide), va_e1, va_n1 (by decide), sp.1 96 (by decide), va_n1 (by decide), va_n1 (by decide), va_n1 (by decide)]
    have h97 : (va_up (va_up (va_up (sI_d_spoil 0 (va_up (va_up (va_up I 8 (upd (I 8) r.toNatClampNeg t)) 9 (upd ((va_up I 8 (upd (I 8) r.toNatClampNeg t)) 9) r.toNatClampNeg g0)) 10 (upd ((va_up (va_up I 8 (upd (I 8) r.toNatClampNeg t)) 9 (upd ((va_up I 8 (upd (I 8) r.toNatClampNeg t)) 9) r.toNatClampNeg g0)) 10) r.toNatClampNeg c)) L) 95 (upd ((sI_d_spoil 0 (va_up (va_up (va_up I 8 (upd (I 8) r.toNatClampNeg t)) 9 (upd ((va_up I 8 (upd (I 8) r.toNatClampNeg t)) 9) r.toNatClampNeg g0)) 10 (upd ((va_up (va_up I 8 (upd (I 8) r.toNatClampNeg t)) 9 (upd ((va_up I 8 (upd (I 8) r.toNatClampNeg t)) 9) r.toNatClampNeg g0)) 10) r.toNatClampNeg c)) L) 95) r.toNatClampNeg t)) 96 (upd ((va_up (sI_d_spoil 0 (va_up (va_up (va_up I 8 (upd (I 8) r.toNatClampNeg t)) 9 (upd ((va_up I 8 (upd (I 8) r.toNatClampNeg t)) 9) r.toNatClampNeg g0)) 10 (upd ((va_up (va_up I 8 (upd (I 8) r.toNatClampNeg t)) 9 (upd ((va_up I 8 (upd (I 8) r.toNatClampNeg t)) 9) r.toNatClampNeg g0)) 10) r.toNatClampNeg c)) L) 95 (upd ((sI_d_spoil 0 (va_up (va_up (va_up I 8 (upd (I 8) r.toNatClampNeg t)) 9 (upd ((va_up I 8 (upd (I 8) r.toNatClampNeg t)) 9) r.toNatClampNeg g0)) 10 (upd ((va_up (va_up I 8 (upd (I 8) r.toNatClampNeg t)) 9 (upd ((va_up I 8 (upd (I 8) r.toNatClampNeg t)) 9) r.toNatClampNeg g0)) 10) r.toNatClampNeg c)) L) 95) r.toNatClampNeg t)) 96) r.toNatClampNeg g0)) 97 (upd ((va_up (va_up (sI_d_spoil 0 (va_up (va_up (va_up I 8 (upd (I 8) r.toNatClampNeg t)) 9 (upd ((va_up I 8 (upd (I 8) r.toNatClampNeg t)) 9) r.toNatClampNeg g0)) 10 (upd ((va_up (va_up I 8 (upd (I 8) r.toNatClampNeg t)) 9 (upd ((va_up I 8 (upd (I 8) r.toNatClampNeg t)) 9) r.toNatClampNeg g0)) 10) r.toNatClampNeg c)) L) 95 (upd ((sI_d_spoil 0 (va_up (va_up (va_up I 8 (upd (I 8) r.toNatClampNeg t)) 9 (upd ((va_up I 8 (upd (I 8) r.toNatClampNeg t)) 9) r.toNatClampNeg g0)) 10 (upd ((va_up (va_up I 8 (upd (I 8) r.toNatClampNeg t)) 9 (upd ((va_up I 8 (upd (I 8) r.toNatClampNeg t)) 9) r.toNatClampNeg g0)) 10) r.toNatClampNeg c)) L) 95) r.toNatClampNeg t)) 96 (upd ((va_up (sI_d_spoil 0 (va_up (va_up (va_up I 8 (upd (I 8) r.toNatClampNeg t)) 9 (upd ((va_up I 8 (upd (I 8) r.toNatClampNeg t)) 9) r.toNatClampNeg g0)) 10 (upd ((va_up (va_up I 8 (upd (I 8) r.toNatClampNeg t)) 9 (upd ((va_up I 8 (upd (I 8) r.toNatClampNeg t)) 9) r.toNatClampNeg g0)) 10) r.toNatClampNeg c)) L) 95 (upd ((sI_d_spoil 0 (va_up (va_up (va_up I 8 (upd (I 8) r.toNatClampNeg t)) 9 (upd ((va_up I 8 (upd (I 8) r.toNatClampNeg t)) 9) r.toNatClampNeg g0)) 10 (upd ((va_up (va_up I 8 (upd (I 8) r.toNatClampNeg t)) 9 (upd ((va_up I 8 (upd (I 8) r.toNatClampNeg t)) 9) r.toNatClampNeg g0)) 10) r.toNatClampNeg c)) L) 95) r.toNatClampNeg t)) 96) r.toNatClampNeg g0)) 97) r.toNatClampNeg c)) 97 = upd (I 97) r.toNatClampNeg c := by rw [va_e1, va_n1 (by decide), va_n1 (by decide), sp.1 97 (by decide), va_n1 (by decide), va_n1 (by decide), va_n1 (by decide)]
    have h11 : (va_up (va_up (va_up (sI_d_spoil 0 (va_up (va_up (va_up I 8 (upd (I 8) r.toNatClampNeg t)) 9 (upd ((va_up I 8 (upd (I 8) r.toNatClampNeg t)) 9) r.toNatClampNeg g0)) 10 (upd ((va_up (va_up I 8 (upd (I 8) r.toNatClampNeg t)) 9 (upd ((va_up I 8 (upd (I 8) r.toNatClampNeg t)) 9) r.toNatClampNeg g0)) 10) r.toNatClampNeg c)) L) 95 (upd ((sI_d_spoil 0 (va_up (va_up (va_up I 8 (upd (I 8) r.toNatClampNeg t)) 9 (upd ((va_up I 8 (upd (I 8) r.toNatClampNeg t)) 9) r.toNatClampNeg g0)) 10 (upd ((va_up (va_up I 8 (upd (I 8) r.toNatClampNeg t)) 9 (upd ((va_up I 8 (upd (I 8) r.toNatClampNeg t)) 9) r.toNatClampNeg g0)) 10) r.toNatClampNeg c)) L) 95) r.toNatClampNeg t)) 96 (upd ((va_up (sI_d_spoil 0 (va_up (va_up (va_up I 8 (upd (I 8) r.toNatClampNeg t)) 9 (upd ((va_up I 8 (upd (I 8) r.toNatClampNeg t)) 9) r.toNatClampNeg g0)) 10 (upd ((va_up (va_up I 8 (upd (I 8) r.toNatClampNeg t)) 9 (upd ((va_up I 8 (upd (I 8) r.toNatClampNeg t)) 9) r.toNatClampNeg g0)) 10) r.toNatClampNeg c)) L) 95 (upd ((sI_d_spoil 0 (va_up (va_up (va_up I 8 (upd (I 8) r.toNatClampNeg t)) 9 (upd ((va_up I 8 (upd (I 8) r.toNatClampNeg t)) 9) r.toNatClampNeg g0)) 10 (upd ((va_up (va_up I 8 (upd (I 8) r.toNatClampNeg t)) 9 (upd ((va_up I 8 (upd (I 8) r.toNatClampNeg t)) 9) r.toNatClampNeg g0)) 10) r.toNatClampNeg c)) L) 95) r.toNatClampNeg t)) 96) r.toNatClampNeg g0)) 97 (upd ((va_up (va_up (sI_d_spoil 0 (va_up (va_up (va_up I 8 (upd (I 8) r.toNatClampNeg t)) 9 (upd ((va_up I 8 (upd (I 8) r.toNatClampNeg t)) 9) r.toNatClampNeg g0)) 10 (upd ((va_up (va_up I 8 (upd (I 8) r.toNatClampNeg t)) 9 (upd ((va_up I 8 (upd (I 8) r.toNatClampNeg t)) 9) r.toNatClampNeg g0)) 10) r.toNatClampNeg c)) L) 95 (upd ((sI_d_spoil 0 (va_up (va_up (va_up I 8 (upd (I 8) r.toNatClampNeg t)) 9 (upd ((va_up I 8 (upd (I 8) r.toNatClampNeg t)) 9) r.toNatClampNeg g0)) 10 (upd ((va_up (va_up I 8 (upd (I 8) r.toNatClampNeg t)) 9 (upd ((va_up I 8 (upd (I 8) r.toNatClampNeg t)) 9) r.toNatClampNeg g0)) 10) r.toNatClampNeg c)) L) 95) r.toNatClampNeg t)) 96 (upd ((va_up (sI_d_spoil 0 (va_up (va_up (va_up I 8 (upd (I 8) r.toNatClampNeg t)) 9 (upd ((va_up I 8 (upd (I 8) r.toNatClampNeg t)) 9) r.toNatClampNeg g0)) 10 (upd ((va_up (va_up I 8 (upd (I 8) r.toNatClampNeg t)) 9 (upd ((va_up I 8 (upd (I 8) r.toNatClampNeg t)) 9) r.toNatClampNeg g0)) 10) r.toNatClampNeg c)) L) 95 (upd ((sI_d_spoil 0 (va_up (va_up (va_up I 8 (upd (I 8) r.toNatClampNeg t)) 9 (upd ((va_up I 8 (upd (I 8) r.toNatClampNeg t)) 9) r.toNatClampNeg g0)) 10 (upd ((va_up (va_up I 8 (upd (I 8) r.toNatClampNeg t)) 9 (upd ((va_up I 8 (upd (I 8) r.toNatClampNeg t)) 9) r.toNatClampNeg g0)) 10) r.toNatClampNeg c)) L) 95) r.toNatClampNeg t)) 96) r.toNatClampNeg g0)) 97) r.toNatClampNeg c)) 13 11 = nI (min R 0) := by rw [va_n1 (by decide), va_n1 (by decide), va_n1 (by decide)]; exact sp.2.2.1
    have h12 : (va_up (va_up (va_up (sI_d_spoil 0 (va_up (va_up (va_up I 8 (upd (I 8) r.toNatClampNeg t)) 9 (upd ((va_up I 8 (upd (I 8) r.toNatClampNeg t)) 9) r.toNatClampNeg g0)) 10 (upd ((va_up (va_up I 8 (upd (I 8) r.toNatClampNeg t)) 9 (upd ((va_up I 8 (upd (I 8) r.toNatClampNeg t)) 9) r.toNatClampNeg g0)) 10) r.toNatClampNeg c)) L) 95 (upd ((sI_d_spoil 0 (va_up (va_up (va_up I 8 (upd (I 8) r.toNatClampNeg t)) 9 (upd ((va_up I 8 (upd (I 8) r.toNatClampNeg t)) 9) r.toNatClampNeg g0)) 10 (upd ((va_up (va_up I 8 (upd (I 8) r.toNatClampNeg t)) 9 (upd ((va_up I 8 (upd (I 8) r.toNatClampNeg t)) 9) r.toNatClampNeg g0)) 10) r.toNatClampNeg c)) L) 95) r.toNatClampNeg t)) 96 (upd ((va_up (sI_d_spoil 0 (va_up (va_up (va_up I 8 (upd (I 8) r.toNatClampNeg t)) 9 (upd ((va_up I 8 (upd (I 8) r.toNatClampNeg t)) 9) r.toNatClampNeg g0)) 10 (upd ((va_up (va_up I 8 (upd (I 8) r.toNatClampNeg t)) 9 (upd ((va_up I 8 (upd (I 8) r.toNatClampNeg t)) 9) r.toNatClampNeg g0)) 10) r.toNatClampNeg c)) L) 95 (upd ((sI_d_spoil 0 (va_up (va_up (va_up I 8 (upd (I 8) r.toNatClampNeg t)) 9 (upd ((va_up I 8 (upd (I 8) r.toNatClampNeg t)) 9) r.toNatClampNeg g0)) 10 (upd ((va_up (va_up I 8 (upd (I 8) r.toNatClampNeg t)) 9 (upd ((va_up I 8 (upd (I 8) r.toNatClampNeg t)) 9) r.toNatClampNeg g0)) 10) r.toNatClampNeg c)) L) 95) r.toNatClampNeg t)) 96) r.toNatClampNeg g0)) 97 (upd ((va_up (va_up (sI_d_spoil 0 (va_up (va_up (va_up I 8 (upd (I 8) r.toNatClampNeg t)) 9 (upd ((va_up I 8 (upd (I 8) r.toNatClampNeg t)) 9) r.toNatClampNeg g0)) 10 (upd ((va_up (va_up I 8 (upd (I 8) r.toNatClampNeg t)) 9 (upd ((va_up I 8 (upd (I 8) r.toNatClampNeg t)) 9) r.toNatClampNeg g0)) 10) r.toNatClampNeg c)) L) 95 (upd ((sI_d_spoil 0 (va_up (va_up (va_up I 8 (upd (I 8) r.toNatClampNeg t)) 9 (upd ((va_up I 8 (upd (I 8) r.toNatClampNeg t)) 9) r.toNatClampNeg g0)) 10 (upd ((va_up (va_up I 8 (upd (I 8) r.toNatClampNeg t)) 9 (upd ((va_up I 8 (upd (I 8) r.toNatClampNeg t)) 9) r.toNatClampNeg g0)) 10) r.toNatClampNeg c)) L) 95) r.toNatClampNeg t)) 96 (upd ((va_up (sI_d_spoil 0 (va_up (va_up (va_up I 8 (upd (I 8) r.toNatClampNeg t)) 9 (upd ((va_up I 8 (upd (I 8) r.toNatClampNeg t)) 9) r.toNatClampNeg g0)) 10 (upd ((va_up (va_up I 8 (upd (I 8) r.toNatClampNeg t)) 9 (upd ((va_up I 8 (upd (I 8) r.toNatClampNeg t)) 9) r.toNatClampNeg g0)) 10) r.toNatClampNeg c)) L) 95 (upd ((sI_d_spoil 0 (va_up (va_up (va_up I 8 (upd (I 8) r.toNatClampNeg t)) 9 (upd ((va_up I 8 (upd (I 8) r.toNatClampNeg t)) 9) r.toNatClampNeg g0)) 10 (upd ((va_up (va_up I 8 (upd (I 8) r.toNatClampNeg t)) 9 (upd ((va_up I 8 (upd (I 8) r.toNatClampNeg t)) 9) r.toNatClampNeg g0)) 10) r.toNatClampNeg c)) L) 95) r.toNatClampNeg t)) 96) r.toNatClampNeg g0)) 97) r.toNatClampNeg c)) 13 12 = I 13 12 + 1 := by rw [va_n1 (by decide), va_n1 (by decide), va_n1 (by decide)]; exact sp.2.2.2
    generalize (va_up (va_up (va_up (sI_d_spoil 0 (va_up (va_up (va_up I 8 (upd (I 8) r.toNatClampNeg t)) 9 (upd ((va_up I 8 (upd (I 8) r.toNatClampNeg t)) 9) r.toNatClampNeg g0)) 10 (upd ((va_up (va_up I 8 (upd (I 8) r.toNatClampNeg t)) 9 (upd ((va_up I 8 (upd (I 8) r.toNatClampNeg t)) 9) r.toNatClampNeg g0)) 10) r.toNatClampNeg c)) L) 95 (upd ((sI_d_spoil 0 (va_up (va_up (va_up I 8 (upd (I 8) r.toNatClampNeg t)) 9 (upd ((va_up I 8 (upd (I 8) r.toNatClampNeg t)) 9) r.toNatClampNeg g0)) 10 (upd ((va_up (va_up I 8 (upd (I 8) r.toNatClampNeg t)) 9 (upd ((va_up I 8 (upd (I 8) r.toNatClampNeg t)) 9) r.toNatClampNeg g0)) 10) r.toNatClampNeg c)) L) 95) r.toNatClampNeg t)) 96 (upd ((va_up (sI_d_spoil 0 (va_up (va_up (va_up I 8 (upd (I 8) r.toNatClampNeg t)) 9 (upd ((va_up I 8 (upd (I 8) r.toNatClampNeg t)) 9) r.toNatClampNeg g0)) 10 (upd ((va_up (va_up I 8 (upd (I 8) r.toNatClampNeg t)) 9 (upd ((va_up I 8 (upd (I 8) r.toNatClampNeg t)) 9) r.toNatClampNeg g0)) 10) r.toNatClampNeg c)) L) 95 (upd ((sI_d_spoil 0 (va_up (va_up (va_up I 8 (upd (I 8) r.toNatClampNeg t)) 9 (upd ((va_up I 8 (upd (I 8) r.toNatClampNeg t)) 9) r.toNatClampNeg g0)) 10 (upd ((va_up (va_up I 8 (upd (I 8) r.toNatClampNeg t)) 9 (upd ((va_up I 8 (upd (I 8) r.toNatClampNeg t)) 9) r.toNatClampNeg g0)) 10) r.toNatClampNeg c)) L) 95) r.toNatClampNeg t)) 96) r.toNatClampNeg g0)) 97 (upd ((va_up (va_up (sI_d_spoil 0 (va_up (va_up (va_up I 8 (upd (I 8) r.toNatClampNeg t)) 9 (upd ((va_up I 8 (upd (I 8) r.toNatClampNeg t)) 9) r.toNatClampNeg g0)) 10 (upd ((va_up (va_up I 8 (upd (I 8) r.toNatClampNeg t)) 9 (upd ((va_up I 8 (upd (I 8) r.toNatClampNeg t)) 9) r.toNatClampNeg g0)) 10) r.toNatClampNeg c)) L) 95 (upd ((sI_d_spoil 0 (va_up (va_up (va_up I 8 (upd (I 8) r.toNatClampNeg t)) 9 (upd ((va_up I 8 (upd (I 8) r.toNatClampNeg t)) 9) r.toNatClampNeg g0)) 10 (upd ((va_up (va_up I 8 (upd (I 8) r.toNatClampNeg t)) 9 (upd ((va_up I 8 (upd (I 8) r.toNatClampNeg t)) 9) r.toNatClampNeg g0)) 10) r.toNatClampNeg c)) L) 95) r.toNatClampNeg t)) 96 (upd ((va_up (sI_d_spoil 0 (va_up (va_up (va_up I 8 (upd (I 8) r.toNatClampNeg t)) 9 (upd ((va_up I 8 (upd (I 8) r.toNatClampNeg t)) 9) r.toNatClampNeg g0)) 10 (upd ((va_up (va_up I 8 (upd (I 8) r.toNatClampNeg t)) 9 (upd ((va_up I 8 (upd (I 8) r.toNatClampNeg t)) 9) r.toNatClampNeg g0)) 10) r.toNatClampNeg c)) L) 95 (upd ((sI_d_spoil 0 (va_up (va_up (va_up I 8 (upd (I 8) r.toNatClampNeg t)) 9 (upd ((va_up I 8 (upd (I 8) r.toNatClampNeg t)) 9) r.toNatClampNeg g0)) 10 (upd ((va_up (va_up I 8 (upd (I 8) r.toNatClampNeg t)) 9 (upd ((va_up I 8 (upd (I 8) r.toNatClampNeg t)) 9) r.toNatClampNeg g0)) 10) r.toNatClampNeg c)) L) 95) r.toNatClampNeg t)) 96) r.toNatClampNeg g0)) 97) r.toNatClampNeg c)) = J at lo h8 h9 h10 h95 h96 h97 h11 h12 ⊢
    have tf := (show tFr I J from ⟨fun j hj => lo j (by omega), by rw [lo 80 (by decide)], by rw [lo 80 (by decide)]⟩)
    obtain ⟨t1, t2, t3, t4⟩ := g.1
    have gg : gInv n kk q J L C ah M := gInv_t g tf (by
      unfold wfT
      rw [h95, h96, h97, lo 94 (by decide), lo 98 (by decide), lo 99 (by decide), lo 100 (by decide)]
      exact ⟨t1, t2, fun r' hr' => ⟨upd_p (P := fun z => 0 ≤ z.toInt ∧ z.toInt ≤ 5000) r1 (t3 r' hr').1, upd_p (P := fun z => 0 ≤ z.toInt ∧ z.toInt ≤ 100) r2 (t3 r' hr').2.1, upd_p (P := fun z => -500 ≤ z.toInt ∧ z.toInt ≤ 500) r3 (t3 r' hr').2.2.1, (t3 r' hr').2.2.2⟩, t4⟩) (by
      obtain ⟨k1, k2, k3, k4, k5, k6⟩ := g.2.2.1.1
      unfold cTow
      rw [h8, h9, h10, h95, h96, h97, k2, k3, k4, lo 14 (by decide), lo 94 (by decide), lo 11 (by decide), lo 12 (by decide), lo 98 (by decide), lo 99 (by decide)]
      exact ⟨k1, rfl, rfl, rfl, k5, k6⟩) (by
      unfold cWet
      rw [lo 2 (by decide), lo 100 (by decide), lo 101 (by decide)]
      exact g.2.2.1.2.1) (cDay_t tf g.2.2.1.2.2.2.2 (A := 0) (by decide) (fun R' z1 z2 => by rw [h11, Nat.min_zero, Nat.min_zero]) (fun z => absurd rfl z) (fun d z => absurd z (by omega)))
    exact set_fin hr hn hsl (fun j hj => lo j (by omega)) (lo 57 (by decide)) (lo 58 (by decide)) (lo 81 (by decide)) (by rw [lo 80 (by decide)]) (by rw [lo 80 (by decide)]) (by rw [lo 80 (by decide)]) gg (by unfold tInv; rw [lo 3 (by decide), lo 5 (by decide), lo 6 (by decide), lo 101 (by decide), lo 102 (by decide), lo 103 (by decide)]; exact ht) (by unfold uInv; rw [lo 65 (by decide), lo 66 (by decide), lo 67 (by decide), lo 104 (by decide), lo 105 (by decide), lo 106 (by decide)]; exact hu) (by unfold sInv; rw [lo 71 (by decide), lo 72 (by decide), lo 73 (by decide), lo 75 (by decide), lo 80 (by decide), lo 121 (by decide), lo 122 (by decide), lo 124 (by decide)]; exact hs) (by unfold cInv; rw [lo 77 (by decide), lo 78 (by decide), lo 79 (by decide), lo 80 (by decide), lo 125 (by decide), lo 126 (by decide)]; exact hc) (jInv_s hj (by rw [lo 55 (by decide)]) h12 (lo 60 (by decide)))
set_option maxHeartbeats 4000000 in
theorem jx_stone {r w e : Int32} : jx 113 (am_ent 4 [.ref 0, .int r, .int w, .int e]) 185 (am_ent 4 [.ref 80, .int r, .int w, .int e]) := by
  rintro k h hk ⟨n, sl, kk, I, L, q, rfl, C, ah, M, tx, T, g, hr, ht, hu, hs, hc, hj, hn, hsl⟩
  have x0 : sp_isRing r = 0 ↔ ¬ (0 ≤ r.toInt ∧ r.toInt < 8) := ar_ring
  have m0 : sp_m_is r 0 7 = 0 ↔ ¬ (0 ≤ r.toInt ∧ r.toInt < 8) := ar_mring
  have x1 : sp_isWithin w.toInt64 (1) (100) = 0 ↔ ¬ (1 ≤ w.toInt ∧ w.toInt ≤ 100) := ar_wi2 (a := 1) (b := 100) rfl rfl ⟨by decide, by decide⟩ ⟨by decide, by decide⟩
  have m1 : sp_m_is w (1) (100) = 0 ↔ ¬ (1 ≤ w.toInt ∧ w.toInt ≤ 100) := ar_mi2 (a := 1) (b := 100) rfl rfl ⟨by decide, by decide⟩ ⟨by decide, by decide⟩
  have x2 : sp_isWithin e.toInt64 (0) (1000000) = 0 ↔ ¬ (0 ≤ e.toInt ∧ e.toInt ≤ 1000000) := ar_wi2 (a := 0) (b := 1000000) rfl rfl ⟨by decide, by decide⟩ ⟨by decide, by decide⟩
  have m2 : sp_m_is e (0) (1000000) = 0 ↔ ¬ (0 ≤ e.toInt ∧ e.toInt ≤ 1000000) := ar_mi2 (a := 0) (b := 1000000) rfl rfl ⟨by decide, by decide⟩ ⟨by decide, by decide⟩
  have same := h_same (q := q) hk g hr ht hu hs hc hj hn hsl
  by_cases h : sp_isRing r = 0 ∨ sp_isWithin w.toInt64 (1) (100) = 0 ∨ sp_isWithin e.toInt64 (0) (1000000) = 0
  · have h2 : sp_m_is r 0 7 = 0 ∨ sp_m_is w (1) (100) = 0 ∨ sp_m_is e (0) (1000000) = 0 := (fun h => h.elim (fun z => Or.inl ((fun z => m0.mpr (x0.mp z)) z)) (fun z => Or.inr ((fun h => h.elim (fun z => Or.inl ((fun z => m1.mpr (x1.mp z)) z)) (fun z => Or.inr ((fun z => m2.mpr (x2.mp z)) z))) z))) h
    have e1 := ev_x_stone (d := 0) (n := n) (sl := sl) (k := kk) (q := q) (I := I) (L := L) (r := r) (w := w) (e := e)
    have v1 : sp_x_stone r w e I L = 0 ∧ sI_x_stone r w e I L = I ∧ sL_x_stone r w e I L = L := by
      unfold sp_x_stone sI_x_stone sL_x_stone
      refine ⟨?_, ?_, ?_⟩ <;> (repeat' split) <;> first | rfl | (rcases h with h | h | h <;> contradiction)
    rw [v1.1, v1.2.1, v1.2.2] at e1
    have e2 := ev_m_stone (d := 0) (n := n) (sl := sl) (k := kk) (q := q) (I := I) (L := L) (r := r) (w := w) (e := e)
    have v2 : sp_m_stone r w e I L = 0 ∧ sI_m_stone r w e I L = I ∧ sL_m_stone r w e I L = L := by
      unfold sp_m_stone sI_m_stone sL_m_stone
      refine ⟨?_, ?_, ?_⟩ <;> (repeat' split) <;> first | rfl | (rcases h2 with h2 | h2 | h2 <;> contradiction)
    rw [v2.1, v2.2.1, v2.2.2] at e2
    exact jx_e (by decide) (by decide) e1 e2 same
  · have ⟨y0, y1, y2⟩ := (show ¬ sp_isRing r = 0 ∧ ¬ sp_isWithin w.toInt64 (1) (100) = 0 ∧ ¬ sp_isWithin e.toInt64 (0) (1000000) = 0 from ⟨fun z => h (Or.inl z), fun z => h (Or.inr (Or.inl z)), fun z => h (Or.inr (Or.inr (z)))⟩)
    have w0 : ¬ sp_m_is r 0 7 = 0 := fun z => y0 (x0.mpr (m0.mp z))
    have r0 : (0 ≤ r.toInt ∧ r.toInt < 8) := (nn_iff x0).mp y0
    have w1 : ¬ sp_m_is w (1) (100) = 0 := fun z => y1 (x1.mpr (m1.mp z))
    have r1 : (1 ≤ w.toInt ∧ w.toInt ≤ 100) := (nn_iff x1).mp y1
    have w2 : ¬ sp_m_is e (0) (1000000) = 0 := fun z => y2 (x2.mpr (m2.mp z))
    have r2 : (0 ≤ e.toInt ∧ e.toInt ≤ 1000000) := (nn_iff x2).mp y2
    have e1 := ev_x_stone (d := 0) (n := n) (sl := sl) (k := kk) (q := q) (I := I) (L := L) (r := r) (w := w) (e := e)
    have e2 := fun J0 => ev_m_stone (d := 0) (n := n) (sl := sl) (k := kk) (q := q) (I := J0) (L := L) (r := r) (w := w) (e := e)
    simp only [sp_x_stone, sI_x_stone, sL_x_stone, sI_st_hew, sL_st_hew, if_neg y0, if_neg y1, if_neg y2] at e1
    simp only [sp_m_stone, sI_m_stone, sL_m_stone, if_neg w0, if_neg w1, if_neg w2] at e2
    refine jx_e (d1 := 3) (d2 := 2) (by decide) (by decide) (ev_up (by decide) e1) (ev_up (by decide) (e2 _)) ?_
    have lo : ∀ j, (j ≠ 11 ∧ j ≠ 12 ∧ j ≠ 98 ∧ j ≠ 99) → (va_up (va_up (va_up (va_up I 11 (upd (I 11) r.toNatClampNeg w)) 12 (upd ((va_up I 11 (upd (I 11) r.toNatClampNeg w)) 12) r.toNatClampNeg e)) 98 (upd ((va_up (va_up I 11 (upd (I 11) r.toNatClampNeg w)) 12 (upd ((va_up I 11 (upd (I 11) r.toNatClampNeg w)) 12) r.toNatClampNeg e)) 98) r.toNatClampNeg w)) 99 (upd ((va_up (va_up (va_up I 11 (upd (I 11) r.toNatClampNeg w)) 12 (upd ((va_up I 11 (upd (I 11) r.toNatClampNeg w)) 12) r.toNatClampNeg e)) 98 (upd ((va_up (va_up I 11 (upd (I 11) r.toNatClampNeg w)) 12 (upd ((va_up I 11 (upd (I 11) r.toNatClampNeg w)) 12) r.toNatClampNeg e)) 98) r.toNatClampNeg w)) 99) r.toNatClampNeg e)) j = I j := fun j hj => by
      obtain ⟨j1, j2, j3, j4⟩ := hj
      rw [va_n1 j4, va_n1 j3, va_n1 j2, va_n1 j1]
    have h11 : (va_up (va_up (va_up (va_up I 11 (upd (I 11) r.toNatClampNeg w)) 12 (upd ((va_up I 11 (upd (I 11) r.toNatClampNeg w)) 12) r.toNatClampNeg e)) 98 (upd ((va_up (va_up I 11 (upd (I 11) r.toNatClampNeg w)) 12 (upd ((va_up I 11 (upd (I 11) r.toNatClampNeg w)) 12) r.toNatClampNeg e)) 98) r.toNatClampNeg w)) 99 (upd ((va_up (va_up (va_up I 11 (upd (I 11) r.toNatClampNeg w)) 12 (upd ((va_up I 11 (upd (I 11) r.toNatClampNeg w)) 12) r.toNatClampNeg e)) 98 (upd ((va_up (va_up I 11 (upd (I 11) r.toNatClampNeg w)) 12 (upd ((va_up I 11 (upd (I 11) r.toNatClampNeg w)) 12) r.toNatClampNeg e)) 98) r.toNatClampNeg w)) 99) r.toNatClampNeg e)) 11 = upd (I 11) r.toNatClampNeg w := by rw [va_n1 (by decide), va_n1 (by decide), va_n1 (by decide), va_e1]
    have h12 : (va_up (va_up (va_up (va_up I 11 (upd (I 11) r.toNatClampNeg w)) 12 (upd ((va_up I 11 (upd (I 11) r.toNatClampNeg w)) 12) r.toNatClampNeg e)) 98 (upd ((va_up (va_up I 11 (upd (I 11) r.toNatClampNeg w)) 12 (upd ((va_up I 11 (upd (I 11) r.toNatClampNeg w)) 12) r.toNatClampNeg e)) 98) r.toNatClampNeg w)) 99 (upd ((va_up (va_up (va_up I 11 (upd (I 11) r.toNatClampNeg w)) 12 (upd ((va_up I 11 (upd (I 11) r.toNatClampNeg w)) 12) r.toNatClampNeg e)) 98 (upd ((va_up (va_up I 11 (upd (I 11) r.toNatClampNeg w)) 12 (upd ((va_up I 11 (upd (I 11) r.toNatClampNeg w)) 12) r.toNatClampNeg e)) 98) r.toNatClampNeg w)) 99) r.toNatClampNeg e)) 12 = upd (I 12) r.toNatClampNeg e := by rw [va_n1 (by decide), va_n1 (by decide), va_e1, va_n1 (by decide)]
    have h98 : (va_up (va_up (va_up (va_up I 11 (upd (I 11) r.toNatClampNeg w)) 12 (upd ((va_up I 11 (upd (I 11) r.toNatClampNeg w)) 12) r.toNatClampNeg e)) 98 (upd ((va_up (va_up I 11 (upd (I 11) r.toNatClampNeg w)) 12 (upd ((va_up I 11 (upd (I 11) r.toNatClampNeg w)) 12) r.toNatClampNeg e)) 98) r.toNatClampNeg w)) 99 (upd ((va_up (va_up (va_up I 11 (upd (I 11) r.toNatClampNeg w)) 12 (upd ((va_up I 11 (upd (I 11) r.toNatClampNeg w)) 12) r.toNatClampNeg e)) 98 (upd ((va_up (va_up I 11 (upd (I 11) r.toNatClampNeg w)) 12 (upd ((va_up I 11 (upd (I 11) r.toNatClampNeg w)) 12) r.toNatClampNeg e)) 98) r.toNatClampNeg w)) 99) r.toNatClampNeg e)) 98 = upd (I 98) r.toNatClampNeg w := by rw [va_n1 (by decide), va_e1, va_n1 (by decide), va_n1 (by decide)]
    have h99 : (va_up (va_up (va_up (va_up I 11 (upd (I 11) r.toNatClampNeg w)) 12 (upd ((va_up I 11 (upd (I 11) r.toNatClampNeg w)) 12) r.toNatClampNeg e)) 98 (upd ((va_up (va_up I 11 (upd (I 11) r.toNatClampNeg w)) 12 (upd ((va_up I 11 (upd (I 11) r.toNatClampNeg w)) 12) r.toNatClampNeg e)) 98) r.toNatClampNeg w)) 99 (upd ((va_up (va_up (va_up I 11 (upd (I 11) r.toNatClampNeg w)) 12 (upd ((va_up I 11 (upd (I 11) r.toNatClampNeg w)) 12) r.toNatClampNeg e)) 98 (upd ((va_up (va_up I 11 (upd (I 11) r.toNatClampNeg w)) 12 (upd ((va_up I 11 (upd (I 11) r.toNatClampNeg w)) 12) r.toNatClampNeg e)) 98) r.toNatClampNeg w)) 99) r.toNatClampNeg e)) 99 = upd (I 99) r.toNatClampNeg e := by rw [va_e1, va_n1 (by decide), va_n1 (by decide), va_n1 (by decide)]
    generalize (va_up (va_up (va_up (va_up I 11 (upd (I 11) r.toNatClampNeg w)) 12 (upd ((va_up I 11 (upd (I 11) r.toNatClampNeg w)) 12) r.toNatClampNeg e)) 98 (upd ((va_up (va_up I 11 (upd (I 11) r.toNatClampNeg w)) 12 (upd ((va_up I 11 (upd (I 11) r.toNatClampNeg w)) 12) r.toNatClampNeg e)) 98) r.toNatClampNeg w)) 99 (upd ((va_up (va_up (va_up I 11 (upd (I 11) r.toNatClampNeg w)) 12 (upd ((va_up I 11 (upd (I 11) r.toNatClampNeg w)) 12) r.toNatClampNeg e)) 98 (upd ((va_up (va_up I 11 (upd (I 11) r.toNatClampNeg w)) 12 (upd ((va_up I 11 (upd (I 11) r.toNatClampNeg w)) 12) r.toNatClampNeg e)) 98) r.toNatClampNeg w)) 99) r.toNatClampNeg e)) = J at lo h11 h12 h98 h99 ⊢
    have tf := (show tFr I J from ⟨fun j hj => lo j (by omega), by rw [lo 80 (by decide)], by rw [lo 80 (by decide)]⟩)
    have h6 : rT6 I J := ⟨(lo 94 (by decide)).symm, (lo 95 (by decide)).symm, (lo 96 (by decide)).symm, (lo 97 (by decide)).symm⟩
    have hwz : ∀ d, watZ I d = watZ J d := fun d => by unfold watZ; rw [lo 100 (by decide), lo 101 (by decide)]
    obtain ⟨t1, t2, t3, t4⟩ := g.1
    have gg : gInv n kk q J L C ah M := gInv_t g tf (by
      unfold wfT
      rw [h98, h99, lo 94 (by decide), lo 95 (by decide), lo 96 (by decide), lo 97 (by decide), lo 100 (by decide)]
      exact ⟨t1, t2, fun r' hr' => ⟨(t3 r' hr').1, (t3 r' hr').2.1, (t3 r' hr').2.2.1, upd_p (P := fun z => 1 ≤ z.toInt ∧ z.toInt ≤ 100) r1 (t3 r' hr').2.2.2.1, upd_p (P := fun z => 0 ≤ z.toInt ∧ z.toInt ≤ 1000000) r2 (t3 r' hr').2.2.2.2⟩, t4⟩) (by
      obtain ⟨k1, k2, k3, k4, k5, k6⟩ := g.2.2.1.1
      unfold cTow
      rw [h11, h12, h98, h99, k5, k6, lo 14 (by decide), lo 94 (by decide), lo 8 (by decide), lo 9 (by decide), lo 10 (by decide), lo 95 (by decide), lo 96 (by decide), lo 97 (by decide)]
      exact ⟨k1, k2, k3, k4, rfl, rfl⟩) (by
      unfold cWet
      rw [lo 2 (by decide), lo 100 (by decide), lo 101 (by decide)]
      exact g.2.2.1.2.1) (cDay_t tf g.2.2.1.2.2.2.2 (A := 400) (by decide) (fun R z1 z2 => by rw [lo 13 (by decide), Nat.min_eq_left z2]; exact z1) (fun _ => h6) (fun d z => hwz d))
    exact set_fin hr hn hsl (fun j hj => lo j (by omega)) (lo 57 (by decide)) (lo 58 (by decide)) (lo 81 (by decide)) (by rw [lo 80 (by decide)]) (by rw [lo 80 (by decide)]) (by rw [lo 80 (by decide)]) gg (by unfold tInv; rw [lo 3 (by decide), lo 5 (by decide), lo 6 (by decide), lo 101 (by decide), lo 102 (by decide), lo 103 (by decide)]; exact ht) (by unfold uInv; rw [lo 65 (by decide), lo 66 (by decide), lo 67 (by decide), lo 104 (by decide), lo 105 (by decide), lo 106 (by decide)]; exact hu) (by unfold sInv; rw [lo 71 (by decide), lo 72 (by decide), lo 73 (by decide), lo 75 (by decide), lo 80 (by decide), lo 121 (by decide), lo 122 (by decide), lo 124 (by decide)]; exact hs) (by unfold cInv; rw [lo 77 (by decide), lo 78 (by decide), lo 79 (by decide), lo 80 (by decide), lo 125 (by decide), lo 126 (by decide)]; exact hc) (jInv_t (by omega) hj g.2.1 g.2.2.1.2.2.1.2.1 tf h6 (fun d _ => hwz d) (by rw [lo 13 (by decide)]) (lo 60 (by decide)) (lo 63 (by decide)))
set_option maxHeartbeats 4000000 in
theorem jx_gauge {g0 s r e : Int32} : jx 116 (am_ent 5 [.ref 0, .int g0, .int s, .int r, .int e]) 188 (am_ent 5 [.ref 80, .int g0, .int s, .int r, .int e]) := by
  rintro k h hk ⟨n, sl, kk, I, L, q, rfl, C, ah, M, tx, T, g, hr, ht, hu, hs, hc, hj, hn, hsl⟩
  have x0 : sp_isGauge g0 = 0 ↔ ¬ (0 ≤ g0.toInt ∧ g0.toInt < 4) := ar_gauge
  have m0 : sp_m_is g0 0 3 = 0 ↔ ¬ (0 ≤ g0.toInt ∧ g0.toInt < 4) := ar_mgauge
  have x1 : sp_isWithin s.toInt64 (-100) (100) = 0 ↔ ¬ (-100 ≤ s.toInt ∧ s.toInt ≤ 100) := ar_wi2 (a := -100) (b := 100) rfl rfl ⟨by decide, by decide⟩ ⟨by decide, by decide⟩
  have m1 : sp_m_is s (-100) (100) = 0 ↔ ¬ (-100 ≤ s.toInt ∧ s.toInt ≤ 100) := ar_mi2 (a := -100) (b := 100) rfl rfl ⟨by decide, by decide⟩ ⟨by decide, by decide⟩
  have x2 : sp_isWithin r.toInt64 (-1000) (1000) = 0 ↔ ¬ (-1000 ≤ r.toInt ∧ r.toInt ≤ 1000) := ar_wi2 (a := -1000) (b := 1000) rfl rfl ⟨by decide, by decide⟩ ⟨by decide, by decide⟩
  have m2 : sp_m_is r (-1000) (1000) = 0 ↔ ¬ (-1000 ≤ r.toInt ∧ r.toInt ≤ 1000) := ar_mi2 (a := -1000) (b := 1000) rfl rfl ⟨by decide, by decide⟩ ⟨by decide, by decide⟩
  have x3 : sp_isWithin e.toInt64 (0) (1000000) = 0 ↔ ¬ (0 ≤ e.toInt ∧ e.toInt ≤ 1000000) := ar_wi2 (a := 0) (b := 1000000) rfl rfl ⟨by decide, by decide⟩ ⟨by decide, by decide⟩
  have m3 : sp_m_is e (0) (1000000) = 0 ↔ ¬ (0 ≤ e.toInt ∧ e.toInt ≤ 1000000) := ar_mi2 (a := 0) (b := 1000000) rfl rfl ⟨by decide, by decide⟩ ⟨by decide, by decide⟩
  have same := h_same (q := q) hk g hr ht hu hs hc hj hn hsl
  by_cases h : sp_isGauge g0 = 0 ∨ sp_isWithin s.toInt64 (-100) (100) = 0 ∨ sp_isWithin r.toInt64 (-1000) (1000) = 0 ∨ sp_isWithin e.toInt64 (0) (1000000) = 0
  · have h2 : sp_m_is g0 0 3 = 0 ∨ sp_m_is s (-100) (100) = 0 ∨ sp_m_is r (-1000) (1000) = 0 ∨ sp_m_is e (0) (1000000) = 0 := (fun h => h.elim (fun z => Or.inl ((fun z => m0.mpr (x0.mp z)) z)) (fun z => Or.inr ((fun h => h.elim (fun z => Or.inl ((fun z => m1.mpr (x1.mp z)) z)) (fun z => Or.inr ((fun h => h.elim (fun z => Or.inl ((fun z => m2.mpr (x2.mp z)) z)) (fun z => Or.inr ((fun z => m3.mpr (x3.mp z)) z))) z))) z))) h
    have e1 := ev_x_gauge (d := 0) (n := n) (sl := sl) (k := kk) (q := q) (I := I) (L := L) (g := g0) (s := s) (r := r) (e := e)
    have v1 : sp_x_gauge g0 s r e I L = 0 ∧ sI_x_gauge g0 s r e I L = I ∧ sL_x_gauge g0 s r e I L = L := by
      unfold sp_x_gauge sI_x_gauge sL_x_gauge
      refine ⟨?_, ?_, ?_⟩ <;> (repeat' split) <;> first | rfl | (rcases h with h | h | h | h <;> contradiction)
    rw [v1.1, v1.2.1, v1.2.2] at e1
    have e2 := ev_m_gauge (d := 0) (n := n) (sl := sl) (k := kk) (q := q) (I := I) (L := L) (g := g0) (s := s) (r := r) (e := e)
    have v2 : sp_m_gauge g0 s r e I L = 0 ∧ sI_m_gauge g0 s r e I L = I ∧ sL_m_gauge g0 s r e I L = L := by
      unfold sp_m_gauge sI_m_gauge sL_m_gauge
      refine ⟨?_, ?_, ?_⟩ <;> (repeat' split) <;> first | rfl | (rcases h2 with h2 | h2 | h2 | h2 <;> contradiction)
    rw [v2.1, v2.2.1, v2.2.2] at e2
    exact jx_e (by decide) (by decide) e1 e2 same
  · have ⟨y0, y1, y2, y3⟩ := (show ¬ sp_isGauge g0 = 0 ∧ ¬ sp_isWithin s.toInt64 (-100) (100) = 0 ∧ ¬ sp_isWithin r.toInt64 (-1000) (1000) = 0 ∧ ¬ sp_isWithin e.toInt64 (0) (1000000) = 0 from ⟨fun z => h (Or.inl z), fun z => h (Or.inr (Or.inl z)), fun z => h (Or.inr (Or.inr (Or.inl z))), fun z => h (Or.inr (Or.inr (Or.inr (z))))⟩)
    have w0 : ¬ sp_m_is g0 0 3 = 0 := fun z => y0 (x0.mpr (m0.mp z))
    have r0 : (0 ≤ g0.toInt ∧ g0.toInt < 4) := (nn_iff x0).mp y0
    have w1 : ¬ sp_m_is s (-100) (100) = 0 := fun z => y1 (x1.mpr (m1.mp z))
    have r1 : (-100 ≤ s.toInt ∧ s.toInt ≤ 100) := (nn_iff x1).mp y1
    have w2 : ¬ sp_m_is r (-1000) (1000) = 0 := fun z => y2 (x2.mpr (m2.mp z))
    have r2 : (-1000 ≤ r.toInt ∧ r.toInt ≤ 1000) := (nn_iff x2).mp y2
    have w3 : ¬ sp_m_is e (0) (1000000) = 0 := fun z => y3 (x3.mpr (m3.mp z))
    have r3 : (0 ≤ e.toInt ∧ e.toInt ≤ 1000000) := (nn_iff x3).mp y3
    have e1 := ev_x_gauge (d := 0) (n := n) (sl := sl) (k := kk) (q := q) (I := I) (L := L) (g := g0) (s := s) (r := r) (e := e)
    have e2 := fun J0 => ev_m_gauge (d := 0) (n := n) (sl := sl) (k := kk) (q := q) (I := J0) (L := L) (g := g0) (s := s) (r := r) (e := e)
    simp only [sp_x_gauge, sI_x_gauge, sL_x_gauge, sI_g_set, sL_g_set, if_neg y0, if_neg y1, if_neg y2, if_neg y3] at e1
    simp only [sp_m_gauge, sI_m_gauge, sL_m_gauge, if_neg w0, if_neg w1, if_neg w2, if_neg w3] at e2
    refine jx_e (d1 := 3) (d2 := 2) (by decide) (by decide) (ev_up (by decide) e1) (ev_up (by decide) (e2 _)) ?_
    have lo : ∀ j, (j ≠ 65 ∧ j ≠ 66 ∧ j ≠ 67 ∧ j ≠ 104 ∧ j ≠ 105 ∧ j ≠ 106) → (va_up (va_up (va_up (va_up (va_up (va_up I 65 (upd (I 65) g0.toNatClampNeg s)) 66 (upd ((va_up I 65 (upd (I 65) g0.toNatClampNeg s)) 66) g0.toNatClampNeg r)) 67 (upd ((va_up (va_up I 65 (upd (I 65) g0.toNatClampNeg s)) 66 (upd ((va_up I 65 (upd (I 65) g0.toNatClampNeg s)) 66) g0.toNatClampNeg r)) 67) g0.toNatClampNeg e)) 104 (upd ((va_up (va_up (va_up I 65 (upd (I 65) g0.toNatClampNeg s)) 66 (upd ((va_up I 65 (upd (I 65) g0.toNatClampNeg s)) 66) g0.toNatClampNeg r)) 67 (upd ((va_up (va_up I 65 (upd (I 65) g0.toNatClampNeg s)) 66 (upd ((va_up I 65 (upd (I 65) g0.toNatClampNeg s)) 66) g0.toNatClampNeg r)) 67) g0.toNatClampNeg e)) 104) g0.toNatClampNeg s)) 105 (upd ((va_up (va_up (va_up (va_up I 65 (upd (I 65) g0.toNatClampNeg s)) 66 (upd ((va_up I 65 (upd (I 65) g0.toNatClampNeg s)) 66) g0.toNatClampNeg r)) 67 (upd ((va_up (va_up I 65 (upd (I 65) g0.toNatClampNeg s)) 66 (upd ((va_up I 65 (upd (I 65) g0.toNatClampNeg s)) 66) g0.toNatClampNeg r)) 67) g0.toNatClampNeg e)) 104 (upd ((va_up (va_up (va_up I 65 (upd (I 65) g0.toNatClampNeg s)) 66 (upd ((va_up I 65 (upd (I 65) g0.toNatClampNeg s)) 66) g0.toNatClampNeg r)) 67 (upd ((va_up (va_up I 65 (upd (I 65) g0.toNatClampNeg s)) 66 (upd ((va_up I 65 (upd (I 65) g0.toNatClampNeg s)) 66) g0.toNatClampNeg r)) 67) g0.toNatClampNeg e)) 104) g0.toNatClampNeg s)) 105) g0.toNatClampNeg r)) 106 (upd ((va_up (va_up (va_up (va_up (va_up I 65 (upd (I 65) g0.toNatClampNeg s)) 66 (upd ((va_up I 65 (upd (I 65) g0.toNatClampNeg s)) 66) g0.toNatClampNeg r)) 67 (upd ((va_up (va_up I 65 (upd (I 65) g0.toNatClampNeg s)) 66 (upd ((va_up I 65 (upd (I 65) g0.toNatClampNeg s)) 66) g0.toNatClampNeg r)) 67) g0.toNatClampNeg e)) 104 (upd ((va_up (va_up (va_up I 65 (upd (I 65) g0.toNatClampNeg s)) 66 (upd ((va_up I 65 (upd (I 65) g0.toNatClampNeg s)) 66) g0.toNatClampNeg r)) 67 (upd ((va_up (va_up I 65 (upd (I 65) g0.toNatClampNeg s)) 66 (upd ((va_up I 65 (upd (I 65) g0.toNatClampNeg s)) 66) g0.toNatClampNeg r)) 67) g0.toNatClampNeg e)) 104) g0.toNatClampNeg s)) 105 (upd ((va_up (va_up (va_up (va_up I 65 (upd (I 65) g0.toNatClampNeg s)) 66 (upd ((va_up I 65 (upd (I 65) g0.toNatClampNeg s)) 66) g0.toNatClampNeg r)) 67 (upd ((va_up (va_up I 65 (upd (I 65) g0.toNatClampNeg s)) 66 (upd ((va_up I 65 (upd (I 65) g0.toNatClampNeg s)) 66) g0.toNatClampNeg r)) 67) g0.toNatClampNeg e)) 104 (upd ((va_up (va_up (va_up I 65 (upd (I 65) g0.toNatClampNeg s)) 66 (upd ((va_up I 65 (upd (I 65) g0.toNatClampNeg s)) 66) g0.toNatClampNeg r)) 67 (upd ((va_up (va_up I 65 (upd (I 65) g0.toNatClampNeg s)) 66 (upd ((va_up I 65 (upd (I 65) g0.toNatClampNeg s)) 66) g0.toNatClampNeg r)) 67) g0.toNatClampNeg e)) 104) g0.toNatClampNeg s)) 105) g0.toNatClampNeg r)) 106) g0.toNatClampNeg e)) j = I j := fun j hj => by
      obtain ⟨j1, j2, j3, j4, j5, j6⟩ := hj
      rw [va_n1 j6, va_n1 j5, va_n1 j4, va_n1 j3, va_n1 j2, va_n1 j1]
    have h65 : (va_up (va_up (va_up (va_up (va_up (va_up I 65 (upd (I 65) g0.toNatClampNeg s)) 66 (upd ((va_up I 65 (upd (I 65) g0.toNatClampNeg s)) 66) g0.toNatClampNeg r)) 67 (upd ((va_up (va_up I 65 (upd (I 65) g0.toNatClampNeg s)) 66 (upd ((va_up I 65 (upd (I 65) g0.toNatClampNeg s)) 66) g0.toNatClampNeg r)) 67) g0.toNatClampNeg e)) 104 (upd ((va_up (va_up (va_up I 65 (upd (I 65) g0.toNatClampNeg s)) 66 (upd ((va_up I 65 (upd (I 65) g0.toNatClampNeg s)) 66) g0.toNatClampNeg r)) 67 (upd ((va_up (va_up I 65 (upd (I 65) g0.toNatClampNeg s)) 66 (upd ((va_up I 65 (upd (I 65) g0.toNatClampNeg s)) 66) g0.toNatClampNeg r)) 67) g0.toNatClampNeg e)) 104) g0.toNatClampNeg s)) 105 (upd ((va_up (va_up (va_up (va_up I 65 (upd (I 65) g0.toNatClampNeg s)) 66 (upd ((va_up I 65 (upd (I 65) g0.toNatClampNeg s)) 66) g0.toNatClampNeg r)) 67 (upd ((va_up (va_up I 65 (upd (I 65) g0.toNatClampNeg s)) 66 (upd ((va_up I 65 (upd (I 65) g0.toNatClampNeg s)) 66) g0.toNatClampNeg r)) 67) g0.toNatClampNeg e)) 104 (upd ((va_up (va_up (va_up I 65 (upd (I 65) g0.toNatClampNeg s)) 66 (upd ((va_up I 65 (upd (I 65) g0.toNatClampNeg s)) 66) g0.toNatClampNeg r)) 67 (upd ((va_up (va_up I 65 (upd (I 65) g0.toNatClampNeg s)) 66 (upd ((va_up I 65 (upd (I 65) g0.toNatClampNeg s)) 66) g0.toNatClampNeg r)) 67) g0.toNatClampNeg e)) 104) g0.toNatClampNeg s)) 105) g0.toNatClampNeg r)) 106 (upd ((va_up (va_up (va_up (va_up (va_up I 65 (upd (I 65) g0.toNatClampNeg s)) 66 (upd ((va_up I 65 (upd (I 65) g0.toNatClampNeg s)) 66) g0.toNatClampNeg r)) 67 (upd ((va_up (va_up I 65 (upd (I 65) g0.toNatClampNeg s)) 66 (upd ((va_up I 65 (upd (I 65) g0.toNatClampNeg s)) 66) g0.toNatClampNeg r)) 67) g0.toNatClampNeg e)) 104 (upd ((va_up (va_up (va_up I 65 (upd (I 65) g0.toNatClampNeg s)) 66 (upd ((va_up I 65 (upd (I 65) g0.toNatClampNeg s)) 66) g0.toNatClampNeg r)) 67 (upd ((va_up (va_up I 65 (upd (I 65) g0.toNatClampNeg s)) 66 (upd ((va_up I 65 (upd (I 65) g0.toNatClampNeg s)) 66) g0.toNatClampNeg r)) 67) g0.toNatClampNeg e)) 104) g0.toNatClampNeg s)) 105 (upd ((va_up (va_up (va_up (va_up I 65 (upd (I 65) g0.toNatClampNeg s)) 66 (upd ((va_up I 65 (upd (I 65) g0.toNatClampNeg s)) 66) g0.toNatClampNeg r)) 67 (upd ((va_up (va_up I 65 (upd (I 65) g0.toNatClampNeg s)) 66 (upd ((va_up I 65 (upd (I 65) g0.toNatClampNeg s)) 66) g0.toNatClampNeg r)) 67) g0.toNatClampNeg e)) 104 (upd ((va_up (va_up (va_up I 65 (upd (I 65) g0.toNatClampNeg s)) 66 (upd ((va_up I 65 (upd (I 65) g0.toNatClampNeg s)) 66) g0.toNatClampNeg r)) 67 (upd ((va_up (va_up I 65 (upd (I 65) g0.toNatClampNeg s)) 66 (upd ((va_up I 65 (upd (I 65) g0.toNatClampNeg s)) 66) g0.toNatClampNeg r)) 67) g0.toNatClampNeg e)) 104) g0.toNatClampNeg s)) 105) g0.toNatClampNeg r)) 106) g0.toNatClampNeg e)) 65 = upd (I 65) g0.toNatClampNeg s := by rw [va_n1 (by decide), va_n1 (by decide), va_n1 (by decide), va_n1 (by decide), va_n1 (by decide), va_e1]
    have h66 : (va_up (va_up (va_up (va_up (va_up (va_up I 65 (upd (I 65) g0.toNatClampNeg s)) 66 (upd ((va_up I 65 (upd (I 65) g0.toNatClampNeg s)) 66) g0.toNatClampNeg r)) 67 (upd ((va_up (va_up I 65 (upd (I 65) g0.toNatClampNeg s)) 66 (upd ((va_up I 65 (upd (I 65) g0.toNatClampNeg s)) 66) g0.toNatClampNeg r)) 67) g0.toNatClampNeg e)) 104 (upd ((va_up (va_up (va_up I 65 (upd (I 65) g0.toNatClampNeg s)) 66 (upd ((va_up I 65 (upd (I 65) g0.toNatClampNeg s)) 66) g0.toNatClampNeg r)) 67 (upd ((va_up (va_up I 65 (upd (I 65) g0.toNatClampNeg s)) 66 (upd ((va_up I 65 (upd (I 65) g0.toNatClampNeg s)) 66) g0.toNatClampNeg r)) 67) g0.toNatClampNeg e)) 104) g0.toNatClampNeg s)) 105 (upd ((va_up (va_up (va_up (va_up I 65 (upd (I 65) g0.toNatClampNeg s)) 66 (upd ((va_up I 65 (upd (I 65) g0.toNatClampNeg s)) 66) g0.toNatClampNeg r)) 67 (upd ((va_up (va_up I 65 (upd (I 65) g0.toNatClampNeg s)) 66 (upd ((va_up I 65 (upd (I 65) g0.toNatClampNeg s)) 66) g0.toNatClampNeg r)) 67) g0.toNatClampNeg e)) 104 (upd ((va_up (va_up (va_up I 65 (upd (I 65) g0.toNatClampNeg s)) 66 (upd ((va_up I 65 (upd (I 65) g0.toNatClampNeg s)) 66) g0.toNatClampNeg r)) 67 (upd ((va_up (va_up I 65 (upd (I 65) g0.toNatClampNeg s)) 66 (upd ((va_up I 65 (upd (I 65) g0.toNatClampNeg s)) 66) g0.toNatClampNeg r)) 67) g0.toNatClampNeg e)) 104) g0.toNatClampNeg s)) 105) g0.toNatClampNeg r)) 106 (upd ((va_up (va_up (va_up (va_up (va_up I 65 (upd (I 65) g0.toNatClampNeg s)) 66 (upd ((va_up I 65 (upd (I 65) g0.toNatClampNeg s)) 66) g0.toNatClampNeg r)) 67 (upd ((va_up (va_up I 65 (upd (I 65) g0.toNatClampNeg s)) 66 (upd ((va_up I 65 (upd (I 65) g0.toNatClampNeg s)) 66) g0.toNatClampNeg r)) 67) g0.toNatClampNeg e)) 104 (upd ((va_up (va_up (va_up I 65 (upd (I 65) g0.toNatClampNeg s)) 66 (upd ((va_up I 65 (upd (I 65) g0.toNatClampNeg s)) 66) g0.toNatClampNeg r)) 67 (upd ((va_up (va_up I 65 (upd (I 65) g0.toNatClampNeg s)) 66 (upd ((va_up I 65 (upd (I 65) g0.toNatClampNeg s)) 66) g0.toNatClampNeg r)) 67) g0.toNatClampNeg e)) 104) g0.toNatClampNeg s)) 105 (upd ((va_up (va_up (va_up (va_up I 65 (upd (I 65) g0.toNatClampNeg s)) 66 (upd ((va_up I 65 (upd (I 65) g0.toNatClampNeg s)) 66) g0.toNatClampNeg r)) 67 (upd ((va_up (va_up I 65 (upd (I 65) g0.toNatClampNeg s)) 66 (upd ((va_up I 65 (upd (I 65) g0.toNatClampNeg s)) 66) g0.toNatClampNeg r)) 67) g0.toNatClampNeg e)) 104 (upd ((va_up (va_up (va_up I 65 (upd (I 65) g0.toNatClampNeg s)) 66 (upd ((va_up I 65 (upd (I 65) g0.toNatClampNeg s)) 66) g0.toNatClampNeg r)) 67 (upd ((va_up (va_up I 65 (upd (I 65) g0.toNatClampNeg s)) 66 (upd ((va_up I 65 (upd (I 65) g0.toNatClampNeg s)) 66) g0.toNatClampNeg r)) 67) g0.toNatClampNeg e)) 104) g0.toNatClampNeg s)) 105) g0.toNatClampNeg r)) 106) g0.toNatClampNeg e)) 66 = upd (I 66) g0.toNatClampNeg r := by rw [va_n1 (by decide), va_n1 (by decide), va_n1 (by decide), va_n1 (by decide), va_e1, va_n1 (by decide)]
    have h67 : (va_up (va_up (va_up (va_up (va_up (va_up I 65 (upd (I 65) g0.toNatClampNeg s)) 66 (upd ((va_up I 65 (upd (I 65) g0.toNatClampNeg s)) 66) g0.toNatClampNeg r)) 67 (upd ((va_up (va_up I 65 (upd (I 65) g0.toNatClampNeg s)) 66 (upd ((va_up I 65 (upd (I 65) g0.toNatClampNeg s)) 66) g0.toNatClampNeg r)) 67) g0.toNatClampNeg e)) 104 (upd ((va_up (va_up (va_up I 65 (upd (I 65) g0.toNatClampNeg s)) 66 (upd ((va_up I 65 (upd (I 65) g0.toNatClampNeg s)) 66) g0.toNatClampNeg r)) 67 (upd ((va_up (va_up I 65 (upd (I 65) g0.toNatClampNeg s)) 66 (upd ((va_up I 65 (upd (I 65) g0.toNatClampNeg s)) 66) g0.toNatClampNeg r)) 67) g0.toNatClampNeg e)) 104) g0.toNatClampNeg s)) 105 (upd ((va_up (va_up (va_up (va_up I 65 (upd (I 65) g0.toNatClampNeg s)) 66 (upd ((va_up I 65 (upd (I 65) g0.toNatClampNeg s)) 66) g0.toNatClampNeg r)) 67 (upd ((va_up (va_up I 65 (upd (I 65) g0.toNatClampNeg s)) 66 (upd ((va_up I 65 (upd (I 65) g0.toNatClampNeg s)) 66) g0.toNatClampNeg r)) 67) g0.toNatClampNeg e)) 104 (upd ((va_up (va_up (va_up I 65 (upd (I 65) g0.toNatClampNeg s)) 66 (upd ((va_up I 65 (upd (I 65) g0.toNatClampNeg s)) 66) g0.toNatClampNeg r)) 67 (upd ((va_up (va_up I 65 (upd (I 65) g0.toNatClampNeg s)) 66 (upd ((va_up I 65 (upd (I 65) g0.toNatClampNeg s)) 66) g0.toNatClampNeg r)) 67) g0.toNatClampNeg e)) 104) g0.toNatClampNeg s)) 105) g0.toNatClampNeg r)) 106 (upd ((va_up (va_up (va_up (va_up (va_up I 65 (upd (I 65) g0.toNatClampNeg s)) 66 (upd ((va_up I 65 (upd (I 65) g0.toNatClampNeg s)) 66) g0.toNatClampNeg r)) 67 (upd ((va_up (va_up I 65 (upd (I 65) g0.toNatClampNeg s)) 66 (upd ((va_up I 65 (upd (I 65) g0.toNatClampNeg s)) 66) g0.toNatClampNeg r)) 67) g0.toNatClampNeg e)) 104 (upd ((va_up (va_up (va_up I 65 (upd (I 65) g0.toNatClampNeg s)) 66 (upd ((va_up I 65 (upd (I 65) g0.toNatClampNeg s)) 66) g0.toNatClampNeg r)) 67 (upd ((va_up (va_up I 65 (upd (I 65) g0.toNatClampNeg s)) 66 (upd ((va_up I 65 (upd (I 65) g0.toNatClampNeg s)) 66) g0.toNatClampNeg r)) 67) g0.toNatClampNeg e)) 104) g0.toNatClampNeg s)) 105 (upd ((va_up (va_up (va_up (va_up I 65 (upd (I 65) g0.toNatClampNeg s)) 66 (upd ((va_up I 65 (upd (I 65) g0.toNatClampNeg s)) 66) g0.toNatClampNeg r)) 67 (upd ((va_up (va_up I 65 (upd (I 65) g0.toNatClampNeg s)) 66 (upd ((va_up I 65 (upd (I 65) g0.toNatClampNeg s)) 66) g0.toNatClampNeg r)) 67) g0.toNatClampNeg e)) 104 (upd ((va_up (va_up (va_up I 65 (upd (I 65) g0.toNatClampNeg s)) 66 (upd ((va_up I 65 (upd (I 65) g0.toNatClampNeg s)) 66) g0.toNatClampNeg r)) 67 (upd ((va_up (va_up I 65 (upd (I 65) g0.toNatClampNeg s)) 66 (upd ((va_up I 65 (upd (I 65) g0.toNatClampNeg s)) 66) g0.toNatClampNeg r)) 67) g0.toNatClampNeg e)) 104) g0.toNatClampNeg s)) 105) g0.toNatClampNeg r)) 106) g0.toNatClampNeg e)) 67 = upd (I 67) g0.toNatClampNeg e := by rw [va_n1 (by decide), va_n1 (by decide), va_n1 (by decide), va_e1, va_n1 (by decide), va_n1 (by decide)]
    have h104 : (va_up (va_up (va_up (va_up (va_up (va_up I 65 (upd (I 65) g0.toNatClampNeg s)) 66 (upd ((va_up I 65 (upd (I 65) g0.toNatClampNeg s)) 66) g0.toNatClampNeg r)) 67 (upd ((va_up (va_up I 65 (upd (I 65) g0.toNatClampNeg s)) 66 (upd ((va_up I 65 (upd (I 65) g0.toNatClampNeg s)) 66) g0.toNatClampNeg r)) 67) g0.toNatClampNeg e)) 104 (upd ((va_up (va_up (va_up I 65 (upd (I 65) g0.toNatClampNeg s)) 66 (upd ((va_up I 65 (upd (I 65) g0.toNatClampNeg s)) 66) g0.toNatClampNeg r)) 67 (upd ((va_up (va_up I 65 (upd (I 65) g0.toNatClampNeg s)) 66 (upd ((va_up I 65 (upd (I 65) g0.toNatClampNeg s)) 66) g0.toNatClampNeg r)) 67) g0.toNatClampNeg e)) 104) g0.toNatClampNeg s)) 105 (upd ((va_up (va_up (va_up (va_up I 65 (upd (I 65) g0.toNatClampNeg s)) 66 (upd ((va_up I 65 (upd (I 65) g0.toNatClampNeg s)) 66) g0.toNatClampNeg r)) 67 (upd ((va_up (va_up I 65 (upd (I 65) g0.toNatClampNeg s)) 66 (upd ((va_up I 65 (upd (I 65) g0.toNatClampNeg s)) 66) g0.toNatClampNeg r)) 67) g0.toNatClampNeg e)) 104 (upd ((va_up (va_up (va_up I 65 (upd (I 65) g0.toNatClampNeg s)) 66 (upd ((va_up I 65 (upd (I 65) g0.toNatClampNeg s)) 66) g0.toNatClampNeg r)) 67 (upd ((va_up (va_up I 65 (upd (I 65) g0.toNatClampNeg s)) 66 (upd ((va_up I 65 (upd (I 65) g0.toNatClampNeg s)) 66) g0.toNatClampNeg r)) 67) g0.toNatClampNeg e)) 104) g0.toNatClampNeg s)) 105) g0.toNatClampNeg r)) 106 (upd ((va_up (va_up (va_up (va_up (va_up I 65 (upd (I 65) g0.toNatClampNeg s)) 66 (upd ((va_up I 65 (upd (I 65) g0.toNatClampNeg s)) 66) g0.toNatClampNeg r)) 67 (upd ((va_up (va_up I 65 (upd (I 65) g0.toNatClampNeg s)) 66 (upd ((va_up I 65 (upd (I 65) g0.toNatClampNeg s)) 66) g0.toNatClampNeg r)) 67) g0.toNatClampNeg e)) 104 (upd ((va_up (va_up (va_up I 65 (upd (I 65) g0.toNatClampNeg s)) 66 (upd ((va_up I 65 (upd (I 65) g0.toNatClampNeg s)) 66) g0.toNatClampNeg r)) 67 (upd ((va_up (va_up I 65 (upd (I 65) g0.toNatClampNeg s)) 66 (upd ((va_up I 65 (upd (I 65) g0.toNatClampNeg s)) 66) g0.toNatClampNeg r)) 67) g0.toNatClampNeg e)) 104) g0.toNatClampNeg s)) 105 (upd ((va_up (va_up (va_up (va_up I 65 (upd (I 65) g0.toNatClampNeg s)) 66 (upd ((va_up I 65 (upd (I 65) g0.toNatClampNeg s)) 66) g0.toNatClampNeg r)) 67 (upd ((va_up (va_up I 65 (upd (I 65) g0.toNatClampNeg s)) 66 (upd ((va_up I 65 (upd (I 65) g0.toNatClampNeg s)) 66) g0.toNatClampNeg r)) 67) g0.toNatClampNeg e)) 104 (upd ((va_up (va_up (va_up I 65 (upd (I 65) g0.toNatClampNeg s)) 66 (upd ((va_up I 65 (upd (I 65) g0.toNatClampNeg s)) 66) g0.toNatClampNeg r)) 67 (upd ((va_up (va_up I 65 (upd (I 65) g0.toNatClampNeg s)) 66 (upd ((va_up I 65 (upd (I 65) g0.toNatClampNeg s)) 66) g0.toNatClampNeg r)) 67) g0.toNatClampNeg e)) 104) g0.toNatClampNeg s)) 105) g0.toNatClampNeg r)) 106) g0.toNatClampNeg e)) 104 = upd (I 104) g0.toNatClampNeg s := by rw [va_n1 (by decide), va_n1 (by decide), va_e1, va_n1 (by decide), va_n1 (by decide), va_n1 (by decide)]
    have h105 : (va_up (va_up (va_up (va_up (va_up (va_up I 65 (upd (I 65) g0.toNatClampNeg s)) 66 (upd ((va_up I 65 (upd (I 65) g0.toNatClampNeg s)) 66) g0.toNatClampNeg r)) 67 (upd ((va_up (va_up I 65 (upd (I 65) g0.toNatClampNeg s)) 66 (upd ((va_up I 65 (upd (I 65) g0.toNatClampNeg s)) 66) g0.toNatClampNeg r)) 67) g0.toNatClampNeg e)) 104 (upd ((va_up (va_up (va_up I 65 (upd (I 65) g0.toNatClampNeg s)) 66 (upd ((va_up I 65 (upd (I 65) g0.toNatClampNeg s)) 66) g0.toNatClampNeg r)) 67 (upd ((va_up (va_up I 65 (upd (I 65) g0.toNatClampNeg s)) 66 (upd ((va_up I 65 (upd (I 65) g0.toNatClampNeg s)) 66) g0.toNatClampNeg r)) 67) g0.toNatClampNeg e)) 104) g0.toNatClampNeg s)) 105 (upd ((va_up (va_up (va_up (va_up I 65 (upd (I 65) g0.toNatClampNeg s)) 66 (upd ((va_up I 65 (upd (I 65) g0.toNatClampNeg s)) 66) g0.toNatClampNeg r)) 67 (upd ((va_up (va_up I 65 (upd (I 65) g0.toNatClampNeg s)) 66 (upd ((va_up I 65 (upd (I 65) g0.toNatClampNeg s)) 66) g0.toNatClampNeg r)) 67) g0.toNatClampNeg e)) 104 (upd ((va_up (va_up (va_up I 65 (upd (I 65) g0.toNatClampNeg s)) 66 (upd ((va_up I 65 (upd (I 65) g0.toNatClampNeg s)) 66) g0.toNatClampNeg r)) 67 (upd ((va_up (va_up I 65 (upd (I 65) g0.toNatClampNeg s)) 66 (upd ((va_up I 65 (upd (I 65) g0.toNatClampNeg s)) 66) g0.toNatClampNeg r)) 67) g0.toNatClampNeg e)) 104) g0.toNatClampNeg s)) 105) g0.toNatClampNeg r)) 106 (upd ((va_up (va_up (va_up (va_up (va_up I 65 (upd (I 65) g0.toNatClampNeg s)) 66 (upd ((va_up I 65 (upd (I 65) g0.toNatClampNeg s)) 66) g0.toNatClampNeg r)) 67 (upd ((va_up (va_up I 65 (upd (I 65) g0.toNatClampNeg s)) 66 (upd ((va_up I 65 (upd (I 65) g0.toNatClampNeg s)) 66) g0.toNatClampNeg r)) 67) g0.toNatClampNeg e)) 104 (upd ((va_up (va_up (va_up I 65 (upd (I 65) g0.toNatClampNeg s)) 66 (upd ((va_up I 65 (upd (I 65) g0.toNatClampNeg s)) 66) g0.toNatClampNeg r)) 67 (upd ((va_up (va_up I 65 (upd (I 65) g0.toNatClampNeg s)) 66 (upd ((va_up I 65 (upd (I 65) g0.toNatClampNeg s)) 66) g0.toNatClampNeg r)) 67) g0.toNatClampNeg e)) 104) g0.toNatClampNeg s)) 105 (upd ((va_up (va_up (va_up (va_up I 65 (upd (I 65) g0.toNatClampNeg s)) 66 (upd ((va_up I 65 (upd (I 65) g0.toNatClampNeg s)) 66) g0.toNatClampNeg r)) 67 (upd ((va_up (va_up I 65 (upd (I 65) g0.toNatClampNeg s)) 66 (upd ((va_up I 65 (upd (I 65) g0.toNatClampNeg s)) 66) g0.toNatClampNeg r)) 67) g0.toNatClampNeg e)) 104 (upd ((va_up (va_up (va_up I 65 (upd (I 65) g0.toNatClampNeg s)) 66 (upd ((va_up I 65 (upd (I 65) g0.toNatClampNeg s)) 66) g0.toNatClampNeg r)) 67 (upd ((va_up (va_up I 65 (upd (I 65) g0.toNatClampNeg s)) 66 (upd ((va_up I 65 (upd (I 65) g0.toNatClampNeg s)) 66) g0.toNatClampNeg r)) 67) g0.toNatClampNeg e)) 104) g0.toNatClampNeg s)) 105) g0.toNatClampNeg r)) 106) g0.toNatClampNeg e)) 105 = upd (I 105) g0.toNatClampNeg r := by rw [va_n1 (by decide), va_e1, va_n1 (by decide), va_n1 (by decide), va_n1 (by decide), va_n1 (by decide)]
    have h106 : (va_up (va_up (va_up (va_up (va_up (va_up I 65 (upd (I 65) g0.toNatClampNeg s)) 66 (upd ((va_up I 65 (upd (I 65) g0.toNatClampNeg s)) 66) g0.toNatClampNeg r)) 67 (upd ((va_up (va_up I 65 (upd (I 65) g0.toNatClampNeg s)) 66 (upd ((va_up I 65 (upd (I 65) g0.toNatClampNeg s)) 66) g0.toNatClampNeg r)) 67) g0.toNatClampNeg e)) 104 (upd ((va_up (va_up (va_up I 65 (upd (I 65) g0.toNatClampNeg s)) 66 (upd ((va_up I 65 (upd (I 65) g0.toNatClampNeg s)) 66) g0.toNatClampNeg r)) 67 (upd ((va_up (va_up I 65 (upd (I 65) g0.toNatClampNeg s)) 66 (upd ((va_up I 65 (upd (I 65) g0.toNatClampNeg s)) 66) g0.toNatClampNeg r)) 67) g0.toNatClampNeg e)) 104) g0.toNatClampNeg s)) 105 (upd ((va_up (va_up (va_up (va_up I 65 (upd (I 65) g0.toNatClampNeg s)) 66 (upd ((va_up I 65 (upd (I 65) g0.toNatClampNeg s)) 66) g0.toNatClampNeg r)) 67 (upd ((va_up (va_up I 65 (upd (I 65) g0.toNatClampNeg s)) 66 (upd ((va_up I 65 (upd (I 65) g0.toNatClampNeg s)) 66) g0.toNatClampNeg r)) 67) g0.toNatClampNeg e)) 104 (upd ((va_up (va_up (va_up I 65 (upd (I 65) g0.toNatClampNeg s)) 66 (upd ((va_up I 65 (upd (I 65) g0.toNatClampNeg s)) 66) g0.toNatClampNeg r)) 67 (upd ((va_up (va_up I 65 (upd (I 65) g0.toNatClampNeg s)) 66 (upd ((va_up I 65 (upd (I 65) g0.toNatClampNeg s)) 66) g0.toNatClampNeg r)) 67) g0.toNatClampNeg e)) 104) g0.toNatClampNeg s)) 105) g0.toNatClampNeg r)) 106 (upd ((va_up (va_up (va_up (va_up (va_up I 65 (upd (I 65) g0.toNatClampNeg s)) 66 (upd ((va_up I 65 (upd (I 65) g0.toNatClampNeg s)) 66) g0.toNatClampNeg r)) 67 (upd ((va_up (va_up I 65 (upd (I 65) g0.toNatClampNeg s)) 66 (upd ((va_up I 65 (upd (I 65) g0.toNatClampNeg s)) 66) g0.toNatClampNeg r)) 67) g0.toNatClampNeg e)) 104 (upd ((va_up (va_up (va_up I 65 (upd (I 65) g0.toNatClampNeg s)) 66 (upd ((va_up I 65 (upd (I 65) g0.toNatClampNeg s)) 66) g0.toNatClampNeg r)) 67 (upd ((va_up (va_up I 65 (upd (I 65) g0.toNatClampNeg s)) 66 (upd ((va_up I 65 (upd (I 65) g0.toNatClampNeg s)) 66) g0.toNatClampNeg r)) 67) g0.toNatClampNeg e)) 104) g0.toNatClampNeg s)) 105 (upd ((va_up (va_up (va_up (va_up I 65 (upd (I 65) g0.toNatClampNeg s)) 66 (upd ((va_up I 65 (upd (I 65) g0.toNatClampNeg s)) 66) g0.toNatClampNeg r)) 67 (upd ((va_up (va_up I 65 (upd (I 65) g0.toNatClampNeg s)) 66 (upd ((va_up I 65 (upd (I 65) g0.toNatClampNeg s)) 66) g0.toNatClampNeg r)) 67) g0.toNatClampNeg e)) 104 (upd ((va_up (va_up (va_up I 65 (upd (I 65) g0.toNatClampNeg s)) 66 (upd ((va_up I 65 (upd (I 65) g0.toNatClampNeg s)) 66) g0.toNatClampNeg r)) 67 (upd ((va_up (va_up I 65 (upd (I 65) g0.toNatClampNeg s)) 66 (upd ((va_up I 65 (upd (I 65) g0.toNatClampNeg s)) 66) g0.toNatClampNeg r)) 67) g0.toNatClampNeg e)) 104) g0.toNatClampNeg s)) 105) g0.toNatClampNeg r)) 106) g0.toNatClampNeg e)) 106 = upd (I 106) g0.toNatClampNeg e := by rw [va_e1, va_n1 (by decide), va_n1 (by decide), va_n1 (by decide), va_n1 (by decide), va_n1 (by decide)]
    generalize (va_up (va_up (va_up (va_up (va_up (va_up I 65 (upd (I 65) g0.toNatClampNeg s)) 66 (upd ((va_up I 65 (upd (I 65) g0.toNatClampNeg s)) 66) g0.toNatClampNeg r)) 67 (upd ((va_up (va_up I 65 (upd (I 65) g0.toNatClampNeg s)) 66 (upd ((va_up I 65 (upd (I 65) g0.toNatClampNeg s)) 66) g0.toNatClampNeg r)) 67) g0.toNatClampNeg e)) 104 (upd ((va_up (va_up (va_up I 65 (upd (I 65) g0.toNatClampNeg s)) 66 (upd ((va_up I 65 (upd (I 65) g0.toNatClampNeg s)) 66) g0.toNatClampNeg r)) 67 (upd ((va_up (va_up I 65 (upd (I 65) g0.toNatClampNeg s)) 66 (upd ((va_up I 65 (upd (I 65) g0.toNatClampNeg s)) 66) g0.toNatClampNeg r)) 67) g0.toNatClampNeg e)) 104) g0.toNatClampNeg s)) 105 (upd ((va_up (va_up (va_up (va_up I 65 (upd (I 65) g0.toNatClampNeg s)) 66 (upd ((va_up I 65 (upd (I 65) g0.toNatClampNeg s)) 66) g0.toNatClampNeg r)) 67 (upd ((va_up (va_up I 65 (upd (I 65) g0.toNatClampNeg s)) 66 (upd ((va_up I 65 (upd (I 65) g0.toNatClampNeg s)) 66) g0.toNatClampNeg r)) 67) g0.toNatClampNeg e)) 104 (upd ((va_up (va_up (va_up I 65 (upd (I 65) g0.toNatClampNeg s)) 66 (upd ((va_up I 65 (upd (I 65) g0.toNatClampNeg s)) 66) g0.toNatClampNeg r)) 67 (upd ((va_up (va_up I 65 (upd (I 65) g0.toNatClampNeg s)) 66 (upd ((va_up I 65 (upd (I 65) g0.toNatClampNeg s)) 66) g0.toNatClampNeg r)) 67) g0.toNatClampNeg e)) 104) g0.toNatClampNeg s)) 105) g0.toNatClampNeg r)) 106 (upd ((va_up (va_up (va_up (va_up (va_up I 65 (upd (I 65) g0.toNatClampNeg s)) 66 (upd ((va_up I 65 (upd (I 65) g0.toNatClampNeg s)) 66) g0.toNatClampNeg r)) 67 (upd ((va_up (va_up I 65 (upd (I 65) g0.toNatClampNeg s)) 66 (upd ((va_up I 65 (upd (I 65) g0.toNatClampNeg s)) 66) g0.toNatClampNeg r)) 67) g0.toNatClampNeg e)) 104 (upd ((va_up (va_up (va_up I 65 (upd (I 65) g0.toNatClampNeg s)) 66 (upd ((va_up I 65 (upd (I 65) g0.toNatClampNeg s)) 66) g0.toNatClampNeg r)) 67 (upd ((va_up (va_up I 65 (upd (I 65) g0.toNatClampNeg s)) 66 (upd ((va_up I 65 (upd (I 65) g0.toNatClampNeg s)) 66) g0.toNatClampNeg r)) 67) g0.toNatClampNeg e)) 104) g0.toNatClampNeg s)) 105 (upd ((va_up (va_up (va_up (va_up I 65 (upd (I 65) g0.toNatClampNeg s)) 66 (upd ((va_up I 65 (upd (I 65) g0.toNatClampNeg s)) 66) g0.toNatClampNeg r)) 67 (upd ((va_up (va_up I 65 (upd (I 65) g0.toNatClampNeg s)) 66 (upd ((va_up I 65 (upd (I 65) g0.toNatClampNeg s)) 66) g0.toNatClampNeg r)) 67) g0.toNatClampNeg e)) 104 (upd ((va_up (va_up (va_up I 65 (upd (I 65) g0.toNatClampNeg s)) 66 (upd ((va_up I 65 (upd (I 65) g0.toNatClampNeg s)) 66) g0.toNatClampNeg r)) 67 (upd ((va_up (va_up I 65 (upd (I 65) g0.toNatClampNeg s)) 66 (upd ((va_up I 65 (upd (I 65) g0.toNatClampNeg s)) 66) g0.toNatClampNeg r)) 67) g0.toNatClampNeg e)) 104) g0.toNatClampNeg s)) 105) g0.toNatClampNeg r)) 106) g0.toNatClampNeg e)) = J at lo h65 h66 h67 h104 h105 h106 ⊢
    have tf := (show tFr I J from ⟨fun j hj => lo j (by omega), by rw [lo 80 (by decide)], by rw [lo 80 (by decide)]⟩)
    have h6 : rT6 I J := ⟨(lo 94 (by decide)).symm, (lo 95 (by decide)).symm, (lo 96 (by decide)).symm, (lo 97 (by decide)).symm⟩
    have hwz : ∀ d, watZ I d = watZ J d := fun d => by unfold watZ; rw [lo 100 (by decide), lo 101 (by decide)]
    have gg : gInv n kk q J L C ah M := gInv_t g tf (by
      unfold wfT
      rw [lo 94 (by decide), lo 95 (by decide), lo 96 (by decide), lo 97 (by decide), lo 98 (by decide), lo 99 (by decide), lo 100 (by decide)]
      exact g.1) (by
      unfold cTow
      rw [lo 8 (by decide), lo 9 (by decide), lo 10 (by decide), lo 11 (by decide), lo 12 (by decide), lo 14 (by decide), lo 94 (by decide), lo 95 (by decide), lo 96 (by decide), lo 97 (by decide), lo 98 (by decide), lo 99 (by decide)]
      exact g.2.2.1.1) (by
      unfold cWet
      rw [lo 2 (by decide), lo 100 (by decide), lo 101 (by decide)]
      exact g.2.2.1.2.1) (cDay_t tf g.2.2.1.2.2.2.2 (A := 400) (by decide) (fun R z1 z2 => by rw [lo 13 (by decide), Nat.min_eq_left z2]; exact z1) (fun _ => h6) (fun d z => hwz d))
    exact set_fin hr hn hsl (fun j hj => lo j (by omega)) (lo 57 (by decide)) (lo 58 (by decide)) (lo 81 (by decide)) (by rw [lo 80 (by decide)]) (by rw [lo 80 (by decide)]) (by rw [lo 80 (by decide)]) gg (by unfold tInv; rw [lo 3 (by decide), lo 5 (by decide), lo 6 (by decide), lo 101 (by decide), lo 102 (by decide), lo 103 (by decide)]; exact ht) (fun i hi => by
      obtain ⟨⟨k1, k2, k3⟩, k4, k5, k6⟩ := hu i hi
      rw [h65, h66, h67, h104, h105, h106]
      refine ⟨⟨?_, ?_, ?_⟩, upd_p (P := fun z => -100 ≤ z.toInt ∧ z.toInt ≤ 100) r1 k4, upd_p (P := fun z => -1000 ≤ z.toInt ∧ z.toInt ≤ 1000) r2 k5, upd_p (P := fun z => 0 ≤ z.toInt ∧ z.toInt ≤ 1000000) r3 k6⟩
      · unfold upd; rw [k1]
      · unfold upd; rw [k2]
      · unfold upd; rw [k3]) (by unfold sInv; rw [lo 71 (by decide), lo 72 (by decide), lo 73 (by decide), lo 75 (by decide), lo 80 (by decide), lo 121 (by decide), lo 122 (by decide), lo 124 (by decide)]; exact hs) (by unfold cInv; rw [lo 77 (by decide), lo 78 (by decide), lo 79 (by decide), lo 80 (by decide), lo 125 (by decide), lo 126 (by decide)]; exact hc) (jInv_t (by omega) hj g.2.1 g.2.2.1.2.2.1.2.1 tf h6 (fun d _ => hwz d) (by rw [lo 13 (by decide)]) (lo 60 (by decide)) (lo 63 (by decide)))
set_option maxHeartbeats 4000000 in
theorem jx_spoon {r c e : Int32} : jx 136 (am_ent 4 [.ref 0, .int r, .int c, .int e]) 231 (am_ent 4 [.ref 80, .int r, .int c, .int e]) := by
  rintro k h hk ⟨n, sl, kk, I, L, q, rfl, C, ah, M, tx, T, g, hr, ht, hu, hs, hc, hj, hn, hsl⟩
  have x0 : sp_isWithin r.toInt64 (0) (2) = 0 ↔ ¬ (0 ≤ r.toInt ∧ r.toInt ≤ 2) := ar_wi2 (a := 0) (b := 2) rfl rfl ⟨by decide, by decide⟩ ⟨by decide, by decide⟩
  have m0 : sp_m_is r (0) (2) = 0 ↔ ¬ (0 ≤ r.toInt ∧ r.toInt ≤ 2) := ar_mi2 (a := 0) (b := 2) rfl rfl ⟨by decide, by decide⟩ ⟨by decide, by decide⟩
  have x1 : sp_isColumn c = 0 ↔ ¬ (0 ≤ c.toInt ∧ c.toInt < 16) := ar_col
  have m1 : sp_m_isColumn c = 0 ↔ ¬ (0 ≤ c.toInt ∧ c.toInt < 16) := ar_mcol
  have x2 : sp_isWithin e.toInt64 (0) (1000) = 0 ↔ ¬ (0 ≤ e.toInt ∧ e.toInt ≤ 1000) := ar_wi2 (a := 0) (b := 1000) rfl rfl ⟨by decide, by decide⟩ ⟨by decide, by decide⟩
  have m2 : sp_m_is e (0) (1000) = 0 ↔ ¬ (0 ≤ e.toInt ∧ e.toInt ≤ 1000) := ar_mi2 (a := 0) (b := 1000) rfl rfl ⟨by decide, by decide⟩ ⟨by decide, by decide⟩
  have same := h_same (q := q) hk g hr ht hu hs hc hj hn hsl
  by_cases h : sp_isWithin r.toInt64 (0) (2) = 0 ∨ sp_isColumn c = 0 ∨ sp_isWithin e.toInt64 (0) (1000) = 0
  · have h2 : sp_m_is r (0) (2) = 0 ∨ sp_m_isColumn c = 0 ∨ sp_m_is e (0) (1000) = 0 := (fun h => h.elim (fun z => Or.inl ((fun z => m0.mpr (x0.mp z)) z)) (fun z => Or.inr ((fun h => h.elim (fun z => Or.inl ((fun z => m1.mpr (x1.mp z)) z)) (fun z => Or.inr ((fun z => m2.mpr (x2.mp z)) z))) z))) h
    have e1 := ev_x_spoon (d := 0) (n := n) (sl := sl) (k := kk) (q := q) (I := I) (L := L) (r := r) (c := c) (e := e)
    have v1 : sp_x_spoon r c e I L = 0 ∧ sI_x_spoon r c e I L = I ∧ sL_x_spoon r c e I L = L := by
      unfold sp_x_spoon sI_x_spoon sL_x_spoon
      refine ⟨?_, ?_, ?_⟩ <;> (repeat' split) <;> first | rfl | (rcases h with h | h | h <;> contradiction)
    rw [v1.1, v1.2.1, v1.2.2] at e1
    have e2 := ev_m_spoon (d := 0) (n := n) (sl := sl) (k := kk) (q := q) (I := I) (L := L) (r := r) (c := c) (e := e)
    have v2 : sp_m_spoon r c e I L = 0 ∧ sI_m_spoon r c e I L = I ∧ sL_m_spoon r c e I L = L := by
      unfold sp_m_spoon sI_m_spoon sL_m_spoon
      refine ⟨?_, ?_, ?_⟩ <;> (repeat' split) <;> first | rfl | (rcases h2 with h2 | h2 | h2 <;> contradiction)
    rw [v2.1, v2.2.1, v2.2.2] at e2
    exact jx_e (by decide) (by decide) e1 e2 same
  · have ⟨y0, y1, y2⟩ := (show ¬ sp_isWithin r.toInt64 (0) (2) = 0 ∧ ¬ sp_isColumn c = 0 ∧ ¬ sp_isWithin e.toInt64 (0) (1000) = 0 from ⟨fun z => h (Or.inl z), fun z => h (Or.inr (Or.inl z)), fun z => h (Or.inr (Or.inr (z)))⟩)
    have w0 : ¬ sp_m_is r (0) (2) = 0 := fun z => y0 (x0.mpr (m0.mp z))
    have r0 : (0 ≤ r.toInt ∧ r.toInt ≤ 2) := (nn_iff x0).mp y0
    have w1 : ¬ sp_m_isColumn c = 0 := fun z => y1 (x1.mpr (m1.mp z))
    have r1 : (0 ≤ c.toInt ∧ c.toInt < 16) := (nn_iff x1).mp y1
    have w2 : ¬ sp_m_is e (0) (1000) = 0 := fun z => y2 (x2.mpr (m2.mp z))
    have r2 : (0 ≤ e.toInt ∧ e.toInt ≤ 1000) := (nn_iff x2).mp y2
    have z0 : ¬ r < 0 := fun z => absurd (Int32.lt_iff_toInt_lt.mp z) (by show ¬ r.toInt < 0; omega)
    have z3 : ¬ (3 : Int32) ≤ r := fun z => absurd (Int32.le_iff_toInt_le.mp z) (by show ¬ (3 : Int) ≤ r.toInt; omega)
    have e1 := ev_x_spoon (d := 0) (n := n) (sl := sl) (k := kk) (q := q) (I := I) (L := L) (r := r) (c := c) (e := e)
    have e2 := fun J0 => ev_m_spoon (d := 0) (n := n) (sl := sl) (k := kk) (q := q) (I := J0) (L := L) (r := r) (c := c) (e := e)
    simp only [sp_x_spoon, sI_x_spoon, sL_x_spoon, sI_s_tell, sL_s_tell, if_neg y0, if_neg y1, if_neg y2, if_neg z0, if_neg z3] at e1
    simp only [sp_m_spoon, sI_m_spoon, sL_m_spoon, if_neg w0, if_neg w1, if_neg w2] at e2
    refine jx_e (d1 := 3) (d2 := 2) (by decide) (by decide) (ev_up (by decide) e1) (ev_up (by decide) (e2 _)) ?_
    have lo : ∀ j, (j ≠ 72 ∧ j ≠ 73 ∧ j ≠ 121 ∧ j ≠ 122) → (va_up (va_up (va_up (va_up I 72 (upd (I 72) r.toNatClampNeg c)) 73 (upd ((va_up I 72 (upd (I 72) r.toNatClampNeg c)) 73) r.toNatClampNeg e)) 121 (upd ((va_up (va_up I 72 (upd (I 72) r.toNatClampNeg c)) 73 (upd ((va_up I 72 (upd (I 72) r.toNatClampNeg c)) 73) r.toNatClampNeg e)) 121) r.toNatClampNeg c)) 122 (upd ((va_up (va_up (va_up I 72 (upd (I 72) r.toNatClampNeg c)) 73 (upd ((va_up I 72 (upd (I 72) r.toNatClampNeg c)) 73) r.toNatClampNeg e)) 121 (upd ((va_up (va_up I 72 (upd (I 72) r.toNatClampNeg c)) 73 (upd ((va_up I 72 (upd (I 72) r.toNatClampNeg c)) 73) r.toNatClampNeg e)) 121) r.toNatClampNeg c)) 122) r.toNatClampNeg e)) j = I j := fun j hj => by
      obtain ⟨j1, j2, j3, j4⟩ := hj
      rw [va_n1 j4, va_n1 j3, va_n1 j2, va_n1 j1]
    have h72 : (va_up (va_up (va_up (va_up I 72 (upd (I 72) r.toNatClampNeg c)) 73 (upd ((va_up I 72 (upd (I 72) r.toNatClampNeg c)) 73) r.toNatClampNeg e)) 121 (upd ((va_up (va_up I 72 (upd (I 72) r.toNatClampNeg c)) 73 (upd ((va_up I 72 (upd (I 72) r.toNatClampNeg c)) 73) r.toNatClampNeg e)) 121) r.toNatClampNeg c)) 122 (upd ((va_up (va_up (va_up I 72 (upd (I 72) r.toNatClampNeg c)) 73 (upd ((va_up I 72 (upd (I 72) r.toNatClampNeg c)) 73) r.toNatClampNeg e)) 121 (upd ((va_up (va_up I 72 (upd (I 72) r.toNatClampNeg c)) 73 (upd ((va_up I 72 (upd (I 72) r.toNatClampNeg c)) 73) r.toNatClampNeg e)) 121) r.toNatClampNeg c)) 122) r.toNatClampNeg e)) 72 = upd (I 72) r.toNatClampNeg c := by rw [va_n1 (by decide), va_n1 (by decide), va_n1 (by decide), va_e1]
    have h73 : (va_up (va_up (va_up (va_up I 72 (upd (I 72) r.toNatClampNeg c)) 73 (upd ((va_up I 72 (upd (I 72) r.toNatClampNeg c)) 73) r.toNatClampNeg e)) 121 (upd ((va_up (va_up I 72 (upd (I 72) r.toNatClampNeg c)) 73 (upd ((va_up I 72 (upd (I 72) r.toNatClampNeg c)) 73) r.toNatClampNeg e)) 121) r.toNatClampNeg c)) 122 (upd ((va_up (va_up (va_up I 72 (upd (I 72) r.toNatClampNeg c)) 73 (upd ((va_up I 72 (upd (I 72) r.toNatClampNeg c)) 73) r.toNatClampNeg e)) 121 (upd ((va_up (va_up I 72 (upd (I 72) r.toNatClampNeg c)) 73 (upd ((va_up I 72 (upd (I 72) r.toNatClampNeg c)) 73) r.toNatClampNeg e)) 121) r.toNatClampNeg c)) 122) r.toNatClampNeg e)) 73 = upd (I 73) r.toNatClampNeg e := by rw [va_n1 (by decide), va_n1 (by decide), va_e1, va_n1 (by decide)]
    have h121 : (va_up (va_up (va_up (va_up I 72 (upd (I 72) r.toNatClampNeg c)) 73 (upd ((va_up I 72 (upd (I 72) r.toNatClampNeg c)) 73) r.toNatClampNeg e)) 121 (upd ((va_up (va_up I 72 (upd (I 72) r.toNatClampNeg c)) 73 (upd ((va_up I 72 (upd (I 72) r.toNatClampNeg c)) 73) r.toNatClampNeg e)) 121) r.toNatClampNeg c)) 122 (upd ((va_up (va_up (va_up I 72 (upd (I 72) r.toNatClampNeg c)) 73 (upd ((va_up I 72 (upd (I 72) r.toNatClampNeg c)) 73) r.toNatClampNeg e)) 121 (upd ((va_up (va_up I 72 (upd (I 72) r.toNatClampNeg c)) 73 (upd ((va_up I 72 (upd (I 72) r.toNatClampNeg c)) 73) r.toNatClampNeg e)) 121) r.toNatClampNeg c)) 122) r.toNatClampNeg e)) 121 = upd (I 121) r.toNatClampNeg c := by rw [va_n1 (by decide), va_e1, va_n1 (by decide), va_n1 (by decide)]
    have h122 : (va_up (va_up (va_up (va_up I 72 (upd (I 72) r.toNatClampNeg c)) 73 (upd ((va_up I 72 (upd (I 72) r.toNatClampNeg c)) 73) r.toNatClampNeg e)) 121 (upd ((va_up (va_up I 72 (upd (I 72) r.toNatClampNeg c)) 73 (upd ((va_up I 72 (upd (I 72) r.toNatClampNeg c)) 73) r.toNatClampNeg e)) 121) r.toNatClampNeg c)) 122 (upd ((va_up (va_up (va_up I 72 (upd (I 72) r.toNatClampNeg c)) 73 (upd ((va_up I 72 (upd (I 72) r.toNatClampNeg c)) 73) r.toNatClampNeg e)) 121 (upd ((va_up (va_up I 72 (upd (I 72) r.toNatClampNeg c)) 73 (upd ((va_up I 72 (upd (I 72) r.toNatClampNeg c)) 73) r.toNatClampNeg e)) 121) r.toNatClampNeg c)) 122) r.toNatClampNeg e)) 122 = upd (I 122) r.toNatClampNeg e := by rw [va_e1, va_n1 (by decide), va_n1 (by decide), va_n1 (by decide)]
    generalize (va_up (va_up (va_up (va_up I 72 (upd (I 72) r.toNatClampNeg c)) 73 (upd ((va_up I 72 (upd (I 72) r.toNatClampNeg c)) 73) r.toNatClampNeg e)) 121 (upd ((va_up (va_up I 72 (upd (I 72) r.toNatClampNeg c)) 73 (upd ((va_up I 72 (upd (I 72) r.toNatClampNeg c)) 73) r.toNatClampNeg e)) 121) r.toNatClampNeg c)) 122 (upd ((va_up (va_up (va_up I 72 (upd (I 72) r.toNatClampNeg c)) 73 (upd ((va_up I 72 (upd (I 72) r.toNatClampNeg c)) 73) r.toNatClampNeg e)) 121 (upd ((va_up (va_up I 72 (upd (I 72) r.toNatClampNeg c)) 73 (upd ((va_up I 72 (upd (I 72) r.toNatClampNeg c)) 73) r.toNatClampNeg e)) 121) r.toNatClampNeg c)) 122) r.toNatClampNeg e)) = J at lo h72 h73 h121 h122 ⊢
    have tf := (show tFr I J from ⟨fun j hj => lo j (by omega), by rw [lo 80 (by decide)], by rw [lo 80 (by decide)]⟩)
    have h6 : rT6 I J := ⟨(lo 94 (by decide)).symm, (lo 95 (by decide)).symm, (lo 96 (by decide)).symm, (lo 97 (by decide)).symm⟩
    have hwz : ∀ d, watZ I d = watZ J d := fun d => by unfold watZ; rw [lo 100 (by decide), lo 101 (by decide)]
    have gg : gInv n kk q J L C ah M := gInv_t g tf (by
      unfold wfT
      rw [lo 94 (by decide), lo 95 (by decide), lo 96 (by decide), lo 97 (by decide), lo 98 (by decide), lo 99 (by decide), lo 100 (by decide)]
      exact g.1) (by
      unfold cTow
      rw [lo 8 (by decide), lo 9 (by decide), lo 10 (by decide), lo 11 (by decide), lo 12 (by decide), lo 14 (by decide), lo 94 (by decide), lo 95 (by decide), lo 96 (by decide), lo 97 (by decide), lo 98 (by decide), lo 99 (by decide)]
      exact g.2.2.1.1) (by
      unfold cWet
      rw [lo 2 (by decide), lo 100 (by decide), lo 101 (by decide)]
      exact g.2.2.1.2.1) (cDay_t tf g.2.2.1.2.2.2.2 (A := 400) (by decide) (fun R z1 z2 => by rw [lo 13 (by decide), Nat.min_eq_left z2]; exact z1) (fun _ => h6) (fun d z => hwz d))
    exact set_fin hr hn hsl (fun j hj => lo j (by omega)) (lo 57 (by decide)) (lo 58 (by decide)) (lo 81 (by decide)) (by rw [lo 80 (by decide)]) (by rw [lo 80 (by decide)]) (by rw [lo 80 (by decide)]) gg (by unfold tInv; rw [lo 3 (by decide), lo 5 (by decide), lo 6 (by decide), lo 101 (by decide), lo 102 (by decide), lo 103 (by decide)]; exact ht) (by unfold uInv; rw [lo 65 (by decide), lo 66 (by decide), lo 67 (by decide), lo 104 (by decide), lo 105 (by decide), lo 106 (by decide)]; exact hu) (by
      unfold sInv
      rw [h72, h73, h121, h122, lo 71 (by decide), lo 75 (by decide), lo 80 (by decide), lo 124 (by decide)]
      refine ⟨fun i hi => ?_, hs.2⟩
      obtain ⟨k1, k2, k3, k4⟩ := hs.1 i hi
      refine ⟨?_, ?_, upd_p (P := fun z => 0 ≤ z.toInt ∧ z.toInt < 16) r1 k3, upd_p (P := fun z => 0 ≤ z.toInt ∧ z.toInt ≤ 1000) r2 k4⟩
      · unfold upd; rw [k1]
      · unfold upd; rw [k2]) (by unfold cInv; rw [lo 77 (by decide), lo 78 (by decide), lo 79 (by decide), lo 80 (by decide), lo 125 (by decide), lo 126 (by decide)]; exact hc) (jInv_t (by omega) hj g.2.1 g.2.2.1.2.2.1.2.1 tf h6 (fun d _ => hwz d) (by rw [lo 13 (by decide)]) (lo 60 (by decide)) (lo 63 (by decide)))
set_option maxHeartbeats 4000000 in
theorem jx_water {x e : Int32} : jx 114 (am_ent 3 [.ref 0, .int x, .int e]) 186 (am_ent 3 [.ref 80, .int x, .int e]) := by
  rintro k h hk ⟨n, sl, kk, I, L, q, rfl, C, ah, M, tx, T, g, hr, ht, hu, hs, hc, hj, hn, hsl⟩
  have x0 : sp_isDay x = 0 ↔ ¬ (0 ≤ x.toInt ∧ x.toInt < 400) := ar_day
  have m0 : sp_m_isDay x = 0 ↔ ¬ (0 ≤ x.toInt ∧ x.toInt < 400) := ar_mday
  have x1 : sp_isWithin e.toInt64 (0) (100) = 0 ↔ ¬ (0 ≤ e.toInt ∧ e.toInt ≤ 100) := ar_wi2 (a := 0) (b := 100) rfl rfl ⟨by decide, by decide⟩ ⟨by decide, by decide⟩
  have m1 : sp_m_is e (0) (100) = 0 ↔ ¬ (0 ≤ e.toInt ∧ e.toInt ≤ 100) := ar_mi2 (a := 0) (b := 100) rfl rfl ⟨by decide, by decide⟩ ⟨by decide, by decide⟩
  have same := h_same (q := q) hk g hr ht hu hs hc hj hn hsl
  by_cases h : sp_isDay x = 0 ∨ sp_isWithin e.toInt64 (0) (100) = 0
  · have h2 : sp_m_isDay x = 0 ∨ sp_m_is e (0) (100) = 0 := (fun h => h.elim (fun z => Or.inl ((fun z => m0.mpr (x0.mp z)) z)) (fun z => Or.inr ((fun z => m1.mpr (x1.mp z)) z))) h
    have e2 := ev_m_water (d := 0) (n := n) (sl := sl) (k := kk) (q := q) (I := I) (L := L) (x := x) (e := e)
    have v2 : sp_m_water x e I L = 0 ∧ sI_m_water x e I L = I ∧ sL_m_water x e I L = L := by
      unfold sp_m_water sI_m_water sL_m_water
      refine ⟨?_, ?_, ?_⟩ <;> (repeat' split) <;> first | rfl | (rcases h2 with h2 | h2 <;> contradiction)
    rw [v2.1, v2.2.1, v2.2.2] at e2
    by_cases hd : sp_isDay x = 0
    · exact jx_e (d1 := 1) (by decide) (by decide) (ev_xwater_O hd) e2 same
    · have r0 := (nn_iff x0).mp hd
      have ex := x_nI r0.1
      have hD : x.toInt.toNat < 400 := by omega
      generalize x.toInt.toNat = D at ex hD
      subst ex
      have y1 : sp_isWithin e.toInt64 (0) (100) = 0 := h.elim (fun z => absurd z hd) id
      have e1 := ev_x_water (d := 0) (n := n) (sl := sl) (k := kk) (q := q) (I := I) (L := L) (D := D) (e := e) hD
      simp only [sp_x_water, sI_x_water, sL_x_water, if_pos y1] at e1
      exact jx_e (by decide) (by decide) e1 e2 same
  · have ⟨y0, y1⟩ := (show ¬ sp_isDay x = 0 ∧ ¬ sp_isWithin e.toInt64 (0) (100) = 0 from ⟨fun z => h (Or.inl z), fun z => h (Or.inr (z))⟩)
    have w0 : ¬ sp_m_isDay x = 0 := fun z => y0 (x0.mpr (m0.mp z))
    have r0 : (0 ≤ x.toInt ∧ x.toInt < 400) := (nn_iff x0).mp y0
    have w1 : ¬ sp_m_is e (0) (100) = 0 := fun z => y1 (x1.mpr (m1.mp z))
    have r1 : (0 ≤ e.toInt ∧ e.toInt ≤ 100) := (nn_iff x1).mp y1
    have ex := x_nI r0.1
    have hD : x.toInt.toNat < 400 := by omega
    generalize x.toInt.toNat = D at ex hD
    subst ex
    have hcl : (nI D).toNatClampNeg = D := nI_clamp (by omega)
    have e1 := ev_x_water (d := 0) (n := n) (sl := sl) (k := kk) (q := q) (I := I) (L := L) (D := D) (e := e) hD
    have e2 := fun J0 => ev_m_water (d := 0) (n := n) (sl := sl) (k := kk) (q := q) (I := J0) (L := L) (x := nI D) (e := e)
    simp only [sp_x_water, sI_x_water, sL_x_water, sL_wet_tell, sL_d_spoil, if_neg y1] at e1
    simp only [sp_m_water, sI_m_water, sL_m_water, if_neg w0, if_neg w1, hcl] at e2
    have hN := tlN_z (va_up (va_up I 3 (upd (I 3) D (vp_nar .boolean 1))) 2 (upd ((va_up I 3 (upd (I 3) D (vp_nar .boolean 1))) 2) D e) 3) (400 - (D + 1)) (D + 1)
    have hE := tlN_e (va_up (va_up I 3 (upd (I 3) D (vp_nar .boolean 1))) 2 (upd ((va_up I 3 (upd (I 3) D (vp_nar .boolean 1))) 2) D e) 3) (400 - (D + 1)) (D + 1)
    have hf : ∀ j, j ≠ 2 → j ≠ 3 → sI_wet_tell D e I L j = I j := fun j j1 j2 => by unfold sI_wet_tell; rw [fI_lwet_tell _ _ _ _ _ j1, va_n1 j1, va_n1 j2]
    have htr : sI_wet_tell D e I L 3 = upd (I 3) D (vp_nar .boolean 1) := by unfold sI_wet_tell; rw [fI_lwet_tell _ _ _ _ _ (by decide), va_n1 (by decide), va_e1]
    have e3 : va_up (va_up I 3 (upd (I 3) D (vp_nar .boolean 1))) 2 (upd ((va_up I 3 (upd (I 3) D (vp_nar .boolean 1))) 2) D e) 3 = upd (I 3) D (vp_nar .boolean 1) := by rw [va_n1 (by decide), va_e1]
    have hnr : ∃ N, N ≤ 400 - (D + 1) ∧ (∀ j, j < N → upd (I 3) D (vp_nar .boolean 1) (D + 1 + j) = 0) ∧ (D + 1 + N < 400 → ¬ upd (I 3) D (vp_nar .boolean 1) (D + 1 + N) = 0) ∧ ∀ d, sI_wet_tell D e I L 2 d = if D ≤ d ∧ d < D + 1 + N then e else I 2 d := by
      unfold sI_wet_tell
      rw [e3] at hN hE ⊢
      generalize tlN (upd (I 3) D (vp_nar .boolean 1)) (D + 1) (400 - (D + 1)) = N at hN hE ⊢
      refine ⟨N, by omega, hN, fun z => ?_, fun d => ?_⟩
      · rcases hE with hE | hE
        · omega
        · exact hE.2
      · rw [it_wet_v]
        by_cases z : D + 1 ≤ d ∧ d < D + 1 + N
        · rw [if_pos z, if_pos ⟨by omega, z.2⟩]
        · rw [if_neg z, va_e1, va_n1 (by decide)]
          by_cases z2 : d = D
          · subst z2; rw [upd_e, if_pos ⟨Nat.le_refl _, by omega⟩]
          · rw [upd_n z2, if_neg (by omega)]
    obtain ⟨N, n1, n2, n3, n4⟩ := hnr
    generalize sI_wet_tell D e I L = I1 at e1 hf htr n4
    have v1 : ¬ (vp_nar .boolean 1 : Int32) = 0 := by decide
    obtain ⟨R, q1, q2, q3⟩ := g.2.2.1.2.2.2.2
    have sp := spoil_v (I := I1) (L := L) (A := D) (R := R) (by rw [hf 13 (by decide) (by decide)]; exact q1) q2 hD
    refine jx_e (d1 := 3) (d2 := 2) (by decide) (by decide) (ev_up (by decide) e1) (ev_up (by decide) (e2 _)) ?_
    have lo : ∀ j, (j ≠ 2 ∧ j ≠ 3 ∧ j ≠ 13 ∧ j ≠ 100 ∧ j ≠ 101) → (va_up (va_up (sI_d_spoil (nI D) I1 L) 100 (upd ((sI_d_spoil (nI D) I1 L) 100) D e)) 101 (upd ((va_up (sI_d_spoil (nI D) I1 L) 100 (upd ((sI_d_spoil (nI D) I1 L) 100) D e)) 101) D (vp_nar .boolean 1))) j = I j := fun j hj => by
      obtain ⟨j0, j1, j2, j3, j4⟩ := hj
      rw [va_n1 j4, va_n1 j3, sp.1 j j2, hf j j0 j1]
    have htr2 : (va_up (va_up (sI_d_spoil (nI D) I1 L) 100 (upd ((sI_d_spoil (nI D) I1 L) 100) D e)) 101 (upd ((va_up (sI_d_spoil (nI D) I1 L) 100 (upd ((sI_d_spoil (nI D) I1 L) 100) D e)) 101) D (vp_nar .boolean 1))) 3 = upd (I 3) D (vp_nar .boolean 1) := by rw [va_n1 (by decide), va_n1 (by decide), sp.1 3 (by decide), htr]
    have hnr2 : ∀ d, (va_up (va_up (sI_d_spoil (nI D) I1 L) 100 (upd ((sI_d_spoil (nI D) I1 L) 100) D e)) 101 (upd ((va_up (sI_d_spoil (nI D) I1 L) 100 (upd ((sI_d_spoil (nI D) I1 L) 100) D e)) 101) D (vp_nar .boolean 1))) 2 d = if D ≤ d ∧ d < D + 1 + N then e else I 2 d := fun d => by rw [va_n1 (by decide), va_n1 (by decide), sp.1 2 (by decide)]; exact n4 d
    have hmn : (va_up (va_up (sI_d_spoil (nI D) I1 L) 100 (upd ((sI_d_spoil (nI D) I1 L) 100) D e)) 101 (upd ((va_up (sI_d_spoil (nI D) I1 L) 100 (upd ((sI_d_spoil (nI D) I1 L) 100) D e)) 101) D (vp_nar .boolean 1))) 100 = upd (I 100) D e := by rw [va_n1 (by decide), va_e1, sp.1 100 (by decide), hf 100 (by decide) (by decide)]
    have hmt : (va_up (va_up (sI_d_spoil (nI D) I1 L) 100 (upd ((sI_d_spoil (nI D) I1 L) 100) D e)) 101 (upd ((va_up (sI_d_spoil (nI D) I1 L) 100 (upd ((sI_d_spoil (nI D) I1 L) 100) D e)) 101) D (vp_nar .boolean 1))) 101 = upd (I 101) D (vp_nar .boolean 1) := by rw [va_e1, va_n1 (by decide), sp.1 101 (by decide), hf 101 (by decide) (by decide)]
    have h11 : (va_up (va_up (sI_d_spoil (nI D) I1 L) 100 (upd ((sI_d_spoil (nI D) I1 L) 100) D e)) 101 (upd ((va_up (sI_d_spoil (nI D) I1 L) 100 (upd ((sI_d_spoil (nI D) I1 L) 100) D e)) 101) D (vp_nar .boolean 1))) 13 11 = nI (min R D) := by rw [va_n1 (by decide), va_n1 (by decide)]; exact sp.2.2.1
    have h12 : (va_up (va_up (sI_d_spoil (nI D) I1 L) 100 (upd ((sI_d_spoil (nI D) I1 L) 100) D e)) 101 (upd ((va_up (sI_d_spoil (nI D) I1 L) 100 (upd ((sI_d_spoil (nI D) I1 L) 100) D e)) 101) D (vp_nar .boolean 1))) 13 12 = I 13 12 + 1 := by rw [va_n1 (by decide), va_n1 (by decide), sp.2.2.2, hf 13 (by decide) (by decide)]
    generalize (va_up (va_up (sI_d_spoil (nI D) I1 L) 100 (upd ((sI_d_spoil (nI D) I1 L) 100) D e)) 101 (upd ((va_up (sI_d_spoil (nI D) I1 L) 100 (upd ((sI_d_spoil (nI D) I1 L) 100) D e)) 101) D (vp_nar .boolean 1))) = J at lo htr2 hnr2 hmn hmt h11 h12 ⊢
    have htold : ∀ d, d < 400 → (J 3 d = 0 ↔ J 101 d = 0) := fun d hd => by
      rw [htr2, hmt]
      by_cases z : d = D
      · subst z; rw [upd_e, upd_e]
      · rw [upd_n z, upd_n z]; exact ht.1 d hd
    have hwf : ∀ d, d < 400 → wf 50 (J 101) (J 100) d = if D ≤ d ∧ d < D + 1 + N then e else wf 50 (I 101) (I 100) d := by
      refine wf_tell (fun d hd => by rw [hmt, upd_n hd]) (fun d hd => by rw [hmn, upd_n hd]) (by rw [hmt, upd_e]; exact v1) (by rw [hmn, upd_e]) (fun j hj => ?_) (fun hz => ?_)
      · rw [← htold (D + 1 + j) (by omega), htr2]; exact n2 j hj
      · rw [← htold (D + 1 + N) hz, htr2]; exact n3 hz
    have tf := (show tFr I J from ⟨fun j hj => lo j (by omega), by rw [lo 80 (by decide)], by rw [lo 80 (by decide)]⟩)
    have hwz : ∀ d, d < D → watZ I d = watZ J d := fun d hd => by
      unfold watZ
      rw [hwf d (by omega), if_neg (by omega)]
    obtain ⟨t1, t2, t3, t4⟩ := g.1
    have gg : gInv n kk q J L C ah M := gInv_t g tf (by
      unfold wfT
      rw [hmn, lo 94 (by decide), lo 95 (by decide), lo 96 (by decide), lo 97 (by decide), lo 98 (by decide), lo 99 (by decide)]
      exact ⟨t1, t2, t3, upd_q (P := fun z => 0 ≤ z.toInt ∧ z.toInt ≤ 100) r1 t4⟩) (by
      unfold cTow
      rw [lo 8 (by decide), lo 9 (by decide), lo 10 (by decide), lo 11 (by decide), lo 12 (by decide), lo 14 (by decide), lo 94 (by decide), lo 95 (by decide), lo 96 (by decide), lo 97 (by decide), lo 98 (by decide), lo 99 (by decide)]
      exact g.2.2.1.1) (fun d hd => by
      rw [hnr2 d, hwf d hd, g.2.2.1.2.1 d hd]) (cDay_t tf g.2.2.1.2.2.2.2 (A := D) (by omega) (fun R' z1 z2 => by
        have : R' = R := (nI_eqI (by omega) (by omega)).mp (z1.symm.trans q1)
        rw [h11, this]) (fun _ => ⟨(lo 94 (by decide)).symm, (lo 95 (by decide)).symm, (lo 96 (by decide)).symm, (lo 97 (by decide)).symm⟩) hwz)
    refine set_fin hr hn hsl (fun j hj => lo j (by omega)) (lo 57 (by decide)) (lo 58 (by decide)) (lo 81 (by decide)) (by rw [lo 80 (by decide)]) (by rw [lo 80 (by decide)]) (by rw [lo 80 (by decide)]) gg ?_ (by unfold uInv; rw [lo 65 (by decide), lo 66 (by decide), lo 67 (by decide), lo 104 (by decide), lo 105 (by decide), lo 106 (by decide)]; exact hu) (by unfold sInv; rw [lo 71 (by decide), lo 72 (by decide), lo 73 (by decide), lo 75 (by decide), lo 80 (by decide), lo 121 (by decide), lo 122 (by decide), lo 124 (by decide)]; exact hs) (by unfold cInv; rw [lo 77 (by decide), lo 78 (by decide), lo 79 (by decide), lo 80 (by decide), lo 125 (by decide), lo 126 (by decide)]; exact hc) (jInv_s hj (by rw [lo 55 (by decide)]) h12 (lo 60 (by decide)))
    exact ⟨htold, by rw [lo 6 (by decide), lo 103 (by decide)]; exact ht.2.1, by rw [lo 5 (by decide), lo 102 (by decide), lo 103 (by decide)]; exact ht.2.2.1, by rw [lo 102 (by decide)]; exact ht.2.2.2⟩
set_option maxHeartbeats 4000000 in
theorem jx_warmth {x e : Int32} : jx 115 (am_ent 3 [.ref 0, .int x, .int e]) 187 (am_ent 3 [.ref 80, .int x, .int e]) := by
  rintro k h hk ⟨n, sl, kk, I, L, q, rfl, C, ah, M, tx, T, g, hr, ht, hu, hs, hc, hj, hn, hsl⟩
  have x0 : sp_isDay x = 0 ↔ ¬ (0 ≤ x.toInt ∧ x.toInt < 400) := ar_day
  have m0 : sp_m_isDay x = 0 ↔ ¬ (0 ≤ x.toInt ∧ x.toInt < 400) := ar_mday
  have x1 : sp_isWithin e.toInt64 (-20) (50) = 0 ↔ ¬ (-20 ≤ e.toInt ∧ e.toInt ≤ 50) := ar_wi2 (a := -20) (b := 50) rfl rfl ⟨by decide, by decide⟩ ⟨by decide, by decide⟩
  have m1 : sp_m_is e (-20) (50) = 0 ↔ ¬ (-20 ≤ e.toInt ∧ e.toInt ≤ 50) := ar_mi2 (a := -20) (b := 50) rfl rfl ⟨by decide, by decide⟩ ⟨by decide, by decide⟩
  have same := h_same (q := q) hk g hr ht hu hs hc hj hn hsl
  by_cases h : sp_isDay x = 0 ∨ sp_isWithin e.toInt64 (-20) (50) = 0
  · have h2 : sp_m_isDay x = 0 ∨ sp_m_is e (-20) (50) = 0 := (fun h => h.elim (fun z => Or.inl ((fun z => m0.mpr (x0.mp z)) z)) (fun z => Or.inr ((fun z => m1.mpr (x1.mp z)) z))) h
    have e2 := ev_m_warmth (d := 0) (n := n) (sl := sl) (k := kk) (q := q) (I := I) (L := L) (x := x) (e := e)
    have v2 : sp_m_warmth x e I L = 0 ∧ sI_m_warmth x e I L = I ∧ sL_m_warmth x e I L = L := by
      unfold sp_m_warmth sI_m_warmth sL_m_warmth
      refine ⟨?_, ?_, ?_⟩ <;> (repeat' split) <;> first | rfl | (rcases h2 with h2 | h2 <;> contradiction)
    rw [v2.1, v2.2.1, v2.2.2] at e2
    by_cases hd : sp_isDay x = 0
    · exact jx_e (d1 := 1) (by decide) (by decide) (ev_xwarmth_O hd) e2 same
    · have r0 := (nn_iff x0).mp hd
      have ex := x_nI r0.1
      have hD : x.toInt.toNat < 400 := by omega
      generalize x.toInt.toNat = D at ex hD
      subst ex
      have y1 : sp_isWithin e.toInt64 (-20) (50) = 0 := h.elim (fun z => absurd z hd) id
      have e1 := ev_x_warmth (d := 0) (n := n) (sl := sl) (k := kk) (q := q) (I := I) (L := L) (D := D) (e := e) hD
      simp only [sp_x_warmth, sI_x_warmth, sL_x_warmth, if_pos y1] at e1
      exact jx_e (by decide) (by decide) e1 e2 same
  · have ⟨y0, y1⟩ := (show ¬ sp_isDay x = 0 ∧ ¬ sp_isWithin e.toInt64 (-20) (50) = 0 from ⟨fun z => h (Or.inl z), fun z => h (Or.inr (z))⟩)
    have w0 : ¬ sp_m_isDay x = 0 := fun z => y0 (x0.mpr (m0.mp z))
    have r0 : (0 ≤ x.toInt ∧ x.toInt < 400) := (nn_iff x0).mp y0
    have w1 : ¬ sp_m_is e (-20) (50) = 0 := fun z => y1 (x1.mpr (m1.mp z))
    have r1 : (-20 ≤ e.toInt ∧ e.toInt ≤ 50) := (nn_iff x1).mp y1
    have ex := x_nI r0.1
    have hD : x.toInt.toNat < 400 := by omega
    generalize x.toInt.toNat = D at ex hD
    subst ex
    have hcl : (nI D).toNatClampNeg = D := nI_clamp (by omega)
    have e1 := ev_x_warmth (d := 0) (n := n) (sl := sl) (k := kk) (q := q) (I := I) (L := L) (D := D) (e := e) hD
    have e2 := fun J0 => ev_m_warmth (d := 0) (n := n) (sl := sl) (k := kk) (q := q) (I := J0) (L := L) (x := nI D) (e := e)
    simp only [sp_x_warmth, sI_x_warmth, sL_x_warmth, sL_warm_tell, if_neg y1] at e1
    simp only [sp_m_warmth, sI_m_warmth, sL_m_warmth, if_neg w0, if_neg w1, hcl] at e2
    have hN := tlN_z (va_up (va_up I 6 (upd (I 6) D (vp_nar .boolean 1))) 5 (upd ((va_up I 6 (upd (I 6) D (vp_nar .boolean 1))) 5) D e) 6) (400 - (D + 1)) (D + 1)
    have hE := tlN_e (va_up (va_up I 6 (upd (I 6) D (vp_nar .boolean 1))) 5 (upd ((va_up I 6 (upd (I 6) D (vp_nar .boolean 1))) 5) D e) 6) (400 - (D + 1)) (D + 1)
    have hf : ∀ j, j ≠ 5 → j ≠ 6 → sI_warm_tell D e I L j = I j := fun j j1 j2 => by unfold sI_warm_tell; rw [fI_lwarm_tell _ _ _ _ _ j1, va_n1 j1, va_n1 j2]
    have htr : sI_warm_tell D e I L 6 = upd (I 6) D (vp_nar .boolean 1) := by unfold sI_warm_tell; rw [fI_lwarm_tell _ _ _ _ _ (by decide), va_n1 (by decide), va_e1]
    have e3 : va_up (va_up I 6 (upd (I 6) D (vp_nar .boolean 1))) 5 (upd ((va_up I 6 (upd (I 6) D (vp_nar .boolean 1))) 5) D e) 6 = upd (I 6) D (vp_nar .boolean 1) := by rw [va_n1 (by decide), va_e1]
    have hnr : ∃ N, N ≤ 400 - (D + 1) ∧ (∀ j, j < N → upd (I 6) D (vp_nar .boolean 1) (D + 1 + j) = 0) ∧ (D + 1 + N < 400 → ¬ upd (I 6) D (vp_nar .boolean 1) (D + 1 + N) = 0) ∧ ∀ d, sI_warm_tell D e I L 5 d = if D ≤ d ∧ d < D + 1 + N then e else I 5 d := by
      unfold sI_warm_tell
      rw [e3] at hN hE ⊢
      generalize tlN (upd (I 6) D (vp_nar .boolean 1)) (D + 1) (400 - (D + 1)) = N at hN hE ⊢
      refine ⟨N, by omega, hN, fun z => ?_, fun d => ?_⟩
      · rcases hE with hE | hE
        · omega
        · exact hE.2
      · rw [it_warm_v]
        by_cases z : D + 1 ≤ d ∧ d < D + 1 + N
        · rw [if_pos z, if_pos ⟨by omega, z.2⟩]
        · rw [if_neg z, va_e1, va_n1 (by decide)]
          by_cases z2 : d = D
          · subst z2; rw [upd_e, if_pos ⟨Nat.le_refl _, by omega⟩]
          · rw [upd_n z2, if_neg (by omega)]
    obtain ⟨N, n1, n2, n3, n4⟩ := hnr
    generalize sI_warm_tell D e I L = I1 at e1 hf htr n4
    have v1 : ¬ (vp_nar .boolean 1 : Int32) = 0 := by decide
    refine jx_e (d1 := 3) (d2 := 2) (by decide) (by decide) (ev_up (by decide) e1) (ev_up (by decide) (e2 _)) ?_
    have lo : ∀ j, (j ≠ 5 ∧ j ≠ 6 ∧ j ≠ 102 ∧ j ≠ 103) → (va_up (va_up I1 102 (upd (I1 102) D e)) 103 (upd ((va_up I1 102 (upd (I1 102) D e)) 103) D (vp_nar .boolean 1))) j = I j := fun j hj => by
      obtain ⟨j0, j1, j2, j3⟩ := hj
      rw [va_n1 j3, va_n1 j2, hf j j0 j1]
    have htr2 : (va_up (va_up I1 102 (upd (I1 102) D e)) 103 (upd ((va_up I1 102 (upd (I1 102) D e)) 103) D (vp_nar .boolean 1))) 6 = upd (I 6) D (vp_nar .boolean 1) := by rw [va_n1 (by decide), va_n1 (by decide), htr]
    have hnr2 : ∀ d, (va_up (va_up I1 102 (upd (I1 102) D e)) 103 (upd ((va_up I1 102 (upd (I1 102) D e)) 103) D (vp_nar .boolean 1))) 5 d = if D ≤ d ∧ d < D + 1 + N then e else I 5 d := fun d => by rw [va_n1 (by decide), va_n1 (by decide)]; exact n4 d
    have hmn : (va_up (va_up I1 102 (upd (I1 102) D e)) 103 (upd ((va_up I1 102 (upd (I1 102) D e)) 103) D (vp_nar .boolean 1))) 102 = upd (I 102) D e := by rw [va_n1 (by decide), va_e1, hf 102 (by decide) (by decide)]
    have hmt : (va_up (va_up I1 102 (upd (I1 102) D e)) 103 (upd ((va_up I1 102 (upd (I1 102) D e)) 103) D (vp_nar .boolean 1))) 103 = upd (I 103) D (vp_nar .boolean 1) := by rw [va_e1, va_n1 (by decide), hf 103 (by decide) (by decide)]
    generalize (va_up (va_up I1 102 (upd (I1 102) D e)) 103 (upd ((va_up I1 102 (upd (I1 102) D e)) 103) D (vp_nar .boolean 1))) = J at lo htr2 hnr2 hmn hmt ⊢
    have htold : ∀ d, d < 400 → (J 6 d = 0 ↔ J 103 d = 0) := fun d hd => by
      rw [htr2, hmt]
      by_cases z : d = D
      · subst z; rw [upd_e, upd_e]
      · rw [upd_n z, upd_n z]; exact ht.2.1 d hd
    have hwf : ∀ d, d < 400 → wf 0 (J 103) (J 102) d = if D ≤ d ∧ d < D + 1 + N then e else wf 0 (I 103) (I 102) d := by
      refine wf_tell (fun d hd => by rw [hmt, upd_n hd]) (fun d hd => by rw [hmn, upd_n hd]) (by rw [hmt, upd_e]; exact v1) (by rw [hmn, upd_e]) (fun j hj => ?_) (fun hz => ?_)
      · rw [← htold (D + 1 + j) (by omega), htr2]; exact n2 j hj
      · rw [← htold (D + 1 + N) hz, htr2]; exact n3 hz
    have tf := (show tFr I J from ⟨fun j hj => lo j (by omega), by rw [lo 80 (by decide)], by rw [lo 80 (by decide)]⟩)
    have h6 : rT6 I J := ⟨(lo 94 (by decide)).symm, (lo 95 (by decide)).symm, (lo 96 (by decide)).symm, (lo 97 (by decide)).symm⟩
    have hwz : ∀ d, watZ I d = watZ J d := fun d => by unfold watZ; rw [lo 100 (by decide), lo 101 (by decide)]
    have gg : gInv n kk q J L C ah M := gInv_t g tf (by
      unfold wfT
      rw [lo 94 (by decide), lo 95 (by decide), lo 96 (by decide), lo 97 (by decide), lo 98 (by decide), lo 99 (by decide), lo 100 (by decide)]
      exact g.1) (by
      unfold cTow
      rw [lo 8 (by decide), lo 9 (by decide), lo 10 (by decide), lo 11 (by decide), lo 12 (by decide), lo 14 (by decide), lo 94 (by decide), lo 95 (by decide), lo 96 (by decide), lo 97 (by decide), lo 98 (by decide), lo 99 (by decide)]
      exact g.2.2.1.1) (by
      unfold cWet
      rw [lo 2 (by decide), lo 100 (by decide), lo 101 (by decide)]
      exact g.2.2.1.2.1) (cDay_t tf g.2.2.1.2.2.2.2 (A := 400) (by decide) (fun R z1 z2 => by rw [lo 13 (by decide), Nat.min_eq_left z2]; exact z1) (fun _ => h6) (fun d z => hwz d))
    refine set_fin hr hn hsl (fun j hj => lo j (by omega)) (lo 57 (by decide)) (lo 58 (by decide)) (lo 81 (by decide)) (by rw [lo 80 (by decide)]) (by rw [lo 80 (by decide)]) (by rw [lo 80 (by decide)]) gg ?_ (by unfold uInv; rw [lo 65 (by decide), lo 66 (by decide), lo 67 (by decide), lo 104 (by decide), lo 105 (by decide), lo 106 (by decide)]; exact hu) (by unfold sInv; rw [lo 71 (by decide), lo 72 (by decide), lo 73 (by decide), lo 75 (by decide), lo 80 (by decide), lo 121 (by decide), lo 122 (by decide), lo 124 (by decide)]; exact hs) (by unfold cInv; rw [lo 77 (by decide), lo 78 (by decide), lo 79 (by decide), lo 80 (by decide), lo 125 (by decide), lo 126 (by decide)]; exact hc) (jInv_t (by omega) hj g.2.1 g.2.2.1.2.2.1.2.1 tf h6 (fun d _ => hwz d) (by rw [lo 13 (by decide)]) (lo 60 (by decide)) (lo 63 (by decide)))
    exact ⟨by rw [lo 3 (by decide), lo 101 (by decide)]; exact ht.1, htold, fun d hd => by rw [hnr2 d, hwf d hd, ht.2.2.1 d hd], by rw [hmn]; exact upd_q (P := fun z => -20 ≤ z.toInt ∧ z.toInt ≤ 50) r1 ht.2.2.2⟩
