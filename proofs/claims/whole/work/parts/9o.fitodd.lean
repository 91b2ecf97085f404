/-! FIT, ODD: both sides answer alike -/
theorem ga_sI {J : Nat → Nat → Int32} : J = gaI J (J 64 9) (J 68) := by
  funext j i
  unfold gaI
  by_cases hj : j = 64
  · subst hj
    by_cases h0 : i = 9
    · subst h0; rfl
    simp only [rdI_nb h0, cond_false]
    try rfl
  · by_cases g0 : j = 68
    · subst g0; rfl
    simp only [rdI_nb hj, rdI_nb g0, cond_false]
theorem ga_sL {J : Nat → Nat → Int64} : J = gaL J (J 64 10) (J 64 11) (J 64 12) (J 64 13) (J 69) (J 70) := by
  funext j i
  unfold gaL
  by_cases hj : j = 64
  · subst hj
    by_cases h0 : i = 10
    · subst h0; rfl
    by_cases h1 : i = 11
    · subst h1; rfl
    by_cases h2 : i = 12
    · subst h2; rfl
    by_cases h3 : i = 13
    · subst h3; rfl
    simp only [rdI_nb h0, rdI_nb h1, rdI_nb h2, rdI_nb h3, cond_false]
    try rfl
  · by_cases g0 : j = 69
    · subst g0; rfl
    by_cases g1 : j = 70
    · subst g1; rfl
    simp only [rdI_nb hj, rdI_nb g0, rdI_nb g1, cond_false]
theorem fi_sI {J : Nat → Nat → Int32} : J = fiI J (J 80 65) := by
  funext j i
  unfold fiI
  by_cases hj : j = 80
  · subst hj
    by_cases h0 : i = 65
    · subst h0; rfl
    simp only [rdI_nb h0, cond_false]
    try rfl
  · simp only [rdI_nb hj, cond_false]
theorem fi_sL {J : Nat → Nat → Int64} : J = fiL J (J 80 63) (J 80 64) := by
  funext j i
  unfold fiL
  by_cases hj : j = 80
  · subst hj
    by_cases h0 : i = 63
    · subst h0; rfl
    by_cases h1 : i = 64
    · subst h1; rfl
    simp only [rdI_nb h0, rdI_nb h1, cond_false]
    try rfl
  · simp only [rdI_nb hj, cond_false]
section FC
variable {X Y : Nat → Nat → Int32} {F T b C : Nat}
theorem rdB_c (h : rE Y X) : rdB Y F T = rdB X F T := by
  funext n
  unfold rdB dyN
  rw [(kn_c h).2.2, h.1 107 (by decide) (by decide), h.1 108 (by decide) (by decide)]
theorem loZ_c (h : rE Y X) : loZ Y F = loZ X F ∧ hiZ Y F = hiZ X F := by
  have e : rgt Y = rgt X := by
    funext n
    unfold rgt sp_m_rightOf
    rw [h.1 110 (by decide) (by decide), h.1 104 (by decide) (by decide), h.1 109 (by decide) (by decide), h.1 103 (by decide) (by decide), h.1 102 (by decide) (by decide), h.1 108 (by decide) (by decide), h.1 105 (by decide) (by decide)]
  constructor
  · funext n
    unfold loZ dyN clN
    rw [e, h.1 106 (by decide) (by decide), h.1 108 (by decide) (by decide), h.1 109 (by decide) (by decide), pS_c h, pS_c h]
  · funext n
    unfold hiZ dyN clN
    rw [e, h.1 106 (by decide) (by decide), h.1 108 (by decide) (by decide), h.1 109 (by decide) (by decide), pS_c h, pS_c h]
theorem w_c (h : rE Y X) : ∀ k, mxw Y F T b k = mxw X F T b k ∧ mnw Y F T b k = mnw X F T b k ∧ cnw Y F T b k = cnw X F T b k := by
  have e1 := rdB_c (F := F) (T := T) h
  obtain ⟨e2, e3⟩ := loZ_c (F := F) h
  intro k
  induction k with
  | zero => exact ⟨rfl, rfl, rfl⟩
  | succ k ih =>
    obtain ⟨i1, i2, i3⟩ := ih
    unfold mxw mnw cnw
    rw [e1, e2, e3, i1, i2, i3]
    exact ⟨rfl, rfl, rfl⟩
theorem odF_c (h : rE Y X) : ∀ m k, odF Y F T C m k = odF X F T C m k := by
  intro m
  induction m with
  | zero => intro k; rfl
  | succ m ih =>
    intro k
    unfold odF
    rw [rdB_c h, (w_c h C).1, (w_c h C).2.1, ih]
theorem odF_C (hC : nNow X ≤ C) : ∀ m k, odF X F T C m k = odF X F T (nNow X) m k := by
  intro m
  induction m with
  | zero => intro k; rfl
  | succ m ih =>
    intro k
    unfold odF
    rw [(w_now hC).1, (w_now hC).2.1, ih]
theorem w_m : ∀ k, ∀ b, 1 ≤ b → b ≤ k → rdB X F T b = true → mxw X F T 0 k = max (mxw X F T b k) (loZ X F b) ∧ mnw X F T 0 k = min (mnw X F T b k) (hiZ X F b) := by
  intro k
  induction k with
  | zero => intro b b1 b2; exact absurd b2 (by omega)
  | succ k ih =>
    intro b b1 b2 b3
    by_cases z : b = k + 1
    · subst z
      rw [(w_s (b := 0) ⟨b3, by omega⟩).1, (w_s (b := 0) ⟨b3, by omega⟩).2.1, (w_n (b := k + 1) (fun y => y.2 rfl)).1, (w_n (b := k + 1) (fun y => y.2 rfl)).2.1, (mxw_o k).2.2.1 (k + 1) (by omega), (mnw_o k).2.2.1 (k + 1) (by omega)]
      exact ⟨rfl, rfl⟩
    · obtain ⟨i1, i2⟩ := ih b b1 (by omega) b3
      by_cases h : rdB X F T (k + 1) = true
      · rw [(w_s (b := 0) ⟨h, by omega⟩).1, (w_s (b := 0) ⟨h, by omega⟩).2.1, (w_s (b := b) ⟨h, by omega⟩).1, (w_s (b := b) ⟨h, by omega⟩).2.1, i1, i2]
        omega
      · rw [(w_n (b := 0) (fun y => h y.1)).1, (w_n (b := 0) (fun y => h y.1)).2.1, (w_n (b := b) (fun y => h y.1)).1, (w_n (b := b) (fun y => h y.1)).2.1]
        exact ⟨i1, i2⟩
end FC
theorem fo_fin {k : Nat} {n sl C : Nat} {kk : Nat → Nat × Nat} {q : Nat → Nat → Option Nat} {I J : Nat → Nat → Int32} {K : Nat → Nat → Int64} {ah : Nat → Nat} {M : Nat → List (Nat × Nat × List Nat)} {tx : Nat → Nat} {T0 : Nat} (hk : k ≤ 512) (gB : wfB I) (hC : nC I = C) (hr : rInv kk I tx T0) (ht : tInv I) (hu : uInv I) (hs : sInv I) (hc : cInv I) (hj : jInv (201 * k) I C M) (hn : n ≤ 131 + 2 * k) (hsl : sl ≤ 231806 + 820 * k) (g : gInv n kk q J K C ah M) (hE : rE J I) (lo : ∀ j, (j < 13 ∨ (57 ≤ j ∧ j < 80 ∧ j ≠ 64 ∧ j ≠ 68 ∧ j ≠ 74 ∧ j ≠ 75 ∧ j ≠ 71) ∨ (80 < j ∧ j ≠ 117 ∧ j ≠ 118 ∧ j ≠ 123 ∧ j ≠ 124)) → J j = I j) (l8 : ∀ i, i ≠ 65 → i ≠ 68 → J 80 i = I 80 i) (h55 : J 55 = I 55) (h13 : J 13 12 = I 13 12) (hs' : sInv J) : hInv (k + 1) (n, sl, wKK kk, J, K, wQQ q) := by
  have h6 : rT6 I J := ⟨(lo 94 (by decide)).symm, (lo 95 (by decide)).symm, (lo 96 (by decide)).symm, (lo 97 (by decide)).symm⟩
  have hwz : ∀ d, watZ I d = watZ J d := fun d => by unfold watZ; rw [lo 100 (by decide), lo 101 (by decide)]
  have hjJ : jInv (201 * k + 201) J C M := jInv_f (b := 201 * k) (by omega) hj gB g.2.1 hC (by rw [(kn_c hE).1]; exact hC) (Nat.le_refl _) ⟨0, 0, Nat.le_refl _, by omega, by rw [h55]; exact (Int32.add_zero _).symm, by rw [h13]; exact (Int32.add_zero _).symm, fun _ i _ => by rw [(kn_c hE).2.2], fun i _ _ => ⟨by rw [hE.1 107 (by decide) (by decide)], by rw [hE.1 108 (by decide) (by decide)], by rw [hE.1 109 (by decide) (by decide)], by rw [hE.1 110 (by decide) (by decide)], by rw [hE.1 111 (by decide) (by decide)]⟩⟩ h6 (fun d _ => hwz d) (fun _ _ => rfl) (fun i _ => by rw [lo 60 (by decide)]) (lo 63 (by decide))
  rw [show 201 * k + 201 = 201 * (k + 1) by omega] at hjJ
  exact ⟨n, sl, kk, J, K, q, rfl, C, ah, M, tx, T0, g, rInv_f (lo 57 (by decide)) (lo 58 (by decide)) (lo 81 (by decide)) (l8 1 (by decide) (by decide)) (l8 10 (by decide) (by decide)) (l8 11 (by decide) (by decide)) (fun w _ => ⟨lo _ (by unfold am_B; omega), rfl⟩) hr, (by unfold tInv; rw [lo 3 (by decide), lo 5 (by decide), lo 6 (by decide), lo 101 (by decide), lo 102 (by decide), lo 103 (by decide)]; exact ht), (by unfold uInv; rw [lo 65 (by decide), lo 66 (by decide), lo 67 (by decide), lo 104 (by decide), lo 105 (by decide), lo 106 (by decide)]; exact hu), hs', (by unfold cInv; rw [l8 71 (by decide) (by decide), lo 77 (by decide), lo 78 (by decide), lo 79 (by decide), lo 125 (by decide), lo 126 (by decide)]; exact hc), hjJ, by omega, sl_up hsl (by omega)⟩
/-- reach and gather -/
def foS (n : Nat) (kk : Nat → Nat × Nat) (q : Nat → Nat → Option Nat) (I : Nat → Nat → Int32) (C : Nat) (ah : Nat → Nat) (M : Nat → List (Nat × Nat × List Nat)) (J : Nat → Nat → Int32) (K : Nat → Nat → Int64) : Prop := gInv n kk q J K C ah M ∧ rE J I ∧ (∀ j, (j < 13 ∨ (57 ≤ j ∧ j < 80 ∧ j ≠ 64 ∧ j ≠ 68) ∨ (80 < j ∧ j ≠ 117 ∧ j ≠ 118)) → J j = I j) ∧ (∀ i, i ≠ 65 → J 80 i = I 80 i) ∧ J 55 = I 55 ∧ J 13 12 = I 13 12
theorem foS_h {k : Nat} {n sl C : Nat} {kk : Nat → Nat × Nat} {q : Nat → Nat → Option Nat} {I J : Nat → Nat → Int32} {K : Nat → Nat → Int64} {ah : Nat → Nat} {M : Nat → List (Nat × Nat × List Nat)} {tx : Nat → Nat} {T0 : Nat} (hk : k ≤ 512) (gB : wfB I) (hC : nC I = C) (hr : rInv kk I tx T0) (ht : tInv I) (hu : uInv I) (hs : sInv I) (hc : cInv I) (hj : jInv (201 * k) I C M) (hn : n ≤ 131 + 2 * k) (hsl : sl ≤ 231806 + 820 * k) (h : foS n kk q I C ah M J K) : hInv (k + 1) (n, sl, wKK kk, J, K, wQQ q) := by
  obtain ⟨g, hE, lo, l8, h55, h13⟩ := h
  exact fo_fin hk gB hC hr ht hu hs hc hj hn hsl g hE (fun j hj => lo j (by omega)) (fun i i1 i2 => l8 i i1) h55 h13 (by unfold sInv; rw [l8 68 (by decide), lo 71 (by decide), lo 72 (by decide), lo 73 (by decide), lo 75 (by decide), lo 121 (by decide), lo 122 (by decide), lo 124 (by decide)]; exact hs)
theorem foS_c {n sl C : Nat} {kk : Nat → Nat × Nat} {q : Nat → Nat → Option Nat} {I : Nat → Nat → Int32} {L : Nat → Nat → Int64} {ah : Nat → Nat} {M : Nat → List (Nat × Nat × List Nat)} {F T : Nat} (g : gInv n kk q I L C ah M) (ht : tInv I) (hu : uInv I) (hF : F ≤ T) (hT4 : T < 400) : ∃ J0 K0, (∀ d, am_Ev (d + 5) 27 0 (am_ent 3 [.ref 13, .int (nI T)]) [] (n, sl, wKK kk, I, L, wQQ q) (none, (n, sl, wKK kk, J0, K0, wQQ q))) ∧ rE J0 I ∧ am_T 6 43 0 (am_ent 9 [.ref 64, .int (nI F), .int (nI T)]) [] (n, sl, wKK kk, J0, K0, wQQ q) (fun rv h' => rv = none ∧ ∃ r68' r69' r70', h' = (n, sl, wKK kk, gaI J0 (nI (rdl J0 F T C).length) r68', gaL K0 (jL (mxw J0 F T 0 C)) (jL (sxw J0 F T C)) (jL (mnw J0 F T 0 C)) (jL (snw J0 F T C)) r69' r70', wQQ q) ∧ gaE J0 F T C r68' r69' r70') ∧ (∀ n, rdB J0 F T n = true → (-9000000000 ≤ loZ J0 F n ∧ loZ J0 F n ≤ 9000000000) ∧ (-9000000000 ≤ hiZ J0 F n ∧ hiZ J0 F n ≤ 9000000000)) ∧ ∀ ct r68 a b c e r69 r70, foS n kk q I C ah M (gaI J0 ct r68) (gaL K0 a b c e r69 r70) := by
  obtain ⟨g1, r1, f1, r80, r55, r13, ⟨k1, k2⟩, hp1, h14⟩ := reach_g g (D := T) (by omega)
  have er := fun d => ev_d_reach (d := d) (n := n) (sl := sl) (k := kk) (q := q) (L := L) (D := T) (by omega) k1 k2 h14
  generalize sI_d_reach T I L = J0 at g1 r1 f1 r80 r55 r13 hp1 er
  generalize sL_d_reach T I L = K0 at g1 r1 f1 er
  have hE : rE J0 I := ⟨fun j j1 j2 => r80 j (by omega), by rw [r80 80 (by decide)], by rw [r80 80 (by decide)]⟩
  have lo : ∀ j, (j < 13 ∨ (57 ≤ j ∧ j < 80) ∨ 80 ≤ j) → J0 j = I j := fun j hj => by
    rcases hj with z | z | z
    · exact f1.2.1 j z
    · exact f1.1 j z.1 z.2
    · exact r80 j z
  have ht0 : tInv J0 := by unfold tInv; rw [lo 3 (by decide), lo 5 (by decide), lo 6 (by decide), lo 101 (by decide), lo 102 (by decide), lo 103 (by decide)]; exact ht
  have hu0 : uInv J0 := by unfold uInv; rw [lo 65 (by decide), lo 66 (by decide), lo 67 (by decide), lo 104 (by decide), lo 105 (by decide), lo 106 (by decide)]; exact hu
  refine ⟨J0, K0, er, hE, ?_, rd_b g1 hu0 hF hT4, fun ct r68 a b c e r69 r70 => ?_⟩
  · refine tv_hI ga_sI ?_
    refine tv_hL ga_sL ?_
    exact tv_gather g1 ht0 hu0 hF hT4 r1
  · have go : ∀ j, j ≠ 64 → j ≠ 68 → gaI J0 ct r68 j = J0 j := fun j j1 j2 => gaI_o j1 j2
    refine ⟨gInv_k g1 (fun j hj => go j (by omega) (by omega)) (fun j hj => go j (by omega) (by omega)) ⟨fun j j1 j2 => go j (by omega) (by omega), by rw [go 80 (by decide) (by decide)], by rw [go 80 (by decide) (by decide)]⟩ (fun j hj => by rw [go 82 (by decide) (by decide)]) (fun j hj => by rw [go 83 (by decide) (by decide), go 84 (by decide) (by decide), go 85 (by decide) (by decide), go 86 (by decide) (by decide)]; exact ⟨rfl, rfl, rfl, rfl⟩) (fun j hj => by rw [go 87 (by decide) (by decide)]) (fun j hj => gaL_o (by omega) (by omega) (by omega)), ⟨fun j j1 j2 => by rw [go j (by omega) (by omega)]; exact hE.1 j j1 j2, by rw [go 80 (by decide) (by decide)]; exact hE.2.1, by rw [go 80 (by decide) (by decide)]; exact hE.2.2⟩, fun j hj => by rw [go j (by omega) (by omega)]; exact lo j (by omega), fun i _ => by rw [go 80 (by decide) (by decide), lo 80 (by decide)], by rw [go 55 (by decide) (by decide), r55], by rw [go 13 (by decide) (by decide), r13]⟩
theorem foS_m {n sl C : Nat} {kk : Nat → Nat × Nat} {q : Nat → Nat → Option Nat} {I J : Nat → Nat → Int32} {K : Nat → Nat → Int64} {ah : Nat → Nat} {M : Nat → List (Nat × Nat × List Nat)} {F T : Nat} (h : foS n kk q I C ah M J K) (ht : tInv I) (hu : uInv I) (hF : F ≤ T) (hT4 : T < 400) : ∃ J3 K3, (∀ d, am_Ev (d + 4) 208 0 (am_ent 2 [.ref 80]) [] (n, sl, wKK kk, J, K, wQQ q) (none, (n, sl, wKK kk, J3, K3, wQQ q))) ∧ gInv n kk q J3 K3 C ah M ∧ mPl J3 K3 ∧ tInv J3 ∧ uInv J3 ∧ rE J3 I ∧ ∀ ct lo up, foS n kk q I C ah M (fiI J3 ct) (fiL K3 lo up) := by
  obtain ⟨g, hE, lo, l8, h55, h13⟩ := h
  have gB1 := g.2.1
  obtain ⟨hn1, hn2⟩ := now_N (L := K) gB1
  have hC2 := gB1.1.2
  obtain ⟨g2, hP, f2, p2, hp2⟩ := play_g g
  have ep := fun d => ev_m_play (d := d) (n := n) (sl := sl) (k := kk) (q := q) (I := J) (L := K) (by rw [now_cl gB1]; exact hn1) (by rw [now_cl gB1]; omega) (gx_ok gB1) (gl_ok gB1)
  generalize sI_m_play J K = J3 at g2 hP f2 p2 hp2 ep
  generalize sL_m_play J K = K3 at g2 hP f2 ep
  have hE3 : rE J3 I := ⟨fun j i1 i2 => by rw [p2 j (by omega) (by omega), hE.1 j i1 i2], by rw [p2 80 (by decide) (by decide), hE.2.1], by rw [p2 80 (by decide) (by decide), hE.2.2]⟩
  have lo3 : ∀ j, (j < 13 ∨ (57 ≤ j ∧ j < 80 ∧ j ≠ 64 ∧ j ≠ 68) ∨ (80 < j ∧ j ≠ 117 ∧ j ≠ 118)) → J3 j = I j := fun j hj => by rw [p2 j (by omega) (by omega)]; exact lo j hj
  refine ⟨J3, K3, ep, g2, hP, by unfold tInv; rw [lo3 3 (by decide), lo3 5 (by decide), lo3 6 (by decide), lo3 101 (by decide), lo3 102 (by decide), lo3 103 (by decide)]; exact ht, by unfold uInv; rw [lo3 65 (by decide), lo3 66 (by decide), lo3 67 (by decide), lo3 104 (by decide), lo3 105 (by decide), lo3 106 (by decide)]; exact hu, hE3, fun ct a b => ?_⟩
  have go : ∀ j, j ≠ 80 → fiI J3 ct j = J3 j := fun j j1 => fiI_o j1
  exact ⟨gInv_k g2 (fun j hj => go j (by omega)) (fun j hj => go j (by omega)) fi_rE (fun j hj => by rw [go 82 (by decide)]) (fun j hj => by rw [go 83 (by decide), go 84 (by decide), go 85 (by decide), go 86 (by decide)]; exact ⟨rfl, rfl, rfl, rfl⟩) (fun j hj => by rw [go 87 (by decide)]) (fun j hj => fiL_o (by omega)), ⟨fun j j1 j2 => by rw [go j (by omega)]; exact hE3.1 j j1 j2, by rw [fiI_8 (by decide)]; exact hE3.2.1, by rw [fiI_8 (by decide)]; exact hE3.2.2⟩, fun j hj => by rw [go j (by omega)]; exact lo3 j hj, fun i hi => by rw [fiI_8 hi, p2 80 (by decide) (by decide)]; exact l8 i hi, by rw [go 55 (by decide), p2 55 (by decide) (by decide)]; exact h55, by rw [go 13 (by decide), p2 13 (by decide) (by decide)]; exact h13⟩
theorem ev_x_fitO {d n sl : Nat} {kk : Nat → Nat × Nat} {I : Nat → Nat → Int32} {L : Nat → Nat → Int64} {q : Nat → Nat → Option Nat} {x y z : Int32} (hx : sp_areDays x y = 0) : am_Ev (d + 2) 134 0 (am_ent 4 [.ref 0, .int x, .int y, .int z]) [] (n, sl, wKK kk, I, L, wQQ q) (some (.long (-2000000000)), (n, sl, wKK kk, I, L, wQQ q)) := by
  refine tv_ev ?_
  show am_T _ _ 0 [some (.ref 0), some (.int x), some (.int y), some (.int z)] _ _ _
  refine tv_b (pc' := 2) (ls' := [some (.ref 0), some (.int x), some (.int y), some (.int z)]) (st' := [.int y, .int x]) (h' := (n, sl, wKK kk, I, L, wQQ q)) 2 rfl ?_
  refine tv_csE [.int x, .int y] [] rfl rfl (by omega) rfl (Nat.le_of_ble_eq_true rfl) (Nat.le_of_ble_eq_true rfl) (ev_areDays) ?_
  refine tv_b (pc' := (if (sp_areDays x y) = 0 then 8 else 12)) (ls' := [some (.ref 0), some (.int x), some (.int y), some (.int z)]) (st' := []) (h' := (n, sl, wKK kk, I, L, wQQ q)) 1 rfl ?_
  refine tv_t (hx) ?_
  refine tv_b (pc' := 11) (ls' := [some (.ref 0), some (.int x), some (.int y), some (.int z)]) (st' := [.long (-2000000000)]) (h' := (n, sl, wKK kk, I, L, wQQ q)) 1 rfl ?_
  exact tv_rl rfl ⟨rfl, rfl⟩
theorem ev_m_fitO {d n sl : Nat} {kk : Nat → Nat × Nat} {I : Nat → Nat → Int32} {L : Nat → Nat → Int64} {q : Nat → Nat → Option Nat} {x y z : Int32} (hx : sp_m_areDays x y = 0) : am_Ev (d + 3) 229 0 (am_ent 4 [.ref 80, .int x, .int y, .int z]) [] (n, sl, wKK kk, I, L, wQQ q) (some (.long (-2000000000)), (n, sl, wKK kk, I, L, wQQ q)) := by
  refine tv_ev ?_
  show am_T _ _ 0 [some (.ref 80), some (.int x), some (.int y), some (.int z)] _ _ _
  refine tv_b (pc' := 2) (ls' := [some (.ref 80), some (.int x), some (.int y), some (.int z)]) (st' := [.int y, .int x]) (h' := (n, sl, wKK kk, I, L, wQQ q)) 2 rfl ?_
  refine tv_csE [.int x, .int y] [] rfl rfl (by omega) rfl (Nat.le_of_ble_eq_true rfl) (Nat.le_of_ble_eq_true rfl) (ev_m_areDays) ?_
  refine tv_b (pc' := (if (sp_m_areDays x y) = 0 then 8 else 12)) (ls' := [some (.ref 80), some (.int x), some (.int y), some (.int z)]) (st' := []) (h' := (n, sl, wKK kk, I, L, wQQ q)) 1 rfl ?_
  refine tv_t (hx) ?_
  refine tv_b (pc' := 11) (ls' := [some (.ref 80), some (.int x), some (.int y), some (.int z)]) (st' := [.long (-2000000000)]) (h' := (n, sl, wKK kk, I, L, wQQ q)) 1 rfl ?_
  exact tv_rl rfl ⟨rfl, rfl⟩
theorem ev_x_oddO {d n sl : Nat} {kk : Nat → Nat × Nat} {I : Nat → Nat → Int32} {L : Nat → Nat → Int64} {q : Nat → Nat → Option Nat} {x y : Int32} (hx : sp_areDays x y = 0) : am_Ev (d + 2) 135 0 (am_ent 3 [.ref 0, .int x, .int y]) [] (n, sl, wKK kk, I, L, wQQ q) (some (.int (-1)), (n, sl, wKK kk, I, L, wQQ q)) := by
  refine tv_ev ?_
  show am_T _ _ 0 [some (.ref 0), some (.int x), some (.int y)] _ _ _
  refine tv_b (pc' := 2) (ls' := [some (.ref 0), some (.int x), some (.int y)]) (st' := [.int y, .int x]) (h' := (n, sl, wKK kk, I, L, wQQ q)) 2 rfl ?_
  refine tv_csE [.int x, .int y] [] rfl rfl (by omega) rfl (Nat.le_of_ble_eq_true rfl) (Nat.le_of_ble_eq_true rfl) (ev_areDays) ?_
  refine tv_b (pc' := (if (sp_areDays x y) = 0 then 8 else 10)) (ls' := [some (.ref 0), some (.int x), some (.int y)]) (st' := []) (h' := (n, sl, wKK kk, I, L, wQQ q)) 1 rfl ?_
  refine tv_t (hx) ?_
  refine tv_b (pc' := 9) (ls' := [some (.ref 0), some (.int x), some (.int y)]) (st' := [.int (-1)]) (h' := (n, sl, wKK kk, I, L, wQQ q)) 1 rfl ?_
  exact tv_ri rfl ⟨rfl, rfl⟩
theorem ev_m_oddO {d n sl : Nat} {kk : Nat → Nat × Nat} {I : Nat → Nat → Int32} {L : Nat → Nat → Int64} {q : Nat → Nat → Option Nat} {x y : Int32} (hx : sp_m_areDays x y = 0) : am_Ev (d + 3) 230 0 (am_ent 4 [.ref 80, .int x, .int y]) [] (n, sl, wKK kk, I, L, wQQ q) (some (.int (-1)), (n, sl, wKK kk, I, L, wQQ q)) := by
  refine tv_ev ?_
  show am_T _ _ 0 [some (.ref 80), some (.int x), some (.int y), none] _ _ _
  refine tv_b (pc' := 2) (ls' := [some (.ref 80), some (.int x), some (.int y), none]) (st' := [.int y, .int x]) (h' := (n, sl, wKK kk, I, L, wQQ q)) 2 rfl ?_
  refine tv_csE [.int x, .int y] [] rfl rfl (by omega) rfl (Nat.le_of_ble_eq_true rfl) (Nat.le_of_ble_eq_true rfl) (ev_m_areDays) ?_
  refine tv_b (pc' := (if (sp_m_areDays x y) = 0 then 8 else 10)) (ls' := [some (.ref 80), some (.int x), some (.int y), none]) (st' := []) (h' := (n, sl, wKK kk, I, L, wQQ q)) 1 rfl ?_
  refine tv_t (hx) ?_
  refine tv_b (pc' := 9) (ls' := [some (.ref 80), some (.int x), some (.int y), none]) (st' := [.int (-1)]) (h' := (n, sl, wKK kk, I, L, wQQ q)) 1 rfl ?_
  exact tv_ri rfl ⟨rfl, rfl⟩
