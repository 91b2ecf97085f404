/-! BREACHES, BREACH: both sides answer alike -/
def brS (n : Nat) (kk : Nat → Nat × Nat) (q : Nat → Nat → Option Nat) (I : Nat → Nat → Int32) (C : Nat) (ah : Nat → Nat) (M : Nat → List (Nat × Nat × List Nat)) (J : Nat → Nat → Int32) (K : Nat → Nat → Int64) : Prop := gInv n kk q J K C ah M ∧ rE J I ∧ (∀ j, (j < 13 ∨ (57 ≤ j ∧ j < 80 ∧ j ≠ 60 ∧ j ≠ 63) ∨ (80 ≤ j ∧ j ≠ 117 ∧ j ≠ 118)) → J j = I j) ∧ J 55 = I 55 ∧ J 13 12 = I 13 12 ∧ J 60 10 = I 55 4 ∧ J 60 11 = I 13 12 ∧ J 60 9 = nI (brl I M C).length ∧ ∀ i, i < (brl I M C).length → J 63 i = nI ((brl I M C).getD i 0)
theorem brk_c {k : Nat} {n sl C : Nat} {kk : Nat → Nat × Nat} {q : Nat → Nat → Option Nat} {I : Nat → Nat → Int32} {L : Nat → Nat → Int64} {ah : Nat → Nat} {M : Nat → List (Nat × Nat × List Nat)} (hk : k ≤ 512) (g : gInv n kk q I L C ah M) (hj : jInv (201 * k) I C M) : ∃ J0 K0, (∀ d, am_Ev (d + 5) 27 0 (am_ent 3 [.ref 13, .int (nI 400)]) [] (n, sl, wKK kk, I, L, wQQ q) (none, (n, sl, wKK kk, J0, K0, wQQ q))) ∧ am_T 8 50 0 (am_ent 3 [.ref 60]) [] (n, sl, wKK kk, J0, K0, wQQ q) (fun rv h' => rv = none ∧ ∃ J K, h' = (n, sl, wKK kk, J, K, wQQ q) ∧ brS n kk q I C ah M J K) := by
  obtain ⟨g1, r1, f1, r80, r55, r13, ⟨k1, k2⟩, hp1, h14⟩ := reach_g g (D := 400) (by omega)
  have er := fun d => ev_d_reach (d := d) (n := n) (sl := sl) (k := kk) (q := q) (L := L) (D := 400) (by omega) k1 k2 h14
  generalize sI_d_reach 400 I L = J0 at g1 r1 f1 r80 r55 r13 hp1 er
  generalize sL_d_reach 400 I L = K0 at g1 r1 f1 er
  refine ⟨J0, K0, er, ?_⟩
  have hE : rE J0 I := ⟨fun j j1 j2 => r80 j (by omega), by rw [r80 80 (by decide)], by rw [r80 80 (by decide)]⟩
  have hbr : brl J0 M C = brl I M C := brl_E hE C
  refine tv_hI fb_self ?_
  refine tv_w (tv_findB g1 r1 ?_) (fun rv h' ho => ?_)
  · rw [hbr, r55, r13, f1.1 60 (by decide) (by decide), f1.1 63 (by decide) (by decide)]
    intro e1 e2
    obtain ⟨u, v, h1, h2, h3, h4, h5⟩ := hj
    rcases h5 with h5 | ⟨u0, v0, q1, q2, q3, q4, q5⟩
    · rw [h5, h1] at e1
      have e := congrArg Int32.toInt e1
      rw [nI_j, jI_toInt ⟨by omega, by omega⟩] at e
      have : (-1 : Int32).toInt = -1 := rfl
      omega
    · rw [q3, h1] at e1
      rw [q4, h2] at e2
      exact q5 ((nI_eqI (by omega) (by omega)).mp e1) ((nI_eqI (by omega) (by omega)).mp e2)
  · obtain ⟨rfl, J, K, rfl, p1, p2, p3, p4, p5, p6, p7⟩ := ho
    rw [hbr] at p4 p5
    have lo : ∀ j, j ≠ 60 → j ≠ 63 → 80 ≤ j → J j = I j := fun j j1 j2 j3 => (p1 j j1 j2).trans (r80 j j3)
    refine ⟨rfl, J, K, rfl, gInv_k g1 (fun j hj => p1 j (by omega) (by omega)) (fun j hj => p1 j (by omega) (by omega)) ⟨fun j j1 j2 => p1 j (by omega) (by omega), by rw [p1 80 (by decide) (by decide)], by rw [p1 80 (by decide) (by decide)]⟩ (fun j hj => by rw [p1 82 (by decide) (by decide)]) (fun j hj => by rw [p1 83 (by decide) (by decide), p1 84 (by decide) (by decide), p1 85 (by decide) (by decide), p1 86 (by decide) (by decide)]; exact ⟨rfl, rfl, rfl, rfl⟩) (fun j hj => by rw [p1 87 (by decide) (by decide)]) (fun j hj => p3 j (by omega) (by omega) (by omega)), ⟨fun j j1 j2 => lo j (by omega) (by omega) (by omega), by rw [lo 80 (by decide) (by decide) (by decide)], by rw [lo 80 (by decide) (by decide) (by decide)]⟩, fun j hj => ?_, by rw [p1 55 (by decide) (by decide), r55], by rw [p1 13 (by decide) (by decide), r13], by rw [p6, r55], by rw [p7, r13], p4, p5⟩
    rcases hj with z | z | z
    · rw [p1 j (by omega) (by omega)]; exact f1.2.1 j z
    · rw [p1 j z.2.2.1 z.2.2.2]; exact f1.1 j z.1 z.2.1
    · exact lo j (by omega) (by omega) z.1
theorem brk_m {n sl C : Nat} {kk : Nat → Nat × Nat} {q : Nat → Nat → Option Nat} {I J : Nat → Nat → Int32} {K : Nat → Nat → Int64} {ah : Nat → Nat} {M : Nat → List (Nat × Nat × List Nat)} (h : brS n kk q I C ah M J K) : ∃ J3 K3, (∀ d, am_Ev (d + 4) 208 0 (am_ent 2 [.ref 80]) [] (n, sl, wKK kk, J, K, wQQ q) (none, (n, sl, wKK kk, J3, K3, wQQ q))) ∧ wfT J3 ∧ wfB J3 ∧ mPl J3 K3 ∧ mCode J3 M ∧ rE J3 I ∧ ∀ K1, kP K3 K1 → brS n kk q I C ah M J3 K1 := by
  obtain ⟨g, hE, b1, b2, b3, b4, b5, b6, b7⟩ := h
  have gB1 := g.2.1
  obtain ⟨hn1, hn2⟩ := now_N (L := K) gB1
  have hC2 := gB1.1.2
  obtain ⟨g2, hP, f2, p2, hp2⟩ := play_g g
  have ep := fun d => ev_m_play (d := d) (n := n) (sl := sl) (k := kk) (q := q) (I := J) (L := K) (by rw [now_cl gB1]; exact hn1) (by rw [now_cl gB1]; omega) (gx_ok gB1) (gl_ok gB1)
  generalize sI_m_play J K = J3 at g2 hP f2 p2 hp2 ep
  generalize sL_m_play J K = K3 at g2 hP f2 ep
  have hE3 : rE J3 I := ⟨fun j i1 i2 => by rw [p2 j (by omega) (by omega), hE.1 j i1 i2], by rw [p2 80 (by decide) (by decide), hE.2.1], by rw [p2 80 (by decide) (by decide), hE.2.2]⟩
  obtain ⟨gT3, gB3, gG3, gc3, gm3, gn3⟩ := g2
  refine ⟨J3, K3, ep, gT3, gB3, hP, gm3, hE3, fun K1 hK => ⟨⟨gT3, gB3, cGr_m (Nat.le_refl _) (fun _ _ => rfl) rfl (fun _ _ => rfl) (fun _ _ _ => rfl) (fun j hj => hK.1 j (by omega) (by omega) (by omega)) gG3, gc3, gm3, gn3⟩, hE3, fun j hj => ?_, by rw [p2 55 (by decide) (by decide)]; exact b2, by rw [p2 13 (by decide) (by decide)]; exact b3, by rw [p2 60 (by decide) (by decide)]; exact b4, by rw [p2 60 (by decide) (by decide)]; exact b5, by rw [p2 60 (by decide) (by decide)]; exact b6, by rw [p2 63 (by decide) (by decide)]; exact b7⟩⟩
  rw [p2 j (by omega) (by omega)]
  exact b1 j hj
theorem brk_fin {k : Nat} {n sl C : Nat} {kk : Nat → Nat × Nat} {q : Nat → Nat → Option Nat} {I J : Nat → Nat → Int32} {K : Nat → Nat → Int64} {ah : Nat → Nat} {M : Nat → List (Nat × Nat × List Nat)} {tx : Nat → Nat} {T : Nat} (hr : rInv kk I tx T) (ht : tInv I) (hu : uInv I) (hs : sInv I) (hc : cInv I) (hj : jInv (201 * k) I C M) (hn : n ≤ 131 + 2 * k) (hsl : sl ≤ 231806 + 820 * k) (h : brS n kk q I C ah M J K) : hInv (k + 1) (n, sl, wKK kk, J, K, wQQ q) := by
  obtain ⟨g, hE, b1, b2, b3, b4, b5, b6, b7⟩ := h
  have lo : ∀ j, (j < 13 ∨ (57 ≤ j ∧ j < 80 ∧ j ≠ 60 ∧ j ≠ 63) ∨ (80 ≤ j ∧ j ≠ 117 ∧ j ≠ 118)) → J j = I j := b1
  have hbr : brl J M C = brl I M C := brl_E hE C
  obtain ⟨u, v, h1, h2, h3, h4, _⟩ := hj
  have hjJ : jInv (201 * (k + 1)) J C M := ⟨u, v, by rw [b2]; exact h1, by rw [b3]; exact h2, by omega, by omega, Or.inr ⟨u, v, Nat.le_refl _, Nat.le_refl _, by rw [b4]; exact h1, by rw [b5]; exact h2, fun _ _ => by rw [hbr]; exact ⟨b6, b7⟩⟩⟩
  exact ⟨n, sl, kk, J, K, q, rfl, C, ah, M, tx, T, g, rInv_f (lo 57 (by decide)) (lo 58 (by decide)) (lo 81 (by decide)) (by rw [lo 80 (by decide)]) (by rw [lo 80 (by decide)]) (by rw [lo 80 (by decide)]) (fun w _ => ⟨lo _ (by unfold am_B; omega), rfl⟩) hr, (by unfold tInv; rw [lo 3 (by decide), lo 5 (by decide), lo 6 (by decide), lo 101 (by decide), lo 102 (by decide), lo 103 (by decide)]; exact ht), (by unfold uInv; rw [lo 65 (by decide), lo 66 (by decide), lo 67 (by decide), lo 104 (by decide), lo 105 (by decide), lo 106 (by decide)]; exact hu), (by unfold sInv; rw [lo 71 (by decide), lo 72 (by decide), lo 73 (by decide), lo 75 (by decide), lo 80 (by decide), lo 121 (by decide), lo 122 (by decide), lo 124 (by decide)]; exact hs), (by unfold cInv; rw [lo 77 (by decide), lo 78 (by decide), lo 79 (by decide), lo 80 (by decide), lo 125 (by decide), lo 126 (by decide)]; exact hc), hjJ, by omega, sl_up hsl (by omega)⟩
theorem jx_breaches : jx 131 (am_ent 1 [.ref 0]) 223 (am_ent 3 [.ref 80]) := by
  rintro k h hk ⟨n, sl, kk, I, L, q, rfl, C, ah, M, tx, T, g, hr, ht, hu, hs, hc, hj, hn, hsl⟩
  have hC : nC I = C := g.2.2.1.2.2.1.2.1
  have hC2 : C ≤ 200 := by rw [← hC]; exact g.2.1.1.2
  have hnow : nNow I ≤ C := by rw [← hC]; exact (nNow_v g.2.1).2
  have hlen := brl_len (X := I) (M := M) C
  obtain ⟨J0, K0, er, ef⟩ := brk_c (sl := sl) hk g hj
  refine tv_up (d := 9) (by decide) ?_
  show am_T _ _ 0 [some (.ref 0)] _ _ _
  refine tv_b (pc' := 7) (ls' := [some (.ref 0)]) (st' := [.int 400, .ref 13]) (h' := (n, sl, wKK kk, I, L, wQQ q)) 3 rfl ?_
  refine tv_cvE [.int 400] [] rfl rfl (by omega) rfl (Nat.le_of_ble_eq_true rfl) (Nat.le_of_ble_eq_true rfl) (Or.inr (Or.inr rfl)) (er 3) ?_
  refine tv_b (pc' := 14) (ls' := [some (.ref 0)]) (st' := [.ref 60]) (h' := (n, sl, wKK kk, J0, K0, wQQ q)) 2 rfl ?_
  refine tv_cv [] [] rfl rfl (by omega) rfl (Nat.le_of_ble_eq_true rfl) (Nat.le_of_ble_eq_true rfl) (Or.inr (Or.inr rfl)) (ef) ?_
  rintro rv9 h9 ⟨rfl, J, K, rfl, hb⟩
  have ecnt : ∀ d', am_Ev d' 51 0 (am_ent 1 [.ref 60]) [] (n, sl, wKK kk, J, K, wQQ q) (some (.int (nI (brl I M C).length)), (n, sl, wKK kk, J, K, wQQ q)) := fun d' => by
    have e := ev_j_breachCount (d := d') (n := n) (sl := sl) (k := kk) (q := q) (I := J) (L := K)
    rw [show sp_j_breachCount J K = (nI (brl I M C).length) from hb.2.2.2.2.2.2.2.1] at e
    exact e
  refine tv_b (pc' := 21) (ls' := [some (.ref 0)]) (st' := [.ref 60]) (h' := (n, sl, wKK kk, J, K, wQQ q)) 2 rfl ?_
  refine tv_cvE [] [] rfl rfl (by omega) rfl (Nat.le_of_ble_eq_true rfl) (Nat.le_of_ble_eq_true rfl) (Or.inr (Or.inr rfl)) (ecnt _) ?_
  refine tv_ri rfl ⟨.int (nI (brl I M C).length), Or.inl ⟨_, rfl⟩, rfl, ?_⟩
  obtain ⟨J3, K3, ep, gT3, gB3, hP, gm3, hE3, hend⟩ := brk_m (sl := sl) hb
  have hnJ : brl J3 M (nNow J3) = brl I M C := by rw [brl_E hE3, (kn_c hE3).2.1, ← brl_now hnow]
  refine tv_up (d := 9) (by decide) ?_
  show am_T _ _ 0 [some (.ref 80), none, none] _ _ _
  refine tv_b (pc' := 1) (ls' := [some (.ref 80), none, none]) (st' := [.ref 80]) (h' := (n, sl, wKK kk, J, K, wQQ q)) 1 rfl ?_
  refine tv_cvE [] [] rfl rfl (by omega) rfl (Nat.le_of_ble_eq_true rfl) (Nat.le_of_ble_eq_true rfl) (Or.inr (Or.inr rfl)) (ep 4) ?_
  refine tv_b (pc' := 8) (ls' := [some (.ref 80), some (.int 0), some (.int 1)]) (st' := []) (h' := (n, sl, wKK kk, J3, K3, wQQ q)) 4 rfl ?_
  have hL := tv_m_brsL (sl := sl) (q := q) (kk := kk) (n := n) gT3 gB3 hP gm3 (nNow J3) 0 (Nat.zero_add _) K3 ⟨fun _ _ _ _ => rfl, fun _ _ _ => rfl⟩
  rw [hnJ] at hL
  refine tv_up (d := 8) (by decide) (tv_w hL (fun rv h2 ho => ?_))
  obtain ⟨rfl, K1, rfl, hK1⟩ := ho
  exact ⟨rfl, brk_fin hr ht hu hs hc hj hn hsl (hend K1 hK1)⟩
theorem jx_breach {x : Int32} : jx 132 (am_ent 2 [.ref 0, .int x]) 224 (am_ent 4 [.ref 80, .int x]) := by
  rintro k h hk ⟨n, sl, kk, I, L, q, rfl, C, ah, M, tx, T, g, hr, ht, hu, hs, hc, hj, hn, hsl⟩
  have hC : nC I = C := g.2.2.1.2.2.1.2.1
  have hC2 : C ≤ 200 := by rw [← hC]; exact g.2.1.1.2
  have hnow : nNow I ≤ C := by rw [← hC]; exact (nNow_v g.2.1).2
  have hlen := brl_len (X := I) (M := M) C
  obtain ⟨J0, K0, er, ef⟩ := brk_c (sl := sl) hk g hj
  refine tv_up (d := 9) (by decide) ?_
  have hv : ∀ (J : Nat → Nat → Int32) (K : Nat → Nat → Int64), J 60 9 = nI (brl I M C).length → (∀ i, i < (brl I M C).length → J 63 i = nI ((brl I M C).getD i 0)) → sp_j_breachAt x J K = (if x < 0 then -1 else if x.toInt.toNat < (brl I M C).length then nI ((brl I M C).getD x.toInt.toNat 0) else -1) := fun J K h1 h2 => by
    unfold sp_j_breachAt
    by_cases c : x < 0
    · rw [if_pos c, if_pos c]
    · rw [if_neg c, if_neg c, h1]
      have h0 : 0 ≤ x.toInt := by
        have : ¬ x.toInt < 0 := fun z => c (Int32.lt_iff_toInt_lt.mpr z)
        omega
      have hcl : x.toNatClampNeg = x.toInt.toNat := rfl
      by_cases z : x.toInt.toNat < (brl I M C).length
      · rw [if_neg (fun y => by
          have := Int32.le_iff_toInt_le.mp y
          rw [nI_j, jI_toInt ⟨by omega, by omega⟩] at this
          omega), if_neg (fun y => by
          have := Int32.le_iff_toInt_le.mp y
          have e : (200 : Int32).toInt = 200 := rfl
          omega), if_pos z, hcl, h2 _ z]
      · rw [if_pos (Int32.le_iff_toInt_le.mpr (by rw [nI_j, jI_toInt ⟨by omega, by omega⟩]; omega)), if_neg z]
  show am_T _ _ 0 [some (.ref 0), some (.int x)] _ _ _
  refine tv_b (pc' := 7) (ls' := [some (.ref 0), some (.int x)]) (st' := [.int 400, .ref 13]) (h' := (n, sl, wKK kk, I, L, wQQ q)) 3 rfl ?_
  refine tv_cvE [.int 400] [] rfl rfl (by omega) rfl (Nat.le_of_ble_eq_true rfl) (Nat.le_of_ble_eq_true rfl) (Or.inr (Or.inr rfl)) (er 3) ?_
  refine tv_b (pc' := 14) (ls' := [some (.ref 0), some (.int x)]) (st' := [.ref 60]) (h' := (n, sl, wKK kk, J0, K0, wQQ q)) 2 rfl ?_
  refine tv_cv [] [] rfl rfl (by omega) rfl (Nat.le_of_ble_eq_true rfl) (Nat.le_of_ble_eq_true rfl) (Or.inr (Or.inr rfl)) (ef) ?_
  rintro rv9 h9 ⟨rfl, J, K, rfl, hb⟩
  have eat : ∀ d', am_Ev d' 52 0 (am_ent 2 [.ref 60, .int x]) [] (n, sl, wKK kk, J, K, wQQ q) (some (.int (if x < 0 then -1 else if x.toInt.toNat < (brl I M C).length then nI ((brl I M C).getD x.toInt.toNat 0) else -1)), (n, sl, wKK kk, J, K, wQQ q)) := fun d' => by
    have e := ev_j_breachAt (d := d') (n := n) (sl := sl) (k := kk) (q := q) (I := J) (L := K) (x := x)
    rw [hv J K hb.2.2.2.2.2.2.2.1 hb.2.2.2.2.2.2.2.2] at e
    exact e
  refine tv_b (pc' := 22) (ls' := [some (.ref 0), some (.int x)]) (st' := [.int x, .ref 60]) (h' := (n, sl, wKK kk, J, K, wQQ q)) 3 rfl ?_
  refine tv_cvE [.int x] [] rfl rfl (by omega) rfl (Nat.le_of_ble_eq_true rfl) (Nat.le_of_ble_eq_true rfl) (Or.inr (Or.inr rfl)) (eat _) ?_
  refine tv_ri rfl ⟨.int (if x < 0 then -1 else if x.toInt.toNat < (brl I M C).length then nI ((brl I M C).getD x.toInt.toNat 0) else -1), Or.inl ⟨_, rfl⟩, rfl, ?_⟩
  obtain ⟨J3, K3, ep, gT3, gB3, hP, gm3, hE3, hend⟩ := brk_m (sl := sl) hb
  have hnJ : brl J3 M (nNow J3) = brl I M C := by rw [brl_E hE3, (kn_c hE3).2.1, ← brl_now hnow]
  refine tv_up (d := 9) (by decide) ?_
  show am_T _ _ 0 [some (.ref 80), some (.int x), none, none] _ _ _
  refine tv_b (pc' := 1) (ls' := [some (.ref 80), some (.int x), none, none]) (st' := [.ref 80]) (h' := (n, sl, wKK kk, J, K, wQQ q)) 1 rfl ?_
  refine tv_cvE [] [] rfl rfl (by omega) rfl (Nat.le_of_ble_eq_true rfl) (Nat.le_of_ble_eq_true rfl) (Or.inr (Or.inr rfl)) (ep 4) ?_
  refine tv_b (pc' := 8) (ls' := [some (.ref 80), some (.int x), some (.int x), some (.int 1)]) (st' := []) (h' := (n, sl, wKK kk, J3, K3, wQQ q)) 4 rfl ?_
  by_cases hx : x < 0
  · rw [if_pos hx]
    have hend3 := hend K3 ⟨fun _ _ _ _ => rfl, fun _ _ _ => rfl⟩
    have en : ∀ d', am_Ev d' 198 0 (am_ent 1 [.ref 80]) [] (n, sl, wKK kk, J3, K3, wQQ q) (some (.int (nI (nNow J3))), (n, sl, wKK kk, J3, K3, wQQ q)) := fun d' => by
      have e := ev_m_now (d := d') (n := n) (sl := sl) (k := kk) (q := q) (I := J3) (L := K3)
      rw [(now_N gB3).1] at e
      exact e
    have hn2 := (nNow_v gB3).2
    have hn3 := gB3.1.2
    refine tv_b (pc' := 10) (ls' := [some (.ref 80), some (.int x), some (.int x), some (.int 1)]) (st' := [.ref 80, .int 1]) (h' := (n, sl, wKK kk, J3, K3, wQQ q)) 2 rfl ?_
    refine tv_cvE [] [.int 1] rfl rfl (by omega) rfl (Nat.le_of_ble_eq_true rfl) (Nat.le_of_ble_eq_true rfl) (Or.inr (Or.inr rfl)) (en _) ?_
    refine tv_b (pc' := (if (nI (nNow J3)) < 1 then 46 else 16)) (ls' := [some (.ref 80), some (.int x), some (.int x), some (.int 1)]) (st' := []) (h' := (n, sl, wKK kk, J3, K3, wQQ q)) 1 rfl ?_
    refine tv_ifq (nI_ltI (a := (nNow J3)) (b := 1) (by omega) (by omega)) (fun c13 => ?_) (fun c13 => ?_)
    · refine tv_b (pc' := 47) (ls' := [some (.ref 80), some (.int x), some (.int x), some (.int 1)]) (st' := [.int (-1)]) (h' := (n, sl, wKK kk, J3, K3, wQQ q)) 1 rfl ?_
      exact tv_ri rfl ⟨rfl, brk_fin hr ht hu hs hc hj hn hsl hend3⟩
    · refine tv_b (pc' := (if x < 0 then 46 else 20)) (ls' := [some (.ref 80), some (.int x), some (.int x), some (.int 1)]) (st' := []) (h' := (n, sl, wKK kk, J3, K3, wQQ q)) 2 rfl ?_
      refine tv_t (hx) ?_
      refine tv_b (pc' := 47) (ls' := [some (.ref 80), some (.int x), some (.int x), some (.int 1)]) (st' := [.int (-1)]) (h' := (n, sl, wKK kk, J3, K3, wQQ q)) 1 rfl ?_
      exact tv_ri rfl ⟨rfl, brk_fin hr ht hu hs hc hj hn hsl hend3⟩
  · rw [if_neg hx]
    have h0 : 0 ≤ x.toInt := by
      have : ¬ x.toInt < 0 := fun z => hx (Int32.lt_iff_toInt_lt.mpr z)
      omega
    have hx31 := x.toInt_lt
    have hL := tv_m_brL (sl := sl) (q := q) (kk := kk) (n := n) gT3 gB3 hP gm3 (T := x.toInt.toNat) (by omega) (nNow J3) 0 (Nat.zero_add _) (Nat.zero_le _) K3 ⟨fun _ _ _ _ => rfl, fun _ _ _ => rfl⟩
    rw [hnJ] at hL
    rw [show x.toInt.toNat - (brl J3 M 0).length = x.toInt.toNat from rfl, ← x_nI h0] at hL
    refine tv_up (d := 8) (by decide) (tv_w hL (fun rv h2 ho => ?_))
    obtain ⟨rfl, K1, rfl, hK1⟩ := ho
    exact ⟨rfl, brk_fin hr ht hu hs hc hj hn hsl (hend K1 hK1)⟩
