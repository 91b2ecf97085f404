/-! THE CLASS GATHERS THE READINGS -/
theorem uL_e {f : Nat → Int64} {i : Nat} {x : Int64} : vp_updL f i x i = x := if_pos rfl
theorem uL_n {f : Nat → Int64} {i j : Nat} {x : Int64} (h : j ≠ i) : vp_updL f i x j = f j := if_neg h
theorem gaI_o {I : Nat → Nat → Int32} {ct : Int32} {r : Nat → Int32} {j : Nat} (h1 : j ≠ 64) (h2 : j ≠ 68) : gaI I ct r j = I j := by
  funext i
  unfold gaI
  rw [gaI_nb h1, gaI_nb h2]
  rfl
theorem gaL_o {L : Nat → Nat → Int64} {a b c e : Int64} {r s : Nat → Int64} {j : Nat} (h1 : j ≠ 64) (h2 : j ≠ 69) (h3 : j ≠ 70) : gaL L a b c e r s j = L j := by
  funext i
  unfold gaL
  rw [gaL_nb h1, gaL_nb h2, gaL_nb h3]
  rfl
theorem gaL_70 {L : Nat → Nat → Int64} {a b c e : Int64} {r s : Nat → Int64} {i : Nat} : gaL L a b c e r s 70 i = s i := rfl
theorem rd_b {n C : Nat} {kk : Nat → Nat × Nat} {q : Nat → Nat → Option Nat} {I : Nat → Nat → Int32} {L : Nat → Nat → Int64} {ah : Nat → Nat} {M : Nat → List (Nat × Nat × List Nat)} {F T : Nat} (g : gInv n kk q I L C ah M) (hu : uInv I) (hF : F ≤ T) (hT4 : T < 400) : ∀ n, rdB I F T n = true → (-9000000000 ≤ loZ I F n ∧ loZ I F n ≤ 9000000000) ∧ (-9000000000 ≤ hiZ I F n ∧ hiZ I F n ≤ 9000000000) := by
  intro m hm
  obtain ⟨h1, h2, h3, h4⟩ := of_decide_eq_true hm
  have hC : nC I = C := g.2.2.1.2.2.1.2.1
  have hk := of_decide_eq_true h1
  have hnn := (nNow_v g.2.1).2
  have p1 := (pS_b g.1 g.2.1 (dyN I m) (by omega)).2
  have p2 := (pS_b g.1 g.2.1 F (by omega)).2
  have r1 := (rgt I m).toInt_lt
  have r2 := (rgt I m).le_toInt
  obtain ⟨_, _, w2, w3⟩ := g.2.1.2.2 m hk.1 (by omega)
  have hcl : clN I m < 4 := by
    rcases w3 with w | w | w | w | w | w
    · exact absurd (h2.symm.trans w.1) (by decide)
    · exact absurd (h2.symm.trans w.1) (by decide)
    · exact absurd (h2.symm.trans w.1) (by decide)
    · exact w.2.2.1
    · exact absurd (h2.symm.trans w) (by decide)
    · exact absurd (h2.symm.trans w) (by decide)
  have hn := (hu _ hcl).2.2.2
  unfold loZ hiZ
  omega
def gaE (I : Nat → Nat → Int32) (F T k : Nat) (r68 : Nat → Int32) (r69 r70 : Nat → Int64) : Prop := ∀ i, i < (rdl I F T k).length → r68 i = nI ((rdl I F T k).getD i 0) ∧ r69 i = jL (loZ I F ((rdl I F T k).getD i 0)) ∧ r70 i = jL (hiZ I F ((rdl I F T k).getD i 0))
theorem gaE_s {I : Nat → Nat → Int32} {F T k : Nat} {r68 : Nat → Int32} {r69 r70 : Nat → Int64} (h : gaE I F T k r68 r69 r70) (hb : rdB I F T (k + 1) = true) : gaE I F T (k + 1) (upd r68 (rdl I F T k).length (nI (k + 1))) (vp_updL r69 (rdl I F T k).length (jL (loZ I F (k + 1)))) (vp_updL r70 (rdl I F T k).length (jL (hiZ I F (k + 1)))) := by
  intro i hi
  rw [rdl_s hb] at hi ⊢
  rw [List.length_append] at hi
  have hi2 : i < (rdl I F T k).length + 1 := hi
  by_cases z : i = (rdl I F T k).length
  · subst z
    have e : (rdl I F T k ++ [k + 1]).getD (rdl I F T k).length 0 = k + 1 := getD_r (a := rdl I F T k) (b := [k + 1]) (j := 0)
    rw [e, upd_e, uL_e, uL_e]
    exact ⟨rfl, rfl, rfl⟩
  · rw [getD_l (by omega), upd_n z, uL_n z, uL_n z]
    exact h i (by omega)
theorem gaE_n {I : Nat → Nat → Int32} {F T k : Nat} {r68 : Nat → Int32} {r69 r70 : Nat → Int64} (h : gaE I F T k r68 r69 r70) (hb : ¬ rdB I F T (k + 1) = true) : gaE I F T (k + 1) r68 r69 r70 := by
  unfold gaE
  rw [rdl_n hb]
  exact h
theorem w_0n {I : Nat → Nat → Int32} {F T k : Nat} (hb : ¬ rdB I F T (k + 1) = true) : mxw I F T 0 (k + 1) = mxw I F T 0 k ∧ mnw I F T 0 (k + 1) = mnw I F T 0 k ∧ sxw I F T (k + 1) = sxw I F T k ∧ snw I F T (k + 1) = snw I F T k ∧ rdl I F T (k + 1) = rdl I F T k := ⟨(w_n (fun z => hb z.1)).1, (w_n (fun z => hb z.1)).2.1, if_neg hb, if_neg hb, rdl_n hb⟩
set_option maxHeartbeats 4000000 in
theorem tv_ga {n sl C : Nat} {kk : Nat → Nat × Nat} {q : Nat → Nat → Option Nat} {I : Nat → Nat → Int32} {L : Nat → Nat → Int64} {ah : Nat → Nat} {M : Nat → List (Nat × Nat × List Nat)} {F T : Nat} (g : gInv n kk q I L C ah M) (ht : tInv I) (hu : uInv I) (hF : F ≤ T) (hT4 : T < 400) (hr : ∀ E, E ≤ T → cRow I L I E) : ∀ m k : Nat, k + m = C → ∀ (r68 : Nat → Int32) (r69 r70 : Nat → Int64) (o4 o5 o6 o7 o8 : Option Value), gaE I F T k r68 r69 r70 → am_T 6 43 35 [some (.ref 64), some (.int (nI F)), some (.int (nI T)), some (.int (nI (k + 1))), o4, o5, o6, o7, o8] [] (n, sl, wKK kk, (gaI I (nI ((rdl I F T k).length)) r68), (gaL L (jL (mxw I F T 0 k)) (jL (sxw I F T k)) (jL (mnw I F T 0 k)) (jL (snw I F T k)) r69 r70), wQQ q) (fun rv h' => rv = none ∧ ∃ r68' r69' r70', h' = (n, sl, wKK kk, (gaI I (nI ((rdl I F T C).length)) r68'), (gaL L (jL (mxw I F T 0 C)) (jL (sxw I F T C)) (jL (mnw I F T 0 C)) (jL (snw I F T C)) r69' r70'), wQQ q) ∧ gaE I F T C r68' r69' r70') := by
  have gT := g.1
  have gB := g.2.1
  have hwb := w_b (X := I) (F := F) (T := T) (b := 0) (rd_b g hu hF hT4)
  obtain ⟨⟨b1, b2, b3⟩, b4, b5, b6, b7, b8⟩ := g.2.2.1.2.2.1
  have hC2 : C ≤ 200 := by rw [← b4]; exact gB.1.2
  have h2 : I 55 2 = nI C := by rw [b6, gB.1.1, b4]
  have es : ∀ (d' : Nat) (I' : Nat → Nat → Int32) (L' : Nat → Nat → Int64), I' 55 = I 55 → am_Ev d' 5 0 (am_ent 1 [.ref 55]) [] (n, sl, wKK kk, I', L', wQQ q) (some (.int (nI C)), (n, sl, wKK kk, I', L', wQQ q)) := fun d' I' L' h => by
    have e := ev_b_size (d := d') (n := n) (sl := sl) (k := kk) (q := q) (I := I') (L := L')
    rw [show sp_b_size I' L' = nI C by unfold sp_b_size; rw [h]; exact h2] at e
    exact e
  have eln : ∀ (d' D : Nat) (I' : Nat → Nat → Int32) (L' : Nat → Nat → Int64), I' 52 = I 52 → D ≤ T → am_Ev (d' + 1) 28 0 (am_ent 2 [.ref 13, .int (nI D)]) [] (n, sl, wKK kk, I', L', wQQ q) (some (.int (jI (pS I D).2)), (n, sl, wKK kk, I', L', wQQ q)) := fun d' D I' L' h hD => by
    have e := ev_d_leanAt (d := d') (n := n) (sl := sl) (k := kk) (q := q) (I := I') (L := L') (x := nI D)
    rw [show sp_d_leanAt (nI D) I' L' = jI (pS I D).2 by
      unfold sp_d_leanAt
      rw [if_neg (wi_0400 (by omega)), nI_clamp (by omega), h]
      exact (hr D hD).1] at e
    exact e
  intro m
  induction m with
  | zero =>
    intro k hk r68 r69 r70 o4 o5 o6 o7 o8 hE
    have hk2 : k = C := by omega
    subst hk2
    show am_T _ _ 35 [some (.ref 64), some (.int (nI F)), some (.int (nI T)), some (.int (nI (k + 1))), o4, o5, o6, o7, o8] _ _ _
    refine tv_b (pc' := 40) (ls' := [some (.ref 64), some (.int (nI F)), some (.int (nI T)), some (.int (nI (k + 1))), o4, o5, o6, o7, o8]) (st' := [.ref 55, .int (nI (k + 1))]) (h' := (n, sl, wKK kk, (gaI I (nI ((rdl I F T k).length)) r68), (gaL L (jL (mxw I F T 0 k)) (jL (sxw I F T k)) (jL (mnw I F T 0 k)) (jL (snw I F T k)) r69 r70), wQQ q)) 3 rfl ?_
    refine tv_cvE [] [.int (nI (k + 1))] rfl rfl (by omega) rfl (Nat.le_of_ble_eq_true rfl) (Nat.le_of_ble_eq_true rfl) (Or.inr (Or.inr rfl)) (es _ _ _ (gaI_o (by decide) (by decide))) ?_
    refine tv_b (pc' := (if (nI k) < (nI (k + 1)) then 240 else 46)) (ls' := [some (.ref 64), some (.int (nI F)), some (.int (nI T)), some (.int (nI (k + 1))), o4, o5, o6, o7, o8]) (st' := []) (h' := (n, sl, wKK kk, (gaI I (nI ((rdl I F T k).length)) r68), (gaL L (jL (mxw I F T 0 k)) (jL (sxw I F T k)) (jL (mnw I F T 0 k)) (jL (snw I F T k)) r69 r70), wQQ q)) 1 rfl ?_
    refine tv_t ((nI_ltI (a := k) (b := (k + 1)) (by omega) (by omega)).mpr (by omega)) ?_
    exact tv_rv rfl ⟨rfl, r68, r69, r70, rfl, hE⟩
  | succ m ih =>
    intro k hk r68 r69 r70 o4 o5 o6 o7 o8 hE
    have hkC : k < C := by omega
    have hlen := (rdl_len (X := I) (F := F) (T := T) k).2
    have hah := b1 k hkC
    have j55 : ∀ ct r, gaI I ct r 55 2 = nI C := fun ct r => by rw [gaI_o (by decide) (by decide)]; exact h2
    have ha : ∀ ct r, gaI I ct r (ah k) = I (ah k) := fun ct r => gaI_o (by omega) (by omega)
    have a0 := (b5 k hkC).1
    have hkf := b8 k hkC
    have ekn : ∀ (d' : Nat) (ct : Int32) (r : Nat → Int32) (L' : Nat → Nat → Int64), am_Ev d' 2 0 (am_ent 2 [.ref (ah k), .int 3]) [] (n, sl, wKK kk, gaI I ct r, L', wQQ q) (some (.int (if kn I (k + 1) = true ∧ I 107 (k + 1) = 3 then 1 else 0)), (n, sl, wKK kk, gaI I ct r, L', wQQ q)) := fun d' ct r L' => by
      have e := ev_a_isKnown (d := d') (n := n) (sl := sl) (k := kk) (q := q) (I := gaI I ct r) (L := L') (a := ah k) (s := 3) hah.2
      have hv : sp_a_isKnown (ah k) 3 (gaI I ct r) L' = (if kn I (k + 1) = true ∧ I 107 (k + 1) = 3 then 1 else 0) := by
        unfold sp_a_isKnown
        rw [ha, hkf, a0]
        cases hq : kn I (k + 1) with
        | false => rw [if_pos (show bz false = 0 from rfl), if_neg (fun z => absurd z.1 (by decide))]
        | true =>
          rw [if_neg (show ¬ bz true = 0 by decide)]
          by_cases z : I 107 (k + 1) = 3
          · rw [if_pos z, if_pos ⟨rfl, z⟩]
          · rw [if_neg z, if_neg (fun y => z y.2)]
      rw [hv] at e
      exact e
    by_cases hkr : kn I (k + 1) = true ∧ I 107 (k + 1) = 3
    · rw [if_pos hkr] at ekn
      obtain ⟨hkn, h3⟩ := hkr
      obtain ⟨v1, v2, v3, v4, v5, v6, v7⟩ := right_v (L := L) g ht hu hkC h3
      have e1 : ∀ ct r, gaI I ct r (ah k) 1 = nI (dyN I (k + 1)) := fun ct r => by rw [ha]; exact v5
      have e3 : ∀ ct r, gaI I ct r (ah k) 3 = nI (clN I (k + 1)) := fun ct r => by rw [ha]; exact v2
      have hgn : ¬ sp_isGauge (nI (clN I (k + 1))) = 0 := (nn_iff ar_gauge).mpr (by rw [nI_j, jI_toInt ⟨by omega, by omega⟩]; omega)
      have epr : ∀ (d' : Nat) (ct : Int32) (r : Nat → Int32) (L' : Nat → Nat → Int64), am_Ev (d' + 2) 42 0 (am_ent 3 [.ref 64, .ref (ah k)]) [] (n, sl, wKK kk, gaI I ct r, L', wQQ q) (some (.int (rgt I (k + 1))), (n, sl, wKK kk, gaI I ct r, L', wQQ q)) := fun d' ct r L' => by
        have e := ev_g_putRight (d := d') (n := n) (sl := sl) (k := kk) (q := q) (I := gaI I ct r) (L := L') hah.2
        have hv : sp_g_putRight (ah k) (gaI I ct r) L' = rgt I (k + 1) := by
          have hs : sp_g_putRight (ah k) (gaI I ct r) L' = sp_g_putRight (ah k) I L := by
            unfold sp_g_putRight sp_warm_on
            rw [ha, gaI_o (j := 65) (by decide) (by decide), gaI_o (j := 66) (by decide) (by decide), gaI_o (j := 5) (by decide) (by decide)]
          rw [hs, v1]
          rfl
        rw [hv] at e
        exact e
      have hng := (hu _ v3).1.2.2
      have hl0 : ∀ D, D ≤ T → bI (pS I D).2 := fun D hD => by
        have := (pS_b gT gB D (by omega)).2
        exact ⟨by omega, by omega⟩
      show am_T _ _ 35 [some (.ref 64), some (.int (nI F)), some (.int (nI T)), some (.int (nI (k + 1))), o4, o5, o6, o7, o8] _ _ _
      refine tv_b (pc' := 40) (ls' := [some (.ref 64), some (.int (nI F)), some (.int (nI T)), some (.int (nI (k + 1))), o4, o5, o6, o7, o8]) (st' := [.ref 55, .int (nI (k + 1))]) (h' := (n, sl, wKK kk, (gaI I (nI ((rdl I F T k).length)) r68), (gaL L (jL (mxw I F T 0 k)) (jL (sxw I F T k)) (jL (mnw I F T 0 k)) (jL (snw I F T k)) r69 r70), wQQ q)) 3 rfl ?_
      refine tv_cvE [] [.int (nI (k + 1))] rfl rfl (by omega) rfl (Nat.le_of_ble_eq_true rfl) (Nat.le_of_ble_eq_true rfl) (Or.inr (Or.inr rfl)) (es _ _ _ (gaI_o (by decide) (by decide))) ?_
      refine tv_b (pc' := (if (nI C) < (nI (k + 1)) then 240 else 46)) (ls' := [some (.ref 64), some (.int (nI F)), some (.int (nI T)), some (.int (nI (k + 1))), o4, o5, o6, o7, o8]) (st' := []) (h' := (n, sl, wKK kk, (gaI I (nI ((rdl I F T k).length)) r68), (gaL L (jL (mxw I F T 0 k)) (jL (sxw I F T k)) (jL (mnw I F T 0 k)) (jL (snw I F T k)) r69 r70), wQQ q)) 1 rfl ?_
      refine tv_f (fun hq => absurd ((nI_ltI (a := C) (b := (k + 1)) (by omega) (by omega)).mp hq) (by omega)) ?_
      refine tv_b (pc' := 51) (ls' := [some (.ref 64), some (.int (nI F)), some (.int (nI T)), some (.int (nI (k + 1))), o4, o5, o6, o7, o8]) (st' := [.int (nI (k + 1)), .ref 55]) (h' := (n, sl, wKK kk, (gaI I (nI ((rdl I F T k).length)) r68), (gaL L (jL (mxw I F T 0 k)) (jL (sxw I F T k)) (jL (mnw I F T 0 k)) (jL (snw I F T k)) r69 r70), wQQ q)) 3 rfl ?_
      refine tv_cvE [.int (nI (k + 1))] [] rfl rfl (by omega) rfl (Nat.le_of_ble_eq_true rfl) (Nat.le_of_ble_eq_true rfl) (Or.inr (Or.inr rfl)) (ev_b_act b1 (j55 _ _) hC2 hkC) ?_
      refine tv_b (pc' := 64) (ls' := [some (.ref 64), some (.int (nI F)), some (.int (nI T)), some (.int (nI (k + 1))), some (.ref (ah k)), o5, o6, o7, o8]) (st' := [.int 3, .ref (ah k)]) (h' := (n, sl, wKK kk, (gaI I (nI ((rdl I F T k).length)) r68), (gaL L (jL (mxw I F T 0 k)) (jL (sxw I F T k)) (jL (mnw I F T 0 k)) (jL (snw I F T k)) r69 r70), wQQ q)) 5 rfl ?_
      refine tv_cvE [.int 3] [] rfl rfl (by omega) rfl (Nat.le_of_ble_eq_true rfl) (Nat.le_of_ble_eq_true rfl) (Or.inr (Or.inr (am_acK hah.2))) (ekn _ _ _ _) ?_
      refine tv_b (pc' := 72) (ls' := [some (.ref 64), some (.int (nI F)), some (.int (nI T)), some (.int (nI (k + 1))), some (.ref (ah k)), o5, o6, o7, o8]) (st' := [.ref (ah k)]) (h' := (n, sl, wKK kk, (gaI I (nI ((rdl I F T k).length)) r68), (gaL L (jL (mxw I F T 0 k)) (jL (sxw I F T k)) (jL (mnw I F T 0 k)) (jL (snw I F T k)) r69 r70), wQQ q)) 2 rfl ?_
      refine tv_gfa rfl (Or.inl rfl) (am_acK hah.2) ?_
      refine tv_top (e1 _ _) ?_
      refine tv_b (pc' := (if (nI (dyN I (k + 1))) < (nI F) then 234 else 79)) (ls' := [some (.ref 64), some (.int (nI F)), some (.int (nI T)), some (.int (nI (k + 1))), some (.ref (ah k)), o5, o6, o7, o8]) (st' := []) (h' := (n, sl, wKK kk, (gaI I (nI ((rdl I F T k).length)) r68), (gaL L (jL (mxw I F T 0 k)) (jL (sxw I F T k)) (jL (mnw I F T 0 k)) (jL (snw I F T k)) r69 r70), wQQ q)) 2 rfl ?_
      refine tv_ifq (nI_ltI (a := (dyN I (k + 1))) (b := F) (by omega) (by omega)) (fun c76 => ?_) (fun c76 => ?_)
      · refine tv_iincN (k := (k + 1)) (ls' := [some (.ref 64), some (.int (nI F)), some (.int (nI T)), some (.int (nI ((k + 1) + 1))), some (.ref (ah k)), o5, o6, o7, o8]) rfl rfl rfl ?_
        refine tv_b (pc' := 35) (ls' := [some (.ref 64), some (.int (nI F)), some (.int (nI T)), some (.int (nI ((k + 1) + 1))), some (.ref (ah k)), o5, o6, o7, o8]) (st' := []) (h' := (n, sl, wKK kk, (gaI I (nI ((rdl I F T k).length)) r68), (gaL L (jL (mxw I F T 0 k)) (jL (sxw I F T k)) (jL (mnw I F T 0 k)) (jL (snw I F T k)) r69 r70), wQQ q)) 1 rfl ?_
        have hnb : ¬ rdB I F T (k + 1) = true := fun z => by
          have y := of_decide_eq_true z
          omega
        obtain ⟨q1, q2, q3, q4, q5⟩ := w_0n hnb
        have hq := ih (k + 1) (by omega) r68 r69 r70 (some (.ref (ah k))) o5 o6 o7 o8 (gaE_n hE hnb)
        rw [q1, q2, q3, q4, q5] at hq
        exact hq
      · refine tv_b (pc' := 81) (ls' := [some (.ref 64), some (.int (nI F)), some (.int (nI T)), some (.int (nI (k + 1))), some (.ref (ah k)), o5, o6, o7, o8]) (st' := [.ref (ah k)]) (h' := (n, sl, wKK kk, (gaI I (nI ((rdl I F T k).length)) r68), (gaL L (jL (mxw I F T 0 k)) (jL (sxw I F T k)) (jL (mnw I F T 0 k)) (jL (snw I F T k)) r69 r70), wQQ q)) 1 rfl ?_
        refine tv_gfa rfl (Or.inl rfl) (am_acK hah.2) ?_
        refine tv_top (e1 _ _) ?_
        refine tv_b (pc' := (if (nI T) < (nI (dyN I (k + 1))) then 234 else 88)) (ls' := [some (.ref 64), some (.int (nI F)), some (.int (nI T)), some (.int (nI (k + 1))), some (.ref (ah k)), o5, o6, o7, o8]) (st' := []) (h' := (n, sl, wKK kk, (gaI I (nI ((rdl I F T k).length)) r68), (gaL L (jL (mxw I F T 0 k)) (jL (sxw I F T k)) (jL (mnw I F T 0 k)) (jL (snw I F T k)) r69 r70), wQQ q)) 2 rfl ?_
        refine tv_ifq (nI_ltI (a := T) (b := (dyN I (k + 1))) (by omega) (by omega)) (fun c85 => ?_) (fun c85 => ?_)
        · refine tv_iincN (k := (k + 1)) (ls' := [some (.ref 64), some (.int (nI F)), some (.int (nI T)), some (.int (nI ((k + 1) + 1))), some (.ref (ah k)), o5, o6, o7, o8]) rfl rfl rfl ?_
          refine tv_b (pc' := 35) (ls' := [some (.ref 64), some (.int (nI F)), some (.int (nI T)), some (.int (nI ((k + 1) + 1))), some (.ref (ah k)), o5, o6, o7, o8]) (st' := []) (h' := (n, sl, wKK kk, (gaI I (nI ((rdl I F T k).length)) r68), (gaL L (jL (mxw I F T 0 k)) (jL (sxw I F T k)) (jL (mnw I F T 0 k)) (jL (snw I F T k)) r69 r70), wQQ q)) 1 rfl ?_
          have hnb : ¬ rdB I F T (k + 1) = true := fun z => by
            have y := of_decide_eq_true z
            omega
          obtain ⟨q1, q2, q3, q4, q5⟩ := w_0n hnb
          have hq := ih (k + 1) (by omega) r68 r69 r70 (some (.ref (ah k))) o5 o6 o7 o8 (gaE_n hE hnb)
          rw [q1, q2, q3, q4, q5] at hq
          exact hq
        · refine tv_b (pc' := 90) (ls' := [some (.ref 64), some (.int (nI F)), some (.int (nI T)), some (.int (nI (k + 1))), some (.ref (ah k)), o5, o6, o7, o8]) (st' := [.ref (ah k)]) (h' := (n, sl, wKK kk, (gaI I (nI ((rdl I F T k).length)) r68), (gaL L (jL (mxw I F T 0 k)) (jL (sxw I F T k)) (jL (mnw I F T 0 k)) (jL (snw I F T k)) r69 r70), wQQ q)) 1 rfl ?_
          refine tv_gfa rfl (Or.inl rfl) (am_acK hah.2) ?_
          refine tv_top (e3 _ _) ?_
          refine tv_csE [.int (nI (clN I (k + 1)))] [] rfl rfl (by omega) rfl (Nat.le_of_ble_eq_true rfl) (Nat.le_of_ble_eq_true rfl) (ev_isGauge) ?_
          refine tv_b (pc' := (if (sp_isGauge (nI (clN I (k + 1)))) = 0 then 234 else 99)) (ls' := [some (.ref 64), some (.int (nI F)), some (.int (nI T)), some (.int (nI (k + 1))), some (.ref (ah k)), o5, o6, o7, o8]) (st' := []) (h' := (n, sl, wKK kk, (gaI I (nI ((rdl I F T k).length)) r68), (gaL L (jL (mxw I F T 0 k)) (jL (sxw I F T k)) (jL (mnw I F T 0 k)) (jL (snw I F T k)) r69 r70), wQQ q)) 1 rfl ?_
          refine tv_f (hgn) ?_
          have hrd : rdB I F T (k + 1) = true := decide_eq_true ⟨hkn, h3, by omega, by omega⟩
          have hlow : (((rgt I (k + 1)).toInt64 - ((jI (pS I (dyN I (k + 1))).2).toInt64 - (jI (pS I F).2).toInt64)) - (I 67 (clN I (k + 1))).toInt64) = jL (loZ I F (k + 1)) := by
            rw [hng, j64_x (rgt I (k + 1)), jI_64 (hl0 _ (by omega)), jI_64 (hl0 F hF), j64_x (I 106 (clN I (k + 1))), jL_sub, jL_sub, jL_sub]
            rfl
          have hhigh : (((rgt I (k + 1)).toInt64 - ((jI (pS I (dyN I (k + 1))).2).toInt64 - (jI (pS I F).2).toInt64)) + (I 67 (clN I (k + 1))).toInt64) = jL (hiZ I F (k + 1)) := by
            rw [hng, j64_x (rgt I (k + 1)), jI_64 (hl0 _ (by omega)), jI_64 (hl0 F hF), j64_x (I 106 (clN I (k + 1))), jL_sub, jL_sub, jL_add]
            rfl
          refine tv_b (pc' := (if 200 ≤ (nI ((rdl I F T k).length)) then 234 else 109)) (ls' := [some (.ref 64), some (.int (nI F)), some (.int (nI T)), some (.int (nI (k + 1))), some (.ref (ah k)), o5, o6, o7, o8]) (st' := []) (h' := (n, sl, wKK kk, (gaI I (nI ((rdl I F T k).length)) r68), (gaL L (jL (mxw I F T 0 k)) (jL (sxw I F T k)) (jL (mnw I F T 0 k)) (jL (snw I F T k)) r69 r70), wQQ q)) 4 rfl ?_
          refine tv_f (fun hq => absurd ((nI_leI (a := 200) (b := (rdl I F T k).length) (by omega) (by omega)).mp hq) (by omega)) ?_
          refine tv_b (pc' := 115) (ls' := [some (.ref 64), some (.int (nI F)), some (.int (nI T)), some (.int (nI (k + 1))), some (.ref (ah k)), o5, o6, o7, o8]) (st' := [.ref (ah k), .ref 13]) (h' := (n, sl, wKK kk, (gaI I (nI ((rdl I F T k).length)) r68), (gaL L (jL (mxw I F T 0 k)) (jL (sxw I F T k)) (jL (mnw I F T 0 k)) (jL (snw I F T k)) r69 r70), wQQ q)) 3 rfl ?_
          refine tv_gfa rfl (Or.inl rfl) (am_acK hah.2) ?_
          refine tv_top (e1 _ _) ?_
          refine tv_cvE [.int (nI (dyN I (k + 1)))] [] rfl rfl (by omega) rfl (Nat.le_of_ble_eq_true rfl) (Nat.le_of_ble_eq_true rfl) (Or.inr (Or.inr rfl)) (eln _ _ _ _ (gaI_o (by decide) (by decide)) (by omega)) ?_
          refine tv_b (pc' := 127) (ls' := [some (.ref 64), some (.int (nI F)), some (.int (nI T)), some (.int (nI (k + 1))), some (.ref (ah k)), o5, o6, o7, o8]) (st' := [.int (nI F), .ref 13, .long ((jI (pS I (dyN I (k + 1))).2).toInt64)]) (h' := (n, sl, wKK kk, (gaI I (nI ((rdl I F T k).length)) r68), (gaL L (jL (mxw I F T 0 k)) (jL (sxw I F T k)) (jL (mnw I F T 0 k)) (jL (snw I F T k)) r69 r70), wQQ q)) 4 rfl ?_
          refine tv_cvE [.int (nI F)] [.long ((jI (pS I (dyN I (k + 1))).2).toInt64)] rfl rfl (by omega) rfl (Nat.le_of_ble_eq_true rfl) (Nat.le_of_ble_eq_true rfl) (Or.inr (Or.inr rfl)) (eln _ _ _ _ (gaI_o (by decide) (by decide)) (by omega)) ?_
          refine tv_b (pc' := 137) (ls' := [some (.ref 64), some (.int (nI F)), some (.int (nI T)), some (.int (nI (k + 1))), some (.ref (ah k)), some (.long (((jI (pS I (dyN I (k + 1))).2).toInt64) - ((jI (pS I F).2).toInt64))), none, o7, o8]) (st' := [.ref (ah k), .ref 64]) (h' := (n, sl, wKK kk, (gaI I (nI ((rdl I F T k).length)) r68), (gaL L (jL (mxw I F T 0 k)) (jL (sxw I F T k)) (jL (mnw I F T 0 k)) (jL (snw I F T k)) r69 r70), wQQ q)) 5 rfl ?_
          refine tv_cvE [.ref (ah k)] [] rfl rfl (by omega) rfl (Nat.le_of_ble_eq_true rfl) (Nat.le_of_ble_eq_true rfl) (Or.inr (Or.inr rfl)) (epr _ _ _ _) ?_
          refine tv_b (pc' := 155) (ls' := [some (.ref 64), some (.int (nI F)), some (.int (nI T)), some (.int (nI (k + 1))), some (.ref (ah k)), some (.long (((jI (pS I (dyN I (k + 1))).2).toInt64) - ((jI (pS I F).2).toInt64))), none, some (.long (((rgt I (k + 1)).toInt64) - (((jI (pS I (dyN I (k + 1))).2).toInt64) - ((jI (pS I F).2).toInt64)))), none]) (st' := [.int (nI (k + 1)), .int (nI ((rdl I F T k).length)), .ref 68]) (h' := (n, sl, wKK kk, (gaI I (nI ((rdl I F T k).length)) r68), (gaL L (jL (mxw I F T 0 k)) (jL (sxw I F T k)) (jL (mnw I F T 0 k)) (jL (snw I F T k)) r69 r70), wQQ q)) 9 rfl ?_
          refine tv_iasN (k := ((rdl I F T k).length)) rfl (rfl) (⟨by omega, by omega⟩) ?_
          refine tv_hI gaI_w_r68 ?_
          refine tv_b (pc' := 172) (ls' := [some (.ref 64), some (.int (nI F)), some (.int (nI T)), some (.int (nI (k + 1))), some (.ref (ah k)), some (.long (((jI (pS I (dyN I (k + 1))).2).toInt64) - ((jI (pS I F).2).toInt64))), none, some (.long (((rgt I (k + 1)).toInt64) - (((jI (pS I (dyN I (k + 1))).2).toInt64) - ((jI (pS I F).2).toInt64)))), none]) (st' := [.ref (ah k), .ref 67, .long (((rgt I (k + 1)).toInt64) - (((jI (pS I (dyN I (k + 1))).2).toInt64) - ((jI (pS I F).2).toInt64))), .int (nI ((rdl I F T k).length)), .ref 69]) (h' := (n, sl, wKK kk, (gaI I (nI ((rdl I F T k).length)) (upd r68 ((rdl I F T k).length) (nI (k + 1)))), (gaL L (jL (mxw I F T 0 k)) (jL (sxw I F T k)) (jL (mnw I F T 0 k)) (jL (snw I F T k)) r69 r70), wQQ q)) 8 rfl ?_
          refine tv_gfa rfl (Or.inl rfl) (am_acK hah.2) ?_
          refine tv_top (e3 _ _) ?_
          refine tv_ialN (k := (clN I (k + 1))) rfl (rfl) (⟨by omega, by omega⟩) ?_
          refine tv_b (pc' := 178) (ls' := [some (.ref 64), some (.int (nI F)), some (.int (nI T)), some (.int (nI (k + 1))), some (.ref (ah k)), some (.long (((jI (pS I (dyN I (k + 1))).2).toInt64) - ((jI (pS I F).2).toInt64))), none, some (.long (((rgt I (k + 1)).toInt64) - (((jI (pS I (dyN I (k + 1))).2).toInt64) - ((jI (pS I F).2).toInt64)))), none]) (st' := [.long ((((rgt I (k + 1)).toInt64) - (((jI (pS I (dyN I (k + 1))).2).toInt64) - ((jI (pS I F).2).toInt64))) - ((I 67 (clN I (k + 1))).toInt64)), .int (nI ((rdl I F T k).length)), .ref 69]) (h' := (n, sl, wKK kk, (gaI I (nI ((rdl I F T k).length)) (upd r68 ((rdl I F T k).length) (nI (k + 1)))), (gaL L (jL (mxw I F T 0 k)) (jL (sxw I F T k)) (jL (mnw I F T 0 k)) (jL (snw I F T k)) r69 r70), wQQ q)) 2 rfl ?_
          rw [hlow]
          refine tv_lasN (k := ((rdl I F T k).length)) rfl (rfl) (⟨by omega, by omega⟩) ?_
          refine tv_hL gaL_w_r69 ?_
          refine tv_b (pc' := 195) (ls' := [some (.ref 64), some (.int (nI F)), some (.int (nI T)), some (.int (nI (k + 1))), some (.ref (ah k)), some (.long (((jI (pS I (dyN I (k + 1))).2).toInt64) - ((jI (pS I F).2).toInt64))), none, some (.long (((rgt I (k + 1)).toInt64) - (((jI (pS I (dyN I (k + 1))).2).toInt64) - ((jI (pS I F).2).toInt64)))), none]) (st' := [.ref (ah k), .ref 67, .long (((rgt I (k + 1)).toInt64) - (((jI (pS I (dyN I (k + 1))).2).toInt64) - ((jI (pS I F).2).toInt64))), .int (nI ((rdl I F T k).length)), .ref 70]) (h' := (n, sl, wKK kk, (gaI I (nI ((rdl I F T k).length)) (upd r68 ((rdl I F T k).length) (nI (k + 1)))), (gaL L (jL (mxw I F T 0 k)) (jL (sxw I F T k)) (jL (mnw I F T 0 k)) (jL (snw I F T k)) (vp_updL r69 ((rdl I F T k).length) (jL (loZ I F (k + 1)))) r70), wQQ q)) 8 rfl ?_
          refine tv_gfa rfl (Or.inl rfl) (am_acK hah.2) ?_
          refine tv_top (e3 _ _) ?_
          refine tv_ialN (k := (clN I (k + 1))) rfl (rfl) (⟨by omega, by omega⟩) ?_
          refine tv_b (pc' := 201) (ls' := [some (.ref 64), some (.int (nI F)), some (.int (nI T)), some (.int (nI (k + 1))), some (.ref (ah k)), some (.long (((jI (pS I (dyN I (k + 1))).2).toInt64) - ((jI (pS I F).2).toInt64))), none, some (.long (((rgt I (k + 1)).toInt64) - (((jI (pS I (dyN I (k + 1))).2).toInt64) - ((jI (pS I F).2).toInt64)))), none]) (st' := [.long ((((rgt I (k + 1)).toInt64) - (((jI (pS I (dyN I (k + 1))).2).toInt64) - ((jI (pS I F).2).toInt64))) + ((I 67 (clN I (k + 1))).toInt64)), .int (nI ((rdl I F T k).length)), .ref 70]) (h' := (n, sl, wKK kk, (gaI I (nI ((rdl I F T k).length)) (upd r68 ((rdl I F T k).length) (nI (k + 1)))), (gaL L (jL (mxw I F T 0 k)) (jL (sxw I F T k)) (jL (mnw I F T 0 k)) (jL (snw I F T k)) (vp_updL r69 ((rdl I F T k).length) (jL (loZ I F (k + 1)))) r70), wQQ q)) 2 rfl ?_
          rw [hhigh]
          refine tv_lasN (k := ((rdl I F T k).length)) rfl (rfl) (⟨by omega, by omega⟩) ?_
          refine tv_hL gaL_w_r70 ?_
          refine tv_b (pc' := 211) (ls' := [some (.ref 64), some (.int (nI F)), some (.int (nI T)), some (.int (nI (k + 1))), some (.ref (ah k)), some (.long (((jI (pS I (dyN I (k + 1))).2).toInt64) - ((jI (pS I F).2).toInt64))), none, some (.long (((rgt I (k + 1)).toInt64) - (((jI (pS I (dyN I (k + 1))).2).toInt64) - ((jI (pS I F).2).toInt64)))), none]) (st' := [.int (nI ((rdl I F T k).length)), .ref 69, .ref 64]) (h' := (n, sl, wKK kk, (gaI I (nI ((rdl I F T k).length)) (upd r68 ((rdl I F T k).length) (nI (k + 1)))), (gaL L (jL (mxw I F T 0 k)) (jL (sxw I F T k)) (jL (mnw I F T 0 k)) (jL (snw I F T k)) (vp_updL r69 ((rdl I F T k).length) (jL (loZ I F (k + 1)))) (vp_updL r70 ((rdl I F T k).length) (jL (hiZ I F (k + 1))))), wQQ q)) 5 rfl ?_
          refine tv_lalN (k := ((rdl I F T k).length)) rfl (rfl) (⟨by omega, by omega⟩) ?_
          refine tv_b (pc' := 220) (ls' := [some (.ref 64), some (.int (nI F)), some (.int (nI T)), some (.int (nI (k + 1))), some (.ref (ah k)), some (.long (((jI (pS I (dyN I (k + 1))).2).toInt64) - ((jI (pS I F).2).toInt64))), none, some (.long (((rgt I (k + 1)).toInt64) - (((jI (pS I (dyN I (k + 1))).2).toInt64) - ((jI (pS I F).2).toInt64)))), none]) (st' := [.int (nI ((rdl I F T k).length)), .ref 70, .long ((vp_updL r69 ((rdl I F T k).length) (jL (loZ I F (k + 1)))) ((rdl I F T k).length)), .ref 64]) (h' := (n, sl, wKK kk, (gaI I (nI ((rdl I F T k).length)) (upd r68 ((rdl I F T k).length) (nI (k + 1)))), (gaL L (jL (mxw I F T 0 k)) (jL (sxw I F T k)) (jL (mnw I F T 0 k)) (jL (snw I F T k)) (vp_updL r69 ((rdl I F T k).length) (jL (loZ I F (k + 1)))) (vp_updL r70 ((rdl I F T k).length) (jL (hiZ I F (k + 1))))), wQQ q)) 4 rfl ?_
          refine tv_lalN (k := ((rdl I F T k).length)) rfl (rfl) (⟨by omega, by omega⟩) ?_
          rw [uL_e, gaL_70, uL_e]
          refine tv_cvE [.long (jL (loZ I F (k + 1))), .long (jL (hiZ I F (k + 1)))] [] rfl rfl (by omega) rfl (Nat.le_of_ble_eq_true rfl) (Nat.le_of_ble_eq_true rfl) (Or.inr (Or.inr rfl)) (ev_narrow_c) ?_
          refine tv_b (pc' := 230) (ls' := [some (.ref 64), some (.int (nI F)), some (.int (nI T)), some (.int (nI (k + 1))), some (.ref (ah k)), some (.long (((jI (pS I (dyN I (k + 1))).2).toInt64) - ((jI (pS I F).2).toInt64))), none, some (.long (((rgt I (k + 1)).toInt64) - (((jI (pS I (dyN I (k + 1))).2).toInt64) - ((jI (pS I F).2).toInt64)))), none]) (st' := [.int 1, .int (nI ((rdl I F T k).length)), .ref 64]) (h' := (n, sl, wKK kk, (gaI I (nI ((rdl I F T k).length)) (upd r68 ((rdl I F T k).length) (nI (k + 1)))), (gaL L (sp_maxL (jL (mxw I F T 0 k)) (jL (loZ I F (k + 1)))) (sp_maxL (jL (sxw I F T k)) (sp_minL (jL (mxw I F T 0 k)) (jL (loZ I F (k + 1))))) (sp_minL (jL (mnw I F T 0 k)) (jL (hiZ I F (k + 1)))) (sp_minL (jL (snw I F T k)) (sp_maxL (jL (mnw I F T 0 k)) (jL (hiZ I F (k + 1))))) (vp_updL r69 ((rdl I F T k).length) (jL (loZ I F (k + 1)))) (vp_updL r70 ((rdl I F T k).length) (jL (hiZ I F (k + 1))))), wQQ q)) 4 rfl ?_
          refine tv_b (pc' := 231) (ls' := [some (.ref 64), some (.int (nI F)), some (.int (nI T)), some (.int (nI (k + 1))), some (.ref (ah k)), some (.long (((jI (pS I (dyN I (k + 1))).2).toInt64) - ((jI (pS I F).2).toInt64))), none, some (.long (((rgt I (k + 1)).toInt64) - (((jI (pS I (dyN I (k + 1))).2).toInt64) - ((jI (pS I F).2).toInt64)))), none]) (st' := [.int ((nI ((rdl I F T k).length)) + 1), .ref 64]) (h' := (n, sl, wKK kk, (gaI I (nI ((rdl I F T k).length)) (upd r68 ((rdl I F T k).length) (nI (k + 1)))), (gaL L (sp_maxL (jL (mxw I F T 0 k)) (jL (loZ I F (k + 1)))) (sp_maxL (jL (sxw I F T k)) (sp_minL (jL (mxw I F T 0 k)) (jL (loZ I F (k + 1))))) (sp_minL (jL (mnw I F T 0 k)) (jL (hiZ I F (k + 1)))) (sp_minL (jL (snw I F T k)) (sp_maxL (jL (mnw I F T 0 k)) (jL (hiZ I F (k + 1))))) (vp_updL r69 ((rdl I F T k).length) (jL (loZ I F (k + 1)))) (vp_updL r70 ((rdl I F T k).length) (jL (hiZ I F (k + 1))))), wQQ q)) 1 rfl ?_
          refine tv_top (show (nI ((rdl I F T k).length)) + 1 = nI (((rdl I F T k).length) + 1) from nI_add ((rdl I F T k).length) 1) ?_
          refine tv_b (pc' := 234) (ls' := [some (.ref 64), some (.int (nI F)), some (.int (nI T)), some (.int (nI (k + 1))), some (.ref (ah k)), some (.long (((jI (pS I (dyN I (k + 1))).2).toInt64) - ((jI (pS I F).2).toInt64))), none, some (.long (((rgt I (k + 1)).toInt64) - (((jI (pS I (dyN I (k + 1))).2).toInt64) - ((jI (pS I F).2).toInt64)))), none]) (st' := []) (h' := (n, sl, wKK kk, va_up (gaI I (nI ((rdl I F T k).length)) (upd r68 ((rdl I F T k).length) (nI (k + 1)))) 64 (upd ((gaI I (nI ((rdl I F T k).length)) (upd r68 ((rdl I F T k).length) (nI (k + 1)))) 64) 9 (nI (((rdl I F T k).length) + 1))), (gaL L (sp_maxL (jL (mxw I F T 0 k)) (jL (loZ I F (k + 1)))) (sp_maxL (jL (sxw I F T k)) (sp_minL (jL (mxw I F T 0 k)) (jL (loZ I F (k + 1))))) (sp_minL (jL (mnw I F T 0 k)) (jL (hiZ I F (k + 1)))) (sp_minL (jL (snw I F T k)) (sp_maxL (jL (mnw I F T 0 k)) (jL (hiZ I F (k + 1))))) (vp_updL r69 ((rdl I F T k).length) (jL (loZ I F (k + 1)))) (vp_updL r70 ((rdl I F T k).length) (jL (hiZ I F (k + 1))))), wQQ q)) 1 rfl ?_
          refine tv_hI gaI_w_ct ?_
          refine tv_iincN (k := (k + 1)) (ls' := [some (.ref 64), some (.int (nI F)), some (.int (nI T)), some (.int (nI ((k + 1) + 1))), some (.ref (ah k)), some (.long (((jI (pS I (dyN I (k + 1))).2).toInt64) - ((jI (pS I F).2).toInt64))), none, some (.long (((rgt I (k + 1)).toInt64) - (((jI (pS I (dyN I (k + 1))).2).toInt64) - ((jI (pS I F).2).toInt64)))), none]) rfl rfl rfl ?_
          refine tv_b (pc' := 35) (ls' := [some (.ref 64), some (.int (nI F)), some (.int (nI T)), some (.int (nI ((k + 1) + 1))), some (.ref (ah k)), some (.long (((jI (pS I (dyN I (k + 1))).2).toInt64) - ((jI (pS I F).2).toInt64))), none, some (.long (((rgt I (k + 1)).toInt64) - (((jI (pS I (dyN I (k + 1))).2).toInt64) - ((jI (pS I F).2).toInt64)))), none]) (st' := []) (h' := (n, sl, wKK kk, (gaI I (nI (((rdl I F T k).length) + 1)) (upd r68 ((rdl I F T k).length) (nI (k + 1)))), (gaL L (sp_maxL (jL (mxw I F T 0 k)) (jL (loZ I F (k + 1)))) (sp_maxL (jL (sxw I F T k)) (sp_minL (jL (mxw I F T 0 k)) (jL (loZ I F (k + 1))))) (sp_minL (jL (mnw I F T 0 k)) (jL (hiZ I F (k + 1)))) (sp_minL (jL (snw I F T k)) (sp_maxL (jL (mnw I F T 0 k)) (jL (hiZ I F (k + 1))))) (vp_updL r69 ((rdl I F T k).length) (jL (loZ I F (k + 1)))) (vp_updL r70 ((rdl I F T k).length) (jL (hiZ I F (k + 1))))), wQQ q)) 1 rfl ?_
          obtain ⟨w1, w2, w3, w4⟩ := hwb k
          obtain ⟨⟨lb1, lb2⟩, ⟨lb3, lb4⟩⟩ := rd_b g hu hF hT4 (k + 1) hrd
          have bl : bM (loZ I F (k + 1)) := ⟨by omega, by omega⟩
          have bh : bM (hiZ I F (k + 1)) := ⟨by omega, by omega⟩
          have u1 := w1.1
          have u2 := w1.2
          have u3 := w2.1
          have u4 := w2.2
          have q1 : sp_maxL (jL (mxw I F T 0 k)) (jL (loZ I F (k + 1))) = jL (mxw I F T 0 (k + 1)) := by rw [maxM_j w1 bl, (w_s ⟨hrd, by omega⟩).1]
          have q2 : sp_maxL (jL (sxw I F T k)) (sp_minL (jL (mxw I F T 0 k)) (jL (loZ I F (k + 1)))) = jL (sxw I F T (k + 1)) := by rw [minM_j w1 bl, maxM_j w3 ⟨by omega, by omega⟩, show sxw I F T (k + 1) = _ from if_pos hrd]
          have q3 : sp_minL (jL (mnw I F T 0 k)) (jL (hiZ I F (k + 1))) = jL (mnw I F T 0 (k + 1)) := by rw [minM_j w2 bh, (w_s ⟨hrd, by omega⟩).2.1]
          have q4 : sp_minL (jL (snw I F T k)) (sp_maxL (jL (mnw I F T 0 k)) (jL (hiZ I F (k + 1)))) = jL (snw I F T (k + 1)) := by rw [maxM_j w2 bh, minM_j w4 ⟨by omega, by omega⟩, show snw I F T (k + 1) = _ from if_pos hrd]
          have q5 : (rdl I F T k).length + 1 = (rdl I F T (k + 1)).length := by rw [rdl_s hrd, List.length_append]; rfl
          rw [q2, q1, q4, q3, q5]
          exact ih (k + 1) (by omega) _ _ _ _ _ _ _ _ (gaE_s hE hrd)
    · rw [if_neg hkr] at ekn
      show am_T _ _ 35 [some (.ref 64), some (.int (nI F)), some (.int (nI T)), some (.int (nI (k + 1))), o4, o5, o6, o7, o8] _ _ _
      refine tv_b (pc' := 40) (ls' := [some (.ref 64), some (.int (nI F)), some (.int (nI T)), some (.int (nI (k + 1))), o4, o5, o6, o7, o8]) (st' := [.ref 55, .int (nI (k + 1))]) (h' := (n, sl, wKK kk, (gaI I (nI ((rdl I F T k).length)) r68), (gaL L (jL (mxw I F T 0 k)) (jL (sxw I F T k)) (jL (mnw I F T 0 k)) (jL (snw I F T k)) r69 r70), wQQ q)) 3 rfl ?_
      refine tv_cvE [] [.int (nI (k + 1))] rfl rfl (by omega) rfl (Nat.le_of_ble_eq_true rfl) (Nat.le_of_ble_eq_true rfl) (Or.inr (Or.inr rfl)) (es _ _ _ (gaI_o (by decide) (by decide))) ?_
      refine tv_b (pc' := (if (nI C) < (nI (k + 1)) then 240 else 46)) (ls' := [some (.ref 64), some (.int (nI F)), some (.int (nI T)), some (.int (nI (k + 1))), o4, o5, o6, o7, o8]) (st' := []) (h' := (n, sl, wKK kk, (gaI I (nI ((rdl I F T k).length)) r68), (gaL L (jL (mxw I F T 0 k)) (jL (sxw I F T k)) (jL (mnw I F T 0 k)) (jL (snw I F T k)) r69 r70), wQQ q)) 1 rfl ?_
      refine tv_f (fun hq => absurd ((nI_ltI (a := C) (b := (k + 1)) (by omega) (by omega)).mp hq) (by omega)) ?_
      refine tv_b (pc' := 51) (ls' := [some (.ref 64), some (.int (nI F)), some (.int (nI T)), some (.int (nI (k + 1))), o4, o5, o6, o7, o8]) (st' := [.int (nI (k + 1)), .ref 55]) (h' := (n, sl, wKK kk, (gaI I (nI ((rdl I F T k).length)) r68), (gaL L (jL (mxw I F T 0 k)) (jL (sxw I F T k)) (jL (mnw I F T 0 k)) (jL (snw I F T k)) r69 r70), wQQ q)) 3 rfl ?_
      refine tv_cvE [.int (nI (k + 1))] [] rfl rfl (by omega) rfl (Nat.le_of_ble_eq_true rfl) (Nat.le_of_ble_eq_true rfl) (Or.inr (Or.inr rfl)) (ev_b_act b1 (j55 _ _) hC2 hkC) ?_
      refine tv_b (pc' := 64) (ls' := [some (.ref 64), some (.int (nI F)), some (.int (nI T)), some (.int (nI (k + 1))), some (.ref (ah k)), o5, o6, o7, o8]) (st' := [.int 3, .ref (ah k)]) (h' := (n, sl, wKK kk, (gaI I (nI ((rdl I F T k).length)) r68), (gaL L (jL (mxw I F T 0 k)) (jL (sxw I F T k)) (jL (mnw I F T 0 k)) (jL (snw I F T k)) r69 r70), wQQ q)) 5 rfl ?_
      refine tv_cvE [.int 3] [] rfl rfl (by omega) rfl (Nat.le_of_ble_eq_true rfl) (Nat.le_of_ble_eq_true rfl) (Or.inr (Or.inr (am_acK hah.2))) (ekn _ _ _ _) ?_
      refine tv_b (pc' := 234) (ls' := [some (.ref 64), some (.int (nI F)), some (.int (nI T)), some (.int (nI (k + 1))), some (.ref (ah k)), o5, o6, o7, o8]) (st' := []) (h' := (n, sl, wKK kk, (gaI I (nI ((rdl I F T k).length)) r68), (gaL L (jL (mxw I F T 0 k)) (jL (sxw I F T k)) (jL (mnw I F T 0 k)) (jL (snw I F T k)) r69 r70), wQQ q)) 1 rfl ?_
      refine tv_iincN (k := (k + 1)) (ls' := [some (.ref 64), some (.int (nI F)), some (.int (nI T)), some (.int (nI ((k + 1) + 1))), some (.ref (ah k)), o5, o6, o7, o8]) rfl rfl rfl ?_
      refine tv_b (pc' := 35) (ls' := [some (.ref 64), some (.int (nI F)), some (.int (nI T)), some (.int (nI ((k + 1) + 1))), some (.ref (ah k)), o5, o6, o7, o8]) (st' := []) (h' := (n, sl, wKK kk, (gaI I (nI ((rdl I F T k).length)) r68), (gaL L (jL (mxw I F T 0 k)) (jL (sxw I F T k)) (jL (mnw I F T 0 k)) (jL (snw I F T k)) r69 r70), wQQ q)) 1 rfl ?_
      have hnb : ¬ rdB I F T (k + 1) = true := fun z => by
        have y := of_decide_eq_true z
        exact hkr ⟨y.1, y.2.1⟩
      obtain ⟨q1, q2, q3, q4, q5⟩ := w_0n hnb
      have hq := ih (k + 1) (by omega) r68 r69 r70 (some (.ref (ah k))) o5 o6 o7 o8 (gaE_n hE hnb)
      rw [q1, q2, q3, q4, q5] at hq
      exact hq
theorem tv_gather {n sl C : Nat} {kk : Nat → Nat × Nat} {q : Nat → Nat → Option Nat} {I : Nat → Nat → Int32} {L : Nat → Nat → Int64} {ah : Nat → Nat} {M : Nat → List (Nat × Nat × List Nat)} {F T : Nat} {ct : Int32} {l10 l11 l12 l13 : Int64} {r68 : Nat → Int32} {r69 r70 : Nat → Int64} (g : gInv n kk q I L C ah M) (ht : tInv I) (hu : uInv I) (hF : F ≤ T) (hT4 : T < 400) (hr : ∀ E, E ≤ T → cRow I L I E) : am_T 6 43 0 (am_ent 9 [.ref 64, .int (nI F), .int (nI T)]) [] (n, sl, wKK kk, (gaI I ct r68), (gaL L l10 l11 l12 l13 r69 r70), wQQ q) (fun rv h' => rv = none ∧ ∃ r68' r69' r70', h' = (n, sl, wKK kk, (gaI I (nI ((rdl I F T C).length)) r68'), (gaL L (jL (mxw I F T 0 C)) (jL (sxw I F T C)) (jL (mnw I F T 0 C)) (jL (snw I F T C)) r69' r70'), wQQ q) ∧ gaE I F T C r68' r69' r70') := by
  show am_T _ _ 0 [some (.ref 64), some (.int (nI F)), some (.int (nI T)), none, none, none, none, none, none] _ _ _
  refine tv_b (pc' := 5) (ls' := [some (.ref 64), some (.int (nI F)), some (.int (nI T)), none, none, none, none, none, none]) (st' := []) (h' := (n, sl, wKK kk, va_up (gaI I ct r68) 64 (upd ((gaI I ct r68) 64) 9 0), (gaL L l10 l11 l12 l13 r69 r70), wQQ q)) 3 rfl ?_
  refine tv_hI gaI_w_ct ?_
  refine tv_b (pc' := 12) (ls' := [some (.ref 64), some (.int (nI F)), some (.int (nI T)), none, none, none, none, none, none]) (st' := []) (h' := (n, sl, wKK kk, (gaI I 0 r68), va_up (gaL L l10 l11 l12 l13 r69 r70) 64 (vp_updL ((gaL L l10 l11 l12 l13 r69 r70) 64) 10 (-9223372036854775808)), wQQ q)) 3 rfl ?_
  refine tv_hL gaL_w_l10 ?_
  refine tv_b (pc' := 19) (ls' := [some (.ref 64), some (.int (nI F)), some (.int (nI T)), none, none, none, none, none, none]) (st' := []) (h' := (n, sl, wKK kk, (gaI I 0 r68), va_up (gaL L (-9223372036854775808) l11 l12 l13 r69 r70) 64 (vp_updL ((gaL L (-9223372036854775808) l11 l12 l13 r69 r70) 64) 11 (-9223372036854775808)), wQQ q)) 3 rfl ?_
  refine tv_hL gaL_w_l11 ?_
  refine tv_b (pc' := 26) (ls' := [some (.ref 64), some (.int (nI F)), some (.int (nI T)), none, none, none, none, none, none]) (st' := []) (h' := (n, sl, wKK kk, (gaI I 0 r68), va_up (gaL L (-9223372036854775808) (-9223372036854775808) l12 l13 r69 r70) 64 (vp_updL ((gaL L (-9223372036854775808) (-9223372036854775808) l12 l13 r69 r70) 64) 12 9223372036854775807), wQQ q)) 3 rfl ?_
  refine tv_hL gaL_w_l12 ?_
  refine tv_b (pc' := 33) (ls' := [some (.ref 64), some (.int (nI F)), some (.int (nI T)), none, none, none, none, none, none]) (st' := []) (h' := (n, sl, wKK kk, (gaI I 0 r68), va_up (gaL L (-9223372036854775808) (-9223372036854775808) 9223372036854775807 l13 r69 r70) 64 (vp_updL ((gaL L (-9223372036854775808) (-9223372036854775808) 9223372036854775807 l13 r69 r70) 64) 13 9223372036854775807), wQQ q)) 3 rfl ?_
  refine tv_hL gaL_w_l13 ?_
  refine tv_b (pc' := 35) (ls' := [some (.ref 64), some (.int (nI F)), some (.int (nI T)), some (.int 1), none, none, none, none, none]) (st' := []) (h' := (n, sl, wKK kk, (gaI I 0 r68), (gaL L (-9223372036854775808) (-9223372036854775808) 9223372036854775807 9223372036854775807 r69 r70), wQQ q)) 2 rfl ?_
  exact tv_ga g ht hu hF hT4 hr C 0 (Nat.zero_add C) r68 r69 r70 none none none none none (fun i hi => absurd hi (Nat.not_lt_zero _))
