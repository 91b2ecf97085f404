/-! LOAD, RIGHT, ALL, ABOVE -/
theorem sI_m_weighs_e {D : Nat} {l : Int64} {I : Nat → Nat → Int32} {L : Nat → Nat → Int64} : sI_m_weighs D l I L = I := rfl
theorem j64_x (x : Int32) : x.toInt64 = jL x.toInt := by
  have h1 := x.toInt_lt
  have h2 := x.le_toInt
  have h := jI_64 (z := x.toInt) ⟨by omega, by omega⟩
  rw [jI_self] at h
  exact h
theorem m_load_v {d c0 D : Nat} {n sl C : Nat} {kk : Nat → Nat × Nat} {q : Nat → Nat → Option Nat} {J : Nat → Nat → Int32} {K : Nat → Nat → Int64} {ah : Nat → Nat} {M : Nat → List (Nat × Nat × List Nat)} (g1 : gInv n kk q J K C ah M) (hc : c0 < 16) (hD : D < 400) : ∃ L4 : Nat → Nat → Int64, (∀ j, j ≠ 80 → L4 j = sL_m_play J K j) ∧ am_Ev (d + 5) 211 0 (am_ent 3 [.ref 80, .int (nI c0), .int (nI D)]) [] (n, sl, wKK kk, J, K, wQQ q) (some (.int (jI (ldZ (tot J D) (mom J D (pS J D).2) c0))), (n, sl, wKK kk, sI_m_play J K, L4, wQQ q)) := by
  have gB1 := g1.2.1
  obtain ⟨hn1, hn2⟩ := now_N (L := K) gB1
  have hC2 := gB1.1.2
  obtain ⟨g2, hP, f2, p2, hp2⟩ := play_g g1
  have e2 := ev_m_load (d := d) (n := n) (sl := sl) (k := kk) (q := q) (L := K) hc hD (by rw [now_cl gB1]; exact hn1) (by rw [now_cl gB1]; omega) (gx_ok gB1) (gl_ok gB1)
  have hw : sI_m_load c0 D J K = sI_m_play J K := by unfold sI_m_load; rw [sI_m_weighs_e]
  have h114 := (hP.2.2 D (by omega)).1
  have hL : sL_m_load c0 D J K = sL_m_weighs D (jL (pS (sI_m_play J K) D).2) (sI_m_play J K) (sL_m_play J K) := by unfold sL_m_load; rw [h114]
  have hv : sp_m_load c0 D J K = (sp_m_loadOf (nI c0) (sI_m_play J K) (sL_m_weighs D (jL (pS (sI_m_play J K) D).2) (sI_m_play J K) (sL_m_play J K))).toInt32 := by unfold sp_m_load; rw [sI_m_weighs_e, h114]
  rw [hw, hL, hv] at e2
  generalize sI_m_play J K = J3 at g2 hP p2 hp2 e2
  generalize sL_m_play J K = K3 at g2 hP e2
  have gT3 := g2.1
  have gB3 := g2.2.1
  have hb3 := (pS_b gT3 gB3 D (by omega)).2
  obtain ⟨w1, w2, w3, w4⟩ := weigh_v (I := J3) (L := K3) (D := D) gT3 hb3 (hP.2.1 D hD).1 (hP.2.1 D hD).2
  generalize sL_m_weighs D (jL (pS J3 D).2) J3 K3 = L4 at w1 w2 w3 e2
  have hE3 : rE J3 J := ⟨fun j i1 i2 => p2 j (by omega) (by omega), by rw [p2 80 (by decide) (by decide)], by rw [p2 80 (by decide) (by decide)]⟩
  obtain ⟨d1, d2, _⟩ := dG_c hE3
  have v2 : (sp_m_loadOf (nI c0) J3 L4).toInt32 = jI (ldZ (tot J D) (mom J D (pS J D).2) c0) := by
    rw [load_j hc w1 w2 (tot_b gT3 gB3 D) (mom_b gT3 gB3 D hb3), jL_32, d1, d2, pS_c hE3]
  rw [v2] at e2
  exact ⟨L4, w3, e2⟩
theorem x_load_v {d c0 D : Nat} {n sl C : Nat} {kk : Nat → Nat × Nat} {q : Nat → Nat → Option Nat} {I : Nat → Nat → Int32} {L : Nat → Nat → Int64} {ah : Nat → Nat} {M : Nat → List (Nat × Nat × List Nat)} (g : gInv n kk q I L C ah M) (hc : c0 < 16) (hD : D < 400) : am_Ev (d + 6) 127 0 (am_ent 3 [.ref 0, .int (nI c0), .int (nI D)]) [] (n, sl, wKK kk, I, L, wQQ q) (some (.int (jI (ldZ (tot (sI_d_reach D I L) D) (mom (sI_d_reach D I L) D (pS (sI_d_reach D I L) D).2) c0))), (n, sl, wKK kk, sI_d_reach D I L, sL_d_reach D I L, wQQ q)) := by
  obtain ⟨g1, r1, f1, r80, r55, r13, ⟨k1, k2⟩, hp1, h14⟩ := reach_g g (D := D) (by omega)
  have e1 := ev_x_load (d := d) (n := n) (sl := sl) (k := kk) (q := q) (L := L) hc hD k1 k2 h14
  unfold sp_x_load sI_x_load sL_x_load at e1
  generalize sI_d_reach D I L = J at g1 r1 e1 ⊢
  generalize sL_d_reach D I L = K at g1 r1 e1 ⊢
  have gT1 := g1.1
  have gB1 := g1.2.1
  have hlb := (pS_b gT1 gB1 D (by omega)).2
  have hls : sp_d_leanAt (nI D) J K = jI (pS J D).2 := by
    unfold sp_d_leanAt
    rw [if_neg (wi_0400 (by omega)), nI_clamp (by omega)]
    exact (r1 D (Nat.le_refl _)).1
  have v1 : (sp_d_loadOf (nI c0) (sp_d_totalOn (nI D) J K) (sp_d_momentOn (nI D) (sp_d_leanAt (nI D) J K) J K) J K).toInt32 = jI (ldZ (tot J D) (mom J D (pS J D).2) c0) := by
    rw [hls, ctot_j g1.2.2.1.1 g1.2.2.1.2.2.2.1 gB1 hD, cmom_j g1.2.2.1.1 g1.2.2.1.2.2.2.1 gT1 hD hlb, cload_j hc (tot_b gT1 gB1 D) (mom_b gT1 gB1 D hlb), jL_32]
  rw [v1] at e1
  exact e1
theorem jx_load {c x : Int32} : jx 127 (am_ent 3 [.ref 0, .int c, .int x]) 211 (am_ent 3 [.ref 80, .int c, .int x]) := by
  rintro k h hk ⟨n, sl, kk, I, L, q, rfl, C, ah, M, tx, T, g, hr, ht, hu, hs, hc, hj, hn, hsl⟩
  by_cases h : sp_isColumn c = 0 ∨ sp_isDay x = 0
  · exact jx_e (d1 := 2) (d2 := 2) (by decide) (by decide) (ev_x_loadO (d := 0) h) (ev_m_loadO (d := 0) (h.imp (fun z => ar_mcol.mpr (ar_col.mp z)) (fun z => ar_mday.mpr (ar_day.mp z)))) (h_same (q := q) hk g hr ht hu hs hc hj hn hsl)
  · have rc := (nn_iff ar_col).mp (fun z => h (Or.inl z))
    have rx := (nn_iff ar_day).mp (fun z => h (Or.inr z))
    rw [x_nI rc.1, x_nI rx.1]
    have hc16 : c.toInt.toNat < 16 := by omega
    have hD : x.toInt.toNat < 400 := by omega
    generalize c.toInt.toNat = c0 at hc16
    generalize x.toInt.toNat = D at hD
    have e1 := x_load_v (d := 0) (sl := sl) g hc16 hD
    obtain ⟨g1, r1, f1, r80, r55, r13, ⟨k1, k2⟩, hp1, h14⟩ := reach_g g (D := D) (by omega)
    generalize sI_d_reach D I L = J at g1 r1 f1 r80 r55 r13 hp1 e1
    generalize sL_d_reach D I L = K at g1 r1 f1 e1
    obtain ⟨L4, w3, e2⟩ := m_load_v (d := 0) (sl := sl) g1 hc16 hD
    obtain ⟨g2, hP, f2, p2, hp2⟩ := play_g g1
    generalize sI_m_play J K = J3 at g2 hP f2 p2 hp2 e2
    generalize sL_m_play J K = K3 at g2 hP f2 w3
    obtain ⟨gT3, gB3, gG3, gc3, gm3, gn3⟩ := g2
    have g4 : gInv n kk q J3 L4 C ah M := ⟨gT3, gB3, cGr_m (Nat.le_refl _) (fun _ _ => rfl) rfl (fun _ _ => rfl) (fun _ _ _ => rfl) (fun j hj => w3 j (by omega)) gG3, gc3, gm3, gn3⟩
    have f4 : oFw n kk kk J3 J3 K3 L4 := ⟨fun _ _ _ => rfl, fun _ _ => rfl, fun _ _ _ => rfl, fun _ _ _ => rfl, fun j i1 i2 => w3 j (by omega), fun _ _ => ⟨rfl, rfl⟩⟩
    have hkn : ∀ i, kn J3 (i + 1) = kn I (i + 1) := fun i => by
      unfold kn nNow nC vdN
      rw [p2 80 (by decide) (by decide), p2 112 (by decide) (by decide), r80 80 (by decide), r80 112 (by decide)]
    exact jx_e (d1 := 6) (d2 := 5) (by decide) (by decide) e1 e2 (ojV_h hk g hr ht hu hs hc hj hn hsl (ojW_v ⟨n, sl, kk, J3, L4, q, C, ah, rfl, g4, oFw_t f1 (oFw_t f2 f4), ⟨0, 0, Nat.le_refl _, by omega, by rw [p2 55 (by decide) (by decide), r55]; exact (Int32.add_zero _).symm, by rw [p2 13 (by decide) (by decide), r13]; exact (Int32.add_zero _).symm, fun _ i _ => hkn i, fun i _ _ => by rw [p2 107 (by decide) (by decide), p2 108 (by decide) (by decide), p2 109 (by decide) (by decide), p2 110 (by decide) (by decide), p2 111 (by decide) (by decide), r80 107 (by decide), r80 108 (by decide), r80 109 (by decide), r80 110 (by decide), r80 111 (by decide)]; exact ⟨rfl, rfl, rfl, rfl, rfl⟩⟩, ⟨Nat.le_refl _, by omega, by omega⟩, Nat.le_refl _⟩))
/-- a reading put right on both sides -/
theorem right_v {n C : Nat} {kk : Nat → Nat × Nat} {q : Nat → Nat → Option Nat} {I : Nat → Nat → Int32} {L : Nat → Nat → Int64} {ah : Nat → Nat} {M : Nat → List (Nat × Nat × List Nat)} (g : gInv n kk q I L C ah M) (ht : tInv I) (hu : uInv I) {i : Nat} (hi : i < C) (h3 : I 107 (i + 1) = 3) : sp_g_putRight (ah i) I L = sp_m_rightOf (i + 1) I L ∧ I (ah i) 3 = nI (clN I (i + 1)) ∧ clN I (i + 1) < 4 ∧ I 109 (i + 1) = nI (clN I (i + 1)) ∧ I (ah i) 1 = nI (dyN I (i + 1)) ∧ I 108 (i + 1) = nI (dyN I (i + 1)) ∧ dyN I (i + 1) < 400 := by
  have gB := g.2.1
  obtain ⟨⟨b1, b2, b3⟩, b4, b5, b6, b7, b8⟩ := g.2.2.1.2.2.1
  obtain ⟨a0, a1, a7, _, _, _, a3⟩ := b5 i hi
  obtain ⟨a3, a4⟩ := a3 h3
  obtain ⟨_, w1, w2, w3⟩ := gB.2.2 (i + 1) (by omega) (by rw [b4]; omega)
  have w4 : I 109 (i + 1) = nI (clN I (i + 1)) ∧ clN I (i + 1) < 4 := by
    rcases w3 with w | w | w | w | w | w
    · exact absurd (h3.symm.trans w.1) (by decide)
    · exact absurd (h3.symm.trans w.1) (by decide)
    · exact absurd (h3.symm.trans w.1) (by decide)
    · exact ⟨w.2.1, w.2.2.1⟩
    · exact absurd (h3.symm.trans w) (by decide)
    · exact absurd (h3.symm.trans w) (by decide)
  obtain ⟨w4, w5⟩ := w4
  refine ⟨?_, by rw [a3]; exact w4, w5, w4, by rw [a1]; exact w1, w1, w2⟩
  obtain ⟨⟨u1, u2, u3⟩, _⟩ := hu (clN I (i + 1)) w5
  unfold sp_g_putRight sp_m_rightOf sp_warm_on
  rw [a3, a4, a1, w4, nI_clamp (n := clN I (i + 1)) (by omega)]
  rw [show (I 108 (i + 1)).toNatClampNeg = dyN I (i + 1) from rfl, ← w1, u1, u2]
  rw [w1]
  have hd := ht.2.2.1 (dyN I (i + 1)) w2
  have n1 : ¬ sp_isGauge (nI (clN I (i + 1))) = 0 := (nn_iff ar_gauge).mpr (by rw [nI_j, jI_toInt ⟨by omega, by omega⟩]; omega)
  have n2 : ¬ sp_isDay (nI (dyN I (i + 1))) = 0 := (nn_iff ar_day).mpr (by rw [nI_j, jI_toInt ⟨by omega, by omega⟩]; omega)
  rw [if_neg n1, if_neg n2, hd]
theorem jx_right {x : Int32} : jx 133 (am_ent 3 [.ref 0, .int x]) 226 (am_ent 2 [.ref 80, .int x]) := by
  rintro k h hk ⟨n, sl, kk, I, L, q, rfl, C, ah, M, tx, T, g, hr, ht, hu, hs, hc, hj, hn, hsl⟩
  have same := h_same (q := q) hk g hr ht hu hs hc hj hn hsl
  have gB := g.2.1
  obtain ⟨⟨b1, b2, b3⟩, b4, b5, b6, b7, b8⟩ := g.2.2.1.2.2.1
  have hC200 : C ≤ 200 := by rw [← b4]; exact gB.1.2
  have h45 : I 80 45 = nI C := by rw [gB.1.1, b4]
  have h2 : I 55 2 = nI C := by rw [b6]; exact h45
  by_cases hx : 1 ≤ x.toInt ∧ x.toInt ≤ C
  · have ex := x_nI (x := x) (by omega)
    obtain ⟨i, hi⟩ : ∃ i, x.toInt.toNat = i + 1 := ⟨x.toInt.toNat - 1, by omega⟩
    have hiC : i < C := by omega
    rw [hi] at ex
    subst ex
    have e1 := ev_x_right (d := 0) (n := n) (sl := sl) (L := L) b1 h2 hC200 hiC
    have hv : sp_m_right (i + 1) I L = sp_x_right i ah I L := by
      unfold sp_m_right sp_x_right
      rw [known_k gB (by omega) (by rw [b4]; omega), b8 i hiC, (b5 i hiC).1]
      cases kn I (i + 1) with
      | false => rfl
      | true =>
        rw [if_neg (show ¬ (if true = true then (1 : Int32) else 0) = 0 by decide), if_neg (show ¬ bz true = 0 by decide)]
        by_cases h3 : I 107 (i + 1) = 3
        · rw [if_pos h3, if_pos h3, (right_v (L := L) g ht hu hiC h3).1]
        · rw [if_neg h3, if_neg h3]
    have e2 := ev_m_right (d := 0) (n := n) (sl := sl) (k := kk) (q := q) (I := I) (L := L) (nn := i + 1) (by omega) (fun h3 => by
      obtain ⟨_, _, v3, v4, _, v6, v7⟩ := right_v (L := L) g ht hu hiC h3
      rw [v4, v6, nI_clamp (n := clN I (i + 1)) (by omega), nI_clamp (n := dyN I (i + 1)) (by omega)]
      exact ⟨fun z => z.elim (nI_pos (by omega)) (by omega), rfl, v7⟩)
    rw [hv] at e2
    exact jx_e (by decide) (by decide) e1 e2 same
  · have o1 : x < 1 ∨ nI C < x := by
      by_cases z : x.toInt < 1
      · exact Or.inl (Int32.lt_iff_toInt_lt.mpr z)
      · refine Or.inr (Int32.lt_iff_toInt_lt.mpr ?_)
        rw [nI_j, jI_toInt ⟨by omega, by omega⟩]
        omega
    obtain ⟨hn1, hn2⟩ := now_N (L := L) gB
    have o2 : x < 1 ∨ sp_m_now I L < x := by
      rcases o1 with z | z
      · exact Or.inl z
      · refine Or.inr (Int32.lt_iff_toInt_lt.mpr ?_)
        have := Int32.lt_iff_toInt_lt.mp z
        rw [nI_j, jI_toInt ⟨by omega, by omega⟩] at this
        rw [hn1, nI_j, jI_toInt ⟨by omega, by omega⟩]
        omega
    refine jx_e (d1 := 2) (d2 := 2) (by decide) (by decide) (ev_x_rightO (d := 0) h2 o1) (ev_m_rightO (d := 0) ⟨?_, fun z1 z2 => absurd o2 (fun z => z.elim z1 z2)⟩) same
    unfold sp_m_isKnown
    rcases o2 with z | z
    · rw [if_pos z]
    · by_cases y : x < 1
      · rw [if_pos y]
      · rw [if_neg y, if_pos z]
/-! ALL -/
def kZ (I : Nat → Nat → Int32) (P : Int32 → Bool) : Nat → Int32
  | 0 => 0
  | k + 1 => if kn I (k + 1) = true ∧ P (I 107 (k + 1)) = true then kZ I P k + 1 else kZ I P k
theorem kZ_n {I : Nat → Nat → Int32} {P : Int32 → Bool} {a : Nat} : ∀ b, nNow I ≤ a → kZ I P (a + b) = kZ I P a := by
  intro b ha
  induction b with
  | zero => rfl
  | succ b ih =>
    show (if kn I (a + b + 1) = true ∧ _ then _ else kZ I P (a + b)) = _
    rw [if_neg (fun z => by rw [kn_hi (show nNow I < a + b + 1 by omega)] at z; exact absurd z.1 (by decide)), ih]
section ALL
variable {n C : Nat} {kk : Nat → Nat × Nat} {q : Nat → Nat → Option Nat} {I : Nat → Nat → Int32} {L : Nat → Nat → Int64} {ah : Nat → Nat} {M : Nat → List (Nat × Nat × List Nat)}
theorem kinds (g : gInv n kk q I L C ah M) {i : Nat} (hi : i < C) : I 107 (i + 1) = 0 ∨ I 107 (i + 1) = 1 ∨ I 107 (i + 1) = 2 ∨ I 107 (i + 1) = 3 ∨ I 107 (i + 1) = 4 ∨ I 107 (i + 1) = 5 := by
  have b4 := g.2.2.1.2.2.1.2.1
  obtain ⟨_, _, _, w⟩ := g.2.1.2.2 (i + 1) (by omega) (by rw [b4]; omega)
  rcases w with w | w | w | w | w | w
  · exact Or.inl w.1
  · exact Or.inr (Or.inl w.1)
  · exact Or.inr (Or.inr (Or.inl w.1))
  · exact Or.inr (Or.inr (Or.inr (Or.inl w.1)))
  · exact Or.inr (Or.inr (Or.inr (Or.inr (Or.inl w))))
  · exact Or.inr (Or.inr (Or.inr (Or.inr (Or.inr w))))
theorem ck_v (g : gInv n kk q I L C ah M) {x y : Int32} {P : Int32 → Bool} (hP : ∀ z : Int32, (z = 0 ∨ z = 1 ∨ z = 2 ∨ z = 3 ∨ z = 4 ∨ z = 5) → (P z = true ↔ ¬ z < x ∧ ¬ y < z)) {N : Nat} : ∀ k, k ≤ C → it_b_countKnown x y N ah 0 I L k = kZ I P k := by
  intro k
  obtain ⟨_, b4, b5, _, _, b8⟩ := g.2.2.1.2.2.1
  induction k with
  | zero => intro _; rfl
  | succ k ih =>
    intro hk
    have e := hP _ (kinds g (i := k) (by omega))
    show (if (I (ah k) 8) = 0 then it_b_countKnown x y N ah 0 I L k else (if (I (ah k) 0) < x then it_b_countKnown x y N ah 0 I L k else (if y < (I (ah k) 0) then it_b_countKnown x y N ah 0 I L k else (it_b_countKnown x y N ah 0 I L k + Int32.ofInt 1)))) = if kn I (k + 1) = true ∧ P (I 107 (k + 1)) = true then kZ I P k + 1 else kZ I P k
    rw [ih (by omega), b8 k (by omega), (b5 k (by omega)).1]
    cases hkn : kn I (k + 1) with
    | false =>
      rw [if_pos (show bz false = 0 from rfl), if_neg (fun z => absurd z.1 (by decide))]
    | true =>
      rw [if_neg (show ¬ bz true = 0 by decide)]
      by_cases z1 : I 107 (k + 1) < x
      · rw [if_pos z1, if_neg (fun z => (e.mp z.2).1 z1)]
      · by_cases z2 : y < I 107 (k + 1)
        · rw [if_neg z1, if_pos z2, if_neg (fun z => (e.mp z.2).2 z2)]
        · rw [if_neg z1, if_neg z2, if_pos ⟨rfl, e.mpr ⟨z1, z2⟩⟩]
          rfl
theorem ma_v (g : gInv n kk q I L C ah M) {x : Int32} {P : Int32 → Bool} (hP : ∀ z : Int32, (z = 0 ∨ z = 1 ∨ z = 2 ∨ z = 3 ∨ z = 4 ∨ z = 5) → (P z = true ↔ (if x = 2 then z = 3 else ¬ 2 < z))) {N : Nat} : ∀ k, k ≤ C → it_m_all x N 0 I L k = kZ I P k := by
  intro k
  have b4 := g.2.2.1.2.2.1.2.1
  induction k with
  | zero => intro _; rfl
  | succ k ih =>
    intro hk
    have e := hP _ (kinds g (i := k) (by omega))
    show (if (sp_m_isKnown (nI (k + 1)) I L) = 0 then (it_m_all x N 0 I L k + 0) else (if x = 2 then (if (I 107 (k + 1)) = 3 then (it_m_all x N 0 I L k + 1) else (it_m_all x N 0 I L k + 0)) else (if 2 < (I 107 (k + 1)) then (it_m_all x N 0 I L k + 0) else (it_m_all x N 0 I L k + 1)))) = if kn I (k + 1) = true ∧ P (I 107 (k + 1)) = true then kZ I P k + 1 else kZ I P k
    rw [ih (by omega), known_k g.2.1 (by omega) (by rw [b4]; omega), Int32.add_zero]
    cases hkn : kn I (k + 1) with
    | false => rw [if_pos (show (if false = true then (1 : Int32) else 0) = 0 from rfl), if_neg (fun z => absurd z.1 (by decide))]
    | true =>
      rw [if_neg (show ¬ (if true = true then (1 : Int32) else 0) = 0 by decide)]
      by_cases hx : x = 2
      · rw [if_pos hx] at e ⊢
        by_cases z : I 107 (k + 1) = 3
        · rw [if_pos z, if_pos ⟨rfl, e.mpr z⟩]
        · rw [if_neg z, if_neg (fun y => z (e.mp y.2))]
      · rw [if_neg hx] at e ⊢
        by_cases z : 2 < I 107 (k + 1)
        · rw [if_pos z, if_neg (fun y => (e.mp y.2) z)]
        · rw [if_neg z, if_pos ⟨rfl, e.mpr z⟩]
end ALL
theorem jx_all {x : Int32} : jx 145 (am_ent 2 [.ref 0, .int x]) 244 (am_ent 4 [.ref 80, .int x]) := by
  rintro k h hk ⟨n, sl, kk, I, L, q, rfl, C, ah, M, tx, T, g, hr, ht, hu, hs, hc, hj, hn, hsl⟩
  have same := h_same (q := q) hk g hr ht hu hs hc hj hn hsl
  have gB := g.2.1
  obtain ⟨⟨b1, b2, b3⟩, b4, b5, b6, b7, b8⟩ := g.2.2.1.2.2.1
  have hC200 : C ≤ 200 := by rw [← b4]; exact gB.1.2
  have h45 : I 80 45 = nI C := by rw [gB.1.1, b4]
  have h2 : I 55 2 = nI C := by rw [b6]; exact h45
  have hcl : (I 55 2).toNatClampNeg = C := by rw [h2, nI_clamp (by omega)]
  obtain ⟨hn1, hn2⟩ := now_N (L := L) gB
  have hncl : (sp_m_now I L).toNatClampNeg = nNow I := now_cl gB
  obtain ⟨N, c1, c2, c3, _⟩ := hc
  have e2 := ev_m_all (d := 0) (n := n) (sl := sl) (k := kk) (q := q) (I := I) (L := L) (x := x) (by rw [hncl]; exact hn1) (by rw [hncl]; omega)
  have hnC : nNow I ≤ C := by omega
  have hkz : ∀ P, kZ I P C = kZ I P (nNow I) := fun P => by
    have := kZ_n (I := I) (P := P) (a := nNow I) (C - nNow I) (Nat.le_refl _)
    rw [show nNow I + (C - nNow I) = C by omega] at this
    exact this
  by_cases h0 : x.toInt < 0 ∨ 4 < x.toInt
  · have ne : ∀ a : Int32, 0 ≤ a.toInt → a.toInt ≤ 4 → ¬ x = a := fun a a1 a2 z => by subst z; omega
    have v : sp_m_all x I L = -1 := by
      unfold sp_m_all
      rw [if_neg (ne 0 (by decide) (by decide)), if_neg (ne 1 (by decide) (by decide)), if_neg (ne 4 (by decide) (by decide)), if_neg (ne 2 (by decide) (by decide)), if_neg (ne 3 (by decide) (by decide))]
    rw [v] at e2
    exact jx_e (d1 := 2) (by decide) (by decide) (ev_x_allO (d := 0) h0) e2 same
  · have hx : x = 0 ∨ x = 1 ∨ x = 2 ∨ x = 3 ∨ x = 4 := by
      have : x.toInt = 0 ∨ x.toInt = 1 ∨ x.toInt = 2 ∨ x.toInt = 3 ∨ x.toInt = 4 := by omega
      rw [← jI_self x]
      rcases this with z | z | z | z | z <;> rw [z]
      · exact Or.inl rfl
      · exact Or.inr (Or.inl rfl)
      · exact Or.inr (Or.inr (Or.inl rfl))
      · exact Or.inr (Or.inr (Or.inr (Or.inl rfl)))
      · exact Or.inr (Or.inr (Or.inr (Or.inr rfl)))
    clear h0
    rcases hx with rfl | rfl | rfl | rfl | rfl
    · have v : sp_m_all 0 I L = sp_b_size I L := by unfold sp_m_all sp_b_size; rw [if_pos rfl, h45, h2]
      rw [v] at e2
      exact jx_e (d1 := 3) (by decide) (by decide) (ev_x_all0 (d := 0)) e2 same
    · have v : sp_m_all 1 I L = sp_b_knownAt I L := by unfold sp_m_all sp_b_knownAt sp_m_now; rw [if_neg (by decide), if_pos rfl, b6, b7]
      rw [v] at e2
      exact jx_e (d1 := 3) (by decide) (by decide) (ev_x_all1 (d := 0)) e2 same
    · have v : sp_m_all 2 I L = sp_b_countKnown 3 3 ah I L := by
        unfold sp_m_all sp_b_countKnown
        rw [if_neg (by decide), if_neg (by decide), if_neg (by decide), if_pos rfl, hncl, hcl, ma_v g (P := fun z => decide (z = 3)) (fun z _ => by rw [if_pos rfl]; exact decide_eq_true_iff) (nNow I) hnC, ck_v g (P := fun z => decide (z = 3)) (fun z hz => by rcases hz with rfl | rfl | rfl | rfl | rfl | rfl <;> decide) C (Nat.le_refl _), hkz]
      rw [v] at e2
      exact jx_e (d1 := 3) (by decide) (by decide) (ev_x_all2 (d := 0) (by rw [hcl]; exact b1) (by rw [hcl]; exact h2) (by rw [hcl]; exact hC200)) e2 same
    · have v : sp_m_all 3 I L = sp_b_countKnown 0 2 ah I L := by
        unfold sp_m_all sp_b_countKnown
        rw [if_neg (by decide), if_neg (by decide), if_neg (by decide), if_neg (by decide), if_pos rfl, hncl, hcl, ma_v g (P := fun z => decide (¬ 2 < z)) (fun z _ => by rw [if_neg (by decide)]; exact decide_eq_true_iff) (nNow I) hnC, ck_v g (P := fun z => decide (¬ 2 < z)) (fun z hz => by rcases hz with rfl | rfl | rfl | rfl | rfl | rfl <;> decide) C (Nat.le_refl _), hkz]
      rw [v] at e2
      exact jx_e (d1 := 3) (by decide) (by decide) (ev_x_all3 (d := 0) (by rw [hcl]; exact b1) (by rw [hcl]; exact h2) (by rw [hcl]; exact hC200)) e2 same
    · have v : sp_m_all 4 I L = sp_c_size I L := by
        unfold sp_m_all sp_c_size
        rw [if_neg (by decide), if_neg (by decide), if_pos rfl, c3, c2]
      rw [v] at e2
      exact jx_e (d1 := 3) (by decide) (by decide) (ev_x_all4 (d := 0)) e2 same
/-! ABOVE -/
def abA (X : Nat → Nat → Int32) (x : Int32) : Nat → Nat → Int32
  | 0, _ => -1
  | m + 1, d => if x.toInt < (pS X d).2 then nI d else abA X x m (d + 1)
theorem leanAt_j {D : Nat} {X J : Nat → Nat → Int32} {K : Nat → Nat → Int64} (hD : D ≤ 400) (h : cRow J K X D) : sp_d_leanAt (nI D) J K = jI (pS X D).2 := by
  unfold sp_d_leanAt
  rw [if_neg (wi_0400 hD), nI_clamp (by omega)]
  exact h.1
theorem tv_x_above {x : Int32} {n sl C : Nat} {kk : Nat → Nat × Nat} {q : Nat → Nat → Option Nat} {I : Nat → Nat → Int32} {L : Nat → Nat → Int64} {ah : Nat → Nat} {M : Nat → List (Nat × Nat × List Nat)} (g0 : gInv n kk q I L C ah M) : ∀ m d : Nat, d + m = 401 → ∀ (J : Nat → Nat → Int32) (K : Nat → Nat → Int64), gInv n kk q J K C ah M → oFw n kk kk I J L K → (∀ j, 80 ≤ j → J j = I j) → J 55 = I 55 → J 13 12 = I 13 12 → (∀ E, pS J E = pS I E) → am_T 7 128 2 [some (.ref 0), some (.int x), some (.int (nI d))] [] (n, sl, wKK kk, J, K, wQQ q) (fun rv h' => rv = some (.int (abA I x m d)) ∧ ∃ J' K', h' = (n, sl, wKK kk, J', K', wQQ q) ∧ gInv n kk q J' K' C ah M ∧ oFw n kk kk I J' L K' ∧ (∀ j, 80 ≤ j → J' j = I j) ∧ J' 55 = I 55 ∧ J' 13 12 = I 13 12) := by
  intro m
  induction m with
  | zero =>
    intro d hd J K g1 f1 r80 r55 r13 hp
    have hd1 : d = 401 := by omega
    subst hd1
    show am_T _ _ 2 [some (.ref 0), some (.int x), some (.int 401)] _ _ _
    refine tv_b (pc' := 38) (ls' := [some (.ref 0), some (.int x), some (.int 401)]) (st' := [.int (-1)]) (h' := (n, sl, wKK kk, J, K, wQQ q)) 4 rfl ?_
    exact tv_ri rfl ⟨rfl, J, K, rfl, g1, f1, r80, r55, r13⟩
  | succ m ih =>
    intro d hd J K g1 f1 r80 r55 r13 hp
    obtain ⟨g2, r1, f2, s80, s55, s13, ⟨k1, k2⟩, hp1, h14⟩ := reach_g g1 (D := d) (by omega)
    have er := ev_d_reach (d := 1) (n := n) (sl := sl) (k := kk) (q := q) (L := K) (D := d) (by omega) k1 k2 h14
    have hlb := (pS_b g2.1 g2.2.1 d (by omega)).2
    generalize sI_d_reach d J K = J1 at g2 r1 f2 s80 s55 s13 hp1 er hlb
    generalize sL_d_reach d J K = K1 at g2 r1 f2 er
    have hl := leanAt_j (by omega) (r1 d (Nat.le_refl _))
    have hpe : (pS J1 d).2 = (pS I d).2 := by rw [hp1, hp]
    have hcmp : jI (pS J1 d).2 ≤ x ↔ ¬ x.toInt < (pS I d).2 := by
      rw [Int32.le_iff_toInt_le, jI_toInt ⟨by omega, by omega⟩, hpe]
      omega
    have g1 := g2
    have f1 := oFw_t f1 f2
    have r80 : ∀ j, 80 ≤ j → J1 j = I j := fun j hj => (s80 j hj).trans (r80 j hj)
    have r55 := s55.trans r55
    have r13 := s13.trans r13
    have hp : ∀ E, pS J1 E = pS I E := fun E => (hp1 E).trans (hp E)
    show am_T _ _ 2 [some (.ref 0), some (.int x), some (.int (nI d))] _ _ _
    refine tv_b (pc' := (if 400 < (nI d) then 37 else 9)) (ls' := [some (.ref 0), some (.int x), some (.int (nI d))]) (st' := []) (h' := (n, sl, wKK kk, J, K, wQQ q)) 3 rfl ?_
    refine tv_f (fun hq => absurd ((nI_ltI (a := 400) (b := d) (by omega) (by omega)).mp hq) (by omega)) ?_
    refine tv_b (pc' := 14) (ls' := [some (.ref 0), some (.int x), some (.int (nI d))]) (st' := [.int (nI d), .ref 13]) (h' := (n, sl, wKK kk, J, K, wQQ q)) 3 rfl ?_
    refine tv_cvE [.int (nI d)] [] rfl rfl (by omega) rfl (Nat.le_of_ble_eq_true rfl) (Nat.le_of_ble_eq_true rfl) (Or.inr (Or.inr rfl)) (er) ?_
    refine tv_b (pc' := 22) (ls' := [some (.ref 0), some (.int x), some (.int (nI d))]) (st' := [.int (nI d), .ref 13]) (h' := (n, sl, wKK kk, J1, K1, wQQ q)) 3 rfl ?_
    refine tv_cvE [.int (nI d)] [] rfl rfl (by omega) rfl (Nat.le_of_ble_eq_true rfl) (Nat.le_of_ble_eq_true rfl) (Or.inr (Or.inr rfl)) (ev_d_leanAt) ?_
    refine tv_b (pc' := (if (sp_d_leanAt (nI d) J1 K1) ≤ x then 31 else 29)) (ls' := [some (.ref 0), some (.int x), some (.int (nI d))]) (st' := []) (h' := (n, sl, wKK kk, J1, K1, wQQ q)) 2 rfl ?_
    refine tv_if (fun c26 => ?_) (fun c26 => ?_)
    · refine tv_iincN (k := d) (ls' := [some (.ref 0), some (.int x), some (.int (nI (d + 1)))]) rfl rfl rfl ?_
      refine tv_b (pc' := 2) (ls' := [some (.ref 0), some (.int x), some (.int (nI (d + 1)))]) (st' := []) (h' := (n, sl, wKK kk, J1, K1, wQQ q)) 1 rfl ?_
      exact tv_w (ih (d + 1) (by omega) J1 K1 g1 f1 r80 r55 r13 hp) (fun rv h' ho => ⟨by rw [ho.1]; show _ = some (Value.int (if x.toInt < (pS I d).2 then nI d else abA I x m (d + 1))); rw [if_neg (hcmp.mp (by rw [← hl]; exact c26))], ho.2⟩)
    · refine tv_b (pc' := 30) (ls' := [some (.ref 0), some (.int x), some (.int (nI d))]) (st' := [.int (nI d)]) (h' := (n, sl, wKK kk, J1, K1, wQQ q)) 1 rfl ?_
      exact tv_ri rfl ⟨by show _ = some (Value.int (if x.toInt < (pS I d).2 then nI d else abA I x m (d + 1))); rw [if_pos (Classical.not_not.mp (fun z => c26 (by rw [hl]; exact hcmp.mpr z)))], J1, K1, rfl, g1, f1, r80, r55, r13⟩
theorem tv_m_ab {d0 : Nat} {x : Int32} {n sl : Nat} {kk : Nat → Nat × Nat} {q : Nat → Nat → Option Nat} {X J : Nat → Nat → Int32} {K : Nat → Nat → Int64} (h114 : ∀ D, D ≤ 400 → K 114 D = jL (pS X D).2) (hb : ∀ D, D ≤ 400 → -1000000000 ≤ (pS X D).2 ∧ (pS X D).2 ≤ 1000000000) : ∀ m d : Nat, d + m = 401 → am_T d0 212 6 [some (.ref 80), some (.int x), some (.int (nI d))] [] (n, sl, wKK kk, J, K, wQQ q) (fun rv h' => rv = some (.int (abA X x m d)) ∧ h' = (n, sl, wKK kk, J, K, wQQ q)) := by
  intro m
  induction m with
  | zero =>
    intro d hd
    have hd1 : d = 401 := by omega
    subst hd1
    show am_T _ _ 6 [some (.ref 80), some (.int x), some (.int 401)] _ _ _
    refine tv_b (pc' := 34) (ls' := [some (.ref 80), some (.int x), some (.int 401)]) (st' := [.int (-1)]) (h' := (n, sl, wKK kk, J, K, wQQ q)) 4 rfl ?_
    exact tv_ri rfl ⟨rfl, rfl⟩
  | succ m ih =>
    intro d hd
    have hbd := hb d (by omega)
    have hx := x.toInt_lt
    have hx2 := x.le_toInt
    have hcmp : lg_cmp (K 114 d) x.toInt64 ≤ 0 ↔ ¬ x.toInt < (pS X d).2 := by
      rw [h114 d (by omega), j64_x x, cmp_le, jL_lt ⟨by omega, by omega⟩ ⟨by omega, by omega⟩]
    show am_T _ _ 6 [some (.ref 80), some (.int x), some (.int (nI d))] _ _ _
    refine tv_b (pc' := (if 400 < (nI d) then 33 else 13)) (ls' := [some (.ref 80), some (.int x), some (.int (nI d))]) (st' := []) (h' := (n, sl, wKK kk, J, K, wQQ q)) 3 rfl ?_
    refine tv_f (fun hq => absurd ((nI_ltI (a := 400) (b := d) (by omega) (by omega)).mp hq) (by omega)) ?_
    refine tv_b (pc' := 18) (ls' := [some (.ref 80), some (.int x), some (.int (nI d))]) (st' := [.int (nI d), .ref 114]) (h' := (n, sl, wKK kk, J, K, wQQ q)) 3 rfl ?_
    refine tv_lalN (k := d) rfl (rfl) (⟨by omega, by omega⟩) ?_
    refine tv_b (pc' := (if (lg_cmp (K 114 d) x.toInt64) ≤ 0 then 27 else 25)) (ls' := [some (.ref 80), some (.int x), some (.int (nI d))]) (st' := []) (h' := (n, sl, wKK kk, J, K, wQQ q)) 4 rfl ?_
    refine tv_if (fun c22 => ?_) (fun c22 => ?_)
    · refine tv_iincN (k := d) (ls' := [some (.ref 80), some (.int x), some (.int (nI (d + 1)))]) rfl rfl rfl ?_
      refine tv_b (pc' := 6) (ls' := [some (.ref 80), some (.int x), some (.int (nI (d + 1)))]) (st' := []) (h' := (n, sl, wKK kk, J, K, wQQ q)) 1 rfl ?_
      exact tv_w (ih (d + 1) (by omega)) (fun rv h' ho => ⟨by rw [ho.1]; show _ = some (Value.int (if x.toInt < (pS X d).2 then nI d else abA X x m (d + 1))); rw [if_neg (hcmp.mp c22)], ho.2⟩)
    · refine tv_b (pc' := 26) (ls' := [some (.ref 80), some (.int x), some (.int (nI d))]) (st' := [.int (nI d)]) (h' := (n, sl, wKK kk, J, K, wQQ q)) 1 rfl ?_
      exact tv_ri rfl ⟨by show _ = some (Value.int (if x.toInt < (pS X d).2 then nI d else abA X x m (d + 1))); rw [if_pos (Classical.not_not.mp (fun z => c22 (hcmp.mpr z)))], rfl⟩
theorem jx_above {x : Int32} : jx 128 (am_ent 3 [.ref 0, .int x]) 212 (am_ent 3 [.ref 80, .int x]) := by
  rintro k h hk ⟨n, sl, kk, I, L, q, rfl, C, ah, M, tx, T, g, hr, ht, hu, hs, hc, hj, hn, hsl⟩
  refine tv_up (d := 7) (by decide) ?_
  show am_T _ _ 0 [some (.ref 0), some (.int x), none] _ _ _
  refine tv_b (pc' := 2) (ls' := [some (.ref 0), some (.int x), some (.int (nI 0))]) (st' := []) (h' := (n, sl, wKK kk, I, L, wQQ q)) 2 rfl ?_
  refine tv_w (tv_x_above g 401 0 rfl I L g ⟨fun _ _ _ => rfl, fun _ _ => rfl, fun _ _ _ => rfl, fun _ _ _ => rfl, fun _ _ _ => rfl, fun _ _ => ⟨rfl, rfl⟩⟩ (fun _ _ => rfl) rfl rfl (fun _ => rfl)) (fun rv h1 ho => ?_)
  obtain ⟨rfl, J, K, rfl, g1, f1, r80, r55, r13⟩ := ho
  refine ⟨_, Or.inl ⟨_, rfl⟩, rfl, tv_up (d := 7) (by decide) ?_⟩
  have gB1 := g1.2.1
  obtain ⟨hn1, hn2⟩ := now_N (L := K) gB1
  have hC2 := gB1.1.2
  obtain ⟨g2, hP, f2, p2, hp2⟩ := play_g g1
  have ep := ev_m_play (d := 2) (n := n) (sl := sl) (k := kk) (q := q) (I := J) (L := K) (by rw [now_cl gB1]; exact hn1) (by rw [now_cl gB1]; omega) (gx_ok gB1) (gl_ok gB1)
  generalize sI_m_play J K = J3 at g2 hP f2 p2 hp2 ep
  generalize sL_m_play J K = K3 at g2 hP f2 ep
  have hE3 : rE J3 I := ⟨fun j i1 i2 => by rw [p2 j (by omega) (by omega), r80 j (by omega)], by rw [p2 80 (by decide) (by decide), r80 80 (by decide)], by rw [p2 80 (by decide) (by decide), r80 80 (by decide)]⟩
  show am_T _ _ 0 [some (.ref 80), some (.int x), none] _ _ _
  refine tv_b (pc' := 1) (ls' := [some (.ref 80), some (.int x), none]) (st' := [.ref 80]) (h' := (n, sl, wKK kk, J, K, wQQ q)) 1 rfl ?_
  refine tv_cvE [] [] rfl rfl (by omega) rfl (Nat.le_of_ble_eq_true rfl) (Nat.le_of_ble_eq_true rfl) (Or.inr (Or.inr rfl)) (ep) ?_
  refine tv_b (pc' := 6) (ls' := [some (.ref 80), some (.int x), some (.int 0)]) (st' := []) (h' := (n, sl, wKK kk, J3, K3, wQQ q)) 2 rfl ?_
  refine tv_w (tv_m_ab (X := I) (fun D hD => by rw [(hP.2.2 D hD).1, pS_c hE3]) (fun D hD => (pS_b g.1 g.2.1 D hD).2) 401 0 rfl) (fun rv h2 ho => ?_)
  obtain ⟨rfl, rfl⟩ := ho
  have hkn : ∀ i, kn J3 (i + 1) = kn I (i + 1) := fun i => by rw [(kn_c hE3).2.2]
  exact ⟨rfl, ojV_h hk g hr ht hu hs hc hj hn hsl (ojW_v ⟨n, sl, kk, J3, K3, q, C, ah, rfl, g2, oFw_t f1 f2, ⟨0, 0, Nat.le_refl _, by omega, by rw [p2 55 (by decide) (by decide), r55]; exact (Int32.add_zero _).symm, by rw [p2 13 (by decide) (by decide), r13]; exact (Int32.add_zero _).symm, fun _ i _ => hkn i, fun i _ _ => by rw [hE3.1 107 (by decide) (by decide), hE3.1 108 (by decide) (by decide), hE3.1 109 (by decide) (by decide), hE3.1 110 (by decide) (by decide), hE3.1 111 (by decide) (by decide)]; exact ⟨rfl, rfl, rfl, rfl, rfl⟩⟩, ⟨Nat.le_refl _, by omega, by omega⟩, Nat.le_refl _⟩)⟩
