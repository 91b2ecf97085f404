/-! BREACHES, BREACH -/
theorem vdR_r {vf : List Nat → Int64} {W : Nat} {much : Int32} : ∀ (l : List (Nat × Nat × List Nat)) (s a m : Bool), vdR vf W much s a m l = 0 ∨ vdR vf W much s a m l = 2 ∨ vdR vf W much s a m l = 3 ∨ vdR vf W much s a m l = 4 := by
  intro l
  induction l with
  | nil =>
    intro s a m
    unfold vdR
    cases s <;> cases a <;> cases m <;> decide
  | cons t r ih =>
    intro s a m
    unfold vdR
    (repeat' split) <;> exact ih _ _ _
theorem vdZ_r {X : Nat → Nat → Int32} {M : Nat → List (Nat × Nat × List Nat)} {W D : Nat} {much : Int32} : vdZ X M W much D ≤ 0 ↔ vdZ X M W much D = 0 := by
  have h : vdZ X M W much D = 0 ∨ vdZ X M W much D = 1 ∨ vdZ X M W much D = 2 ∨ vdZ X M W much D = 3 ∨ vdZ X M W much D = 4 := by
    unfold vdZ
    split
    · exact Or.inr (Or.inl rfl)
    · rcases vdR_r (vf := vfZ X D) (W := W) (much := much) (M (rN X D (nNow X))) false false false with h | h | h | h
      · exact Or.inl h
      · exact Or.inr (Or.inr (Or.inl h))
      · exact Or.inr (Or.inr (Or.inr (Or.inl h)))
      · exact Or.inr (Or.inr (Or.inr (Or.inr h)))
  rcases h with h | h | h | h | h <;> rw [h] <;> decide
theorem brl_len {X : Nat → Nat → Int32} {M : Nat → List (Nat × Nat × List Nat)} : ∀ k, (brl X M k).length ≤ k := by
  intro k
  induction k with
  | zero => exact Nat.le_refl _
  | succ k ih =>
    unfold brl
    split
    · rw [List.length_append]; show _ + 1 ≤ _; omega
    · omega
theorem brl_s {X : Nat → Nat → Int32} {M : Nat → List (Nat × Nat × List Nat)} {k : Nat} (h : isB X M (k + 1) = true) : (brl X M (k + 1)).length = (brl X M k).length + 1 ∧ (∀ i, i < (brl X M k).length → (brl X M (k + 1)).getD i 0 = (brl X M k).getD i 0) ∧ (brl X M (k + 1)).getD (brl X M k).length 0 = k + 1 := by
  have e : brl X M (k + 1) = brl X M k ++ [k + 1] := if_pos h
  rw [e]
  refine ⟨List.length_append, fun i hi => getD_l hi, ?_⟩
  have := getD_r (a := brl X M k) (b := [k + 1]) (j := 0)
  exact this
theorem brl_n {X : Nat → Nat → Int32} {M : Nat → List (Nat × Nat × List Nat)} {k : Nat} (h : ¬ isB X M (k + 1) = true) : brl X M (k + 1) = brl X M k := if_neg h
theorem brl_now {X : Nat → Nat → Int32} {M : Nat → List (Nat × Nat × List Nat)} {C : Nat} (h : nNow X ≤ C) : brl X M C = brl X M (nNow X) := by
  obtain ⟨e, rfl⟩ : ∃ e, C = nNow X + e := ⟨C - nNow X, by omega⟩
  induction e with
  | zero => rfl
  | succ e ih =>
    rw [← ih (by omega)]
    refine brl_n (k := nNow X + e) (fun z => ?_)
    unfold isB at z
    have := (of_decide_eq_true z).1
    rw [kn_hi (show nNow X < nNow X + e + 1 by omega)] at this
    exact absurd this (by decide)
/-- the breaches found so far -/
def fbP (I0 : Nat → Nat → Int32) (L0 : Nat → Nat → Int64) (M : Nat → List (Nat × Nat × List Nat)) (k : Nat) (J : Nat → Nat → Int32) (K : Nat → Nat → Int64) : Prop := (∀ j, j ≠ 60 → j ≠ 63 → J j = I0 j) ∧ (∀ k', k' ≠ 4 → k' ≠ 9 → J 60 k' = I0 60 k') ∧ (∀ j, j ≠ 60 → j ≠ 61 → j ≠ 62 → K j = L0 j) ∧ J 60 9 = nI (brl I0 M k).length ∧ ∀ i, i < (brl I0 M k).length → J 63 i = nI ((brl I0 M k).getD i 0)
theorem fbP_n {I0 J : Nat → Nat → Int32} {L0 K : Nat → Nat → Int64} {M : Nat → List (Nat × Nat × List Nat)} {k : Nat} (h : fbP I0 L0 M k J K) (hb : ¬ isB I0 M (k + 1) = true) : fbP I0 L0 M (k + 1) J K := by
  unfold fbP
  rw [brl_n hb]
  exact h
theorem fbP_v {I0 J J1 : Nat → Nat → Int32} {L0 K K1 : Nat → Nat → Int64} {M : Nat → List (Nat × Nat × List Nat)} {k : Nat} (h : fbP I0 L0 M k J K) (f : jdF J J1 K K1) : fbP I0 L0 M k J1 K1 := by
  obtain ⟨h1, h2, h3, h4, h5⟩ := h
  obtain ⟨f1, f2, f3⟩ := f
  exact ⟨fun j j1 j2 => (f1 j j1).trans (h1 j j1 j2), fun i i1 i2 => (f2 i i1).trans (h2 i i1 i2), fun j j1 j2 j3 => (f3 j j1 j2 j3).trans (h3 j j1 j2 j3), (f2 9 (by decide)).trans h4, fun i hi => by rw [f1 63 (by decide)]; exact h5 i hi⟩
theorem fbP_s {I0 J : Nat → Nat → Int32} {L0 K : Nat → Nat → Int64} {M : Nat → List (Nat × Nat × List Nat)} {k : Nat} (h : fbP I0 L0 M k J K) (hb : isB I0 M (k + 1) = true) : fbP I0 L0 M (k + 1) (va_up (va_up J 63 (upd (J 63) (brl I0 M k).length (nI (k + 1)))) 60 (upd ((va_up J 63 (upd (J 63) (brl I0 M k).length (nI (k + 1)))) 60) 9 (nI ((brl I0 M k).length + 1)))) K := by
  obtain ⟨h1, h2, h3, h4, h5⟩ := h
  obtain ⟨b1, b2, b3⟩ := brl_s hb
  refine ⟨fun j j1 j2 => by rw [va_n1 j1, va_n1 j2]; exact h1 j j1 j2, fun i i1 i2 => by rw [va_e1, upd_n i2, va_n1 (by decide)]; exact h2 i i1 i2, h3, by rw [va_e1, upd_e, b1], fun i hi => ?_⟩
  rw [va_n1 (by decide), va_e1]
  rw [b1] at hi
  by_cases z : i = (brl I0 M k).length
  · subst z
    rw [upd_e, b3]
  · rw [upd_n z, b2 i (by omega)]
    exact h5 i (by omega)
set_option maxHeartbeats 2000000 in
theorem tv_fb {n sl C : Nat} {kk : Nat → Nat × Nat} {q : Nat → Nat → Option Nat} {I : Nat → Nat → Int32} {L : Nat → Nat → Int64} {ah : Nat → Nat} {M : Nat → List (Nat × Nat × List Nat)} (g : gInv n kk q I L C ah M) (hr : ∀ E, E ≤ 400 → cRow I L I E) : ∀ m k : Nat, k + m = C → ∀ (J : Nat → Nat → Int32) (K : Nat → Nat → Int64) (o2 : Option Value), fbP I L M k J K → am_T 7 50 58 [some (.ref 60), some (.int (nI (k + 1))), o2] [] (n, sl, wKK kk, J, K, wQQ q) (fun rv h' => rv = none ∧ ∃ J' K', h' = (n, sl, wKK kk, J', K', wQQ q) ∧ fbP I L M C J' K') := by
  have gT := g.1
  have gB := g.2.1
  have gG := g.2.2.1
  have gc := g.2.2.2.1
  obtain ⟨⟨b1, b2, b3⟩, b4, b5, b6, b7, b8⟩ := gG.2.2.1
  have hC2 : C ≤ 200 := by rw [← b4]; exact gB.1.2
  have h2 : I 55 2 = nI C := by rw [b6, gB.1.1, b4]
  intro m
  induction m with
  | zero =>
    intro k hk J K o2 hP
    have hk2 : k = C := by omega
    subst hk2
    have hsz : sp_b_size J K = nI k := by
      unfold sp_b_size
      rw [hP.1 55 (by decide) (by decide)]; exact h2
    have es : ∀ d', am_Ev d' 5 0 (am_ent 1 [.ref 55]) [] (n, sl, wKK kk, J, K, wQQ q) (some (.int (nI k)), (n, sl, wKK kk, J, K, wQQ q)) := fun d' => by
      have e := ev_b_size (d := d') (n := n) (sl := sl) (k := kk) (q := q) (I := J) (L := K)
      rw [hsz] at e
      exact e
    show am_T _ _ 58 [some (.ref 60), some (.int (nI (k + 1))), o2] _ _ _
    refine tv_b (pc' := 63) (ls' := [some (.ref 60), some (.int (nI (k + 1))), o2]) (st' := [.ref 55, .int (nI (k + 1))]) (h' := (n, sl, wKK kk, J, K, wQQ q)) 3 rfl ?_
    refine tv_cvE [] [.int (nI (k + 1))] rfl rfl (by omega) rfl (Nat.le_of_ble_eq_true rfl) (Nat.le_of_ble_eq_true rfl) (Or.inr (Or.inr rfl)) (es _) ?_
    refine tv_b (pc' := (if (nI k) < (nI (k + 1)) then 151 else 69)) (ls' := [some (.ref 60), some (.int (nI (k + 1))), o2]) (st' := []) (h' := (n, sl, wKK kk, J, K, wQQ q)) 1 rfl ?_
    refine tv_t ((nI_ltI (a := k) (b := (k + 1)) (by omega) (by omega)).mpr (by omega)) ?_
    exact tv_rv rfl ⟨rfl, J, K, rfl, hP⟩
  | succ m ih =>
    intro k hk J K o2 hP
    have hkC : k < C := by omega
    have hsz : sp_b_size J K = nI C := by
      unfold sp_b_size
      rw [hP.1 55 (by decide) (by decide)]; exact h2
    have es : ∀ d', am_Ev d' 5 0 (am_ent 1 [.ref 55]) [] (n, sl, wKK kk, J, K, wQQ q) (some (.int (nI C)), (n, sl, wKK kk, J, K, wQQ q)) := fun d' => by
      have e := ev_b_size (d := d') (n := n) (sl := sl) (k := kk) (q := q) (I := J) (L := K)
      rw [hsz] at e
      exact e
    have hah := b1 k hkC
    have hJa : J (ah k) = I (ah k) := hP.1 _ (by omega) (by omega)
    have j55 : J 55 2 = nI C := by rw [hP.1 55 (by decide) (by decide)]; exact h2
    have gJ : cGr n kk q J K I C ah := cGr_m (Nat.le_refl _) (fun _ _ => rfl) rfl (fun j hj => hP.1 j (by omega) (by omega)) (fun j j1 j2 => hP.1 j (by omega) (by omega)) (fun j hj => hP.2.2.1 j (by omega) (by omega) (by omega)) gG
    have cJ : cCode n kk q J I C ah M := cCode_m (Nat.le_refl _) (fun _ _ => rfl) (fun _ _ => rfl) (fun j j1 j2 j3 => hP.1 j (by omega) (by omega)) (fun i hi => rfl) gc
    have rJ : ∀ E, E ≤ 400 → cRow J K I E := fun E hE => by
      obtain ⟨q1, q2, q3, q4⟩ := hr E hE
      exact ⟨by rw [hP.1 52 (by decide) (by decide)]; exact q1, by rw [hP.1 53 (by decide) (by decide)]; exact q2, by rw [hP.1 54 (by decide) (by decide)]; exact q3, fun c hc => by rw [hP.2.2.1 (36 + c) (by omega) (by omega) (by omega)]; exact q4 c hc⟩
    obtain ⟨a0, a1, a7, a20, a21, a22, a23⟩ := b5 k hkC
    have h8 : J (ah k) 8 = bz (kn I (k + 1)) := by rw [hJa]; exact b8 k hkC
    have hwA := gB.2.2 (k + 1) (by omega) (by rw [b4]; omega)
    have hlen := brl_len (X := I) (M := M) k
    by_cases hkn : kn I (k + 1) = true
    · have hk1 : ¬ J (ah k) 8 = 0 := by rw [h8, hkn]; decide
      by_cases hw : I 107 (k + 1) = 0 ∨ I 107 (k + 1) = 1 ∨ I 107 (k + 1) = 2
      · have hwk : J (ah k) 0 = 0 ∨ J (ah k) 0 = 1 ∨ J (ah k) 0 = 2 := by rw [hJa, a0]; exact hw
        have e0 : J (ah k) 0 = nI (I 107 (k + 1)).toNatClampNeg ∧ (I 107 (k + 1)).toNatClampNeg < 3 := by
          rw [hJa, a0]
          rcases hw with z | z | z <;> rw [z] <;> exact ⟨by decide, by decide⟩
        obtain ⟨e0, hW⟩ := e0
        have e1 : J (ah k) 1 = nI (dyN I (k + 1)) := by rw [hJa, a1]; exact hwA.2.1
        have hD := hwA.2.2.1
        have e4 : J (ah k) 4 = muZ I (k + 1) := by
          rw [hJa]
          unfold muZ
          rcases hw with z | z | z
          · rw [if_pos z]; exact (a20 z).2.2.1
          · rw [if_neg (by rw [z]; decide), if_pos z]; exact (a21 z).2.2
          · rw [if_neg (by rw [z]; decide), if_neg (by rw [z]; decide)]; exact (a22 z).2.2
        have hib : isB I M (k + 1) = true ↔ ¬ vdZ I M (I 107 (k + 1)).toNatClampNeg (muZ I (k + 1)) (dyN I (k + 1)) = 0 := by
          unfold isB
          rw [decide_eq_true_iff]
          exact ⟨fun z => z.2.2, fun z => ⟨hkn, hw, z⟩⟩
        generalize hWe : (I 107 (k + 1)).toNatClampNeg = W at e0 hW hib
        generalize hDe : dyN I (k + 1) = D at e1 hD hib
        generalize hme : muZ I (k + 1) = much at e4 hib
        have h9 := hP.2.2.2.1
        by_cases hz : (vdZ I M W much D) = 0
        · have hnb : ¬ isB I M (k + 1) = true := fun y => (hib.mp y) hz
          show am_T _ _ 58 [some (.ref 60), some (.int (nI (k + 1))), o2] _ _ _
          refine tv_b (pc' := 63) (ls' := [some (.ref 60), some (.int (nI (k + 1))), o2]) (st' := [.ref 55, .int (nI (k + 1))]) (h' := (n, sl, wKK kk, J, K, wQQ q)) 3 rfl ?_
          refine tv_cvE [] [.int (nI (k + 1))] rfl rfl (by omega) rfl (Nat.le_of_ble_eq_true rfl) (Nat.le_of_ble_eq_true rfl) (Or.inr (Or.inr rfl)) (es _) ?_
          refine tv_b (pc' := (if (nI C) < (nI (k + 1)) then 151 else 69)) (ls' := [some (.ref 60), some (.int (nI (k + 1))), o2]) (st' := []) (h' := (n, sl, wKK kk, J, K, wQQ q)) 1 rfl ?_
          refine tv_f (fun hq => absurd ((nI_ltI (a := C) (b := (k + 1)) (by omega) (by omega)).mp hq) (by omega)) ?_
          refine tv_b (pc' := 74) (ls' := [some (.ref 60), some (.int (nI (k + 1))), o2]) (st' := [.int (nI (k + 1)), .ref 55]) (h' := (n, sl, wKK kk, J, K, wQQ q)) 3 rfl ?_
          refine tv_cvE [.int (nI (k + 1))] [] rfl rfl (by omega) rfl (Nat.le_of_ble_eq_true rfl) (Nat.le_of_ble_eq_true rfl) (Or.inr (Or.inr rfl)) (ev_b_act b1 j55 hC2 hkC) ?_
          refine tv_b (pc' := 83) (ls' := [some (.ref 60), some (.int (nI (k + 1))), some (.ref (ah k))]) (st' := [.ref (ah k)]) (h' := (n, sl, wKK kk, J, K, wQQ q)) 4 rfl ?_
          refine tv_gfa rfl (Or.inr rfl) (am_acK hah.2) ?_
          refine tv_b (pc' := (if (J (ah k) 8) = 0 then 145 else 89)) (ls' := [some (.ref 60), some (.int (nI (k + 1))), some (.ref (ah k))]) (st' := []) (h' := (n, sl, wKK kk, J, K, wQQ q)) 1 rfl ?_
          refine tv_f (hk1) ?_
          refine tv_b (pc' := 90) (ls' := [some (.ref 60), some (.int (nI (k + 1))), some (.ref (ah k))]) (st' := [.ref (ah k)]) (h' := (n, sl, wKK kk, J, K, wQQ q)) 1 rfl ?_
          refine tv_cvE [] [] rfl rfl (by omega) rfl (Nat.le_of_ble_eq_true rfl) (Nat.le_of_ble_eq_true rfl) (Or.inr (Or.inr (am_acK hah.2))) (ev_a_isWork1 hah.2 hwk) ?_
          refine tv_b (pc' := 100) (ls' := [some (.ref 60), some (.int (nI (k + 1))), some (.ref (ah k))]) (st' := [.int (J 60 9)]) (h' := (n, sl, wKK kk, J, K, wQQ q)) 3 rfl ?_
          refine tv_top (h9) ?_
          refine tv_b (pc' := (if 200 ≤ (nI ((brl I M k).length)) then 145 else 106)) (ls' := [some (.ref 60), some (.int (nI (k + 1))), some (.ref (ah k))]) (st' := []) (h' := (n, sl, wKK kk, J, K, wQQ q)) 2 rfl ?_
          refine tv_f (fun hq => absurd ((nI_leI (a := 200) (b := (brl I M k).length) (by omega) (by omega)).mp hq) (by omega)) ?_
          refine tv_b (pc' := 108) (ls' := [some (.ref 60), some (.int (nI (k + 1))), some (.ref (ah k))]) (st' := [.ref (ah k), .ref 60]) (h' := (n, sl, wKK kk, J, K, wQQ q)) 2 rfl ?_
          refine tv_gfa rfl (Or.inl rfl) (am_acK hah.2) ?_
          refine tv_top (e0) ?_
          refine tv_b (pc' := 112) (ls' := [some (.ref 60), some (.int (nI (k + 1))), some (.ref (ah k))]) (st' := [.ref (ah k), .int (nI W), .ref 60]) (h' := (n, sl, wKK kk, J, K, wQQ q)) 1 rfl ?_
          refine tv_gfa rfl (Or.inl rfl) (am_acK hah.2) ?_
          refine tv_top (e4) ?_
          refine tv_b (pc' := 116) (ls' := [some (.ref 60), some (.int (nI (k + 1))), some (.ref (ah k))]) (st' := [.ref (ah k), .int much, .int (nI W), .ref 60]) (h' := (n, sl, wKK kk, J, K, wQQ q)) 1 rfl ?_
          refine tv_gfa rfl (Or.inl rfl) (am_acK hah.2) ?_
          refine tv_top (e1) ?_
          refine tv_cv [.int (nI W), .int much, .int (nI D)] [] rfl rfl (by omega) rfl (Nat.le_of_ble_eq_true rfl) (Nat.le_of_ble_eq_true rfl) (Or.inr (Or.inr rfl)) (tv_j_verdict (d := 0) (much := much) hW hD gT gB gJ.1 gJ.2.1 gJ.2.2.1 gJ.2.2.2.1 (rJ D (by omega)) (fun _ => rJ (D - 1) (by omega)) cJ) ?_
          rintro rv9 h9 ⟨rfl, J1, K1, rfl, jf⟩
          have hP1 := fbP_v hP jf
          refine tv_b (pc' := (if (vdZ I M W much D) = 0 then 145 else 125)) (ls' := [some (.ref 60), some (.int (nI (k + 1))), some (.ref (ah k))]) (st' := []) (h' := (n, sl, wKK kk, J1, K1, wQQ q)) 1 rfl ?_
          refine tv_t (hz) ?_
          refine tv_iincN (k := (k + 1)) (ls' := [some (.ref 60), some (.int (nI ((k + 1) + 1))), some (.ref (ah k))]) rfl rfl rfl ?_
          refine tv_b (pc' := 58) (ls' := [some (.ref 60), some (.int (nI ((k + 1) + 1))), some (.ref (ah k))]) (st' := []) (h' := (n, sl, wKK kk, J1, K1, wQQ q)) 1 rfl ?_
          exact ih (k + 1) (by omega) _ _ _ (fbP_n hP1 hnb)
        · have hyb : isB I M (k + 1) = true := hib.mpr hz
          show am_T _ _ 58 [some (.ref 60), some (.int (nI (k + 1))), o2] _ _ _
          refine tv_b (pc' := 63) (ls' := [some (.ref 60), some (.int (nI (k + 1))), o2]) (st' := [.ref 55, .int (nI (k + 1))]) (h' := (n, sl, wKK kk, J, K, wQQ q)) 3 rfl ?_
          refine tv_cvE [] [.int (nI (k + 1))] rfl rfl (by omega) rfl (Nat.le_of_ble_eq_true rfl) (Nat.le_of_ble_eq_true rfl) (Or.inr (Or.inr rfl)) (es _) ?_
          refine tv_b (pc' := (if (nI C) < (nI (k + 1)) then 151 else 69)) (ls' := [some (.ref 60), some (.int (nI (k + 1))), o2]) (st' := []) (h' := (n, sl, wKK kk, J, K, wQQ q)) 1 rfl ?_
          refine tv_f (fun hq => absurd ((nI_ltI (a := C) (b := (k + 1)) (by omega) (by omega)).mp hq) (by omega)) ?_
          refine tv_b (pc' := 74) (ls' := [some (.ref 60), some (.int (nI (k + 1))), o2]) (st' := [.int (nI (k + 1)), .ref 55]) (h' := (n, sl, wKK kk, J, K, wQQ q)) 3 rfl ?_
          refine tv_cvE [.int (nI (k + 1))] [] rfl rfl (by omega) rfl (Nat.le_of_ble_eq_true rfl) (Nat.le_of_ble_eq_true rfl) (Or.inr (Or.inr rfl)) (ev_b_act b1 j55 hC2 hkC) ?_
          refine tv_b (pc' := 83) (ls' := [some (.ref 60), some (.int (nI (k + 1))), some (.ref (ah k))]) (st' := [.ref (ah k)]) (h' := (n, sl, wKK kk, J, K, wQQ q)) 4 rfl ?_
          refine tv_gfa rfl (Or.inr rfl) (am_acK hah.2) ?_
          refine tv_b (pc' := (if (J (ah k) 8) = 0 then 145 else 89)) (ls' := [some (.ref 60), some (.int (nI (k + 1))), some (.ref (ah k))]) (st' := []) (h' := (n, sl, wKK kk, J, K, wQQ q)) 1 rfl ?_
          refine tv_f (hk1) ?_
          refine tv_b (pc' := 90) (ls' := [some (.ref 60), some (.int (nI (k + 1))), some (.ref (ah k))]) (st' := [.ref (ah k)]) (h' := (n, sl, wKK kk, J, K, wQQ q)) 1 rfl ?_
          refine tv_cvE [] [] rfl rfl (by omega) rfl (Nat.le_of_ble_eq_true rfl) (Nat.le_of_ble_eq_true rfl) (Or.inr (Or.inr (am_acK hah.2))) (ev_a_isWork1 hah.2 hwk) ?_
          refine tv_b (pc' := 100) (ls' := [some (.ref 60), some (.int (nI (k + 1))), some (.ref (ah k))]) (st' := [.int (J 60 9)]) (h' := (n, sl, wKK kk, J, K, wQQ q)) 3 rfl ?_
          refine tv_top (h9) ?_
          refine tv_b (pc' := (if 200 ≤ (nI ((brl I M k).length)) then 145 else 106)) (ls' := [some (.ref 60), some (.int (nI (k + 1))), some (.ref (ah k))]) (st' := []) (h' := (n, sl, wKK kk, J, K, wQQ q)) 2 rfl ?_
          refine tv_f (fun hq => absurd ((nI_leI (a := 200) (b := (brl I M k).length) (by omega) (by omega)).mp hq) (by omega)) ?_
          refine tv_b (pc' := 108) (ls' := [some (.ref 60), some (.int (nI (k + 1))), some (.ref (ah k))]) (st' := [.ref (ah k), .ref 60]) (h' := (n, sl, wKK kk, J, K, wQQ q)) 2 rfl ?_
          refine tv_gfa rfl (Or.inl rfl) (am_acK hah.2) ?_
          refine tv_top (e0) ?_
          refine tv_b (pc' := 112) (ls' := [some (.ref 60), some (.int (nI (k + 1))), some (.ref (ah k))]) (st' := [.ref (ah k), .int (nI W), .ref 60]) (h' := (n, sl, wKK kk, J, K, wQQ q)) 1 rfl ?_
          refine tv_gfa rfl (Or.inl rfl) (am_acK hah.2) ?_
          refine tv_top (e4) ?_
          refine tv_b (pc' := 116) (ls' := [some (.ref 60), some (.int (nI (k + 1))), some (.ref (ah k))]) (st' := [.ref (ah k), .int much, .int (nI W), .ref 60]) (h' := (n, sl, wKK kk, J, K, wQQ q)) 1 rfl ?_
          refine tv_gfa rfl (Or.inl rfl) (am_acK hah.2) ?_
          refine tv_top (e1) ?_
          refine tv_cv [.int (nI W), .int much, .int (nI D)] [] rfl rfl (by omega) rfl (Nat.le_of_ble_eq_true rfl) (Nat.le_of_ble_eq_true rfl) (Or.inr (Or.inr rfl)) (tv_j_verdict (d := 0) (much := much) hW hD gT gB gJ.1 gJ.2.1 gJ.2.2.1 gJ.2.2.2.1 (rJ D (by omega)) (fun _ => rJ (D - 1) (by omega)) cJ) ?_
          rintro rv9 h9 ⟨rfl, J1, K1, rfl, jf⟩
          have hP1 := fbP_v hP jf
          refine tv_b (pc' := (if (vdZ I M W much D) = 0 then 145 else 125)) (ls' := [some (.ref 60), some (.int (nI (k + 1))), some (.ref (ah k))]) (st' := []) (h' := (n, sl, wKK kk, J1, K1, wQQ q)) 1 rfl ?_
          refine tv_f (hz) ?_
          refine tv_b (pc' := 133) (ls' := [some (.ref 60), some (.int (nI (k + 1))), some (.ref (ah k))]) (st' := [.int (J1 60 9), .ref 63]) (h' := (n, sl, wKK kk, J1, K1, wQQ q)) 4 rfl ?_
          refine tv_top (hP1.2.2.2.1) ?_
          refine tv_b (pc' := 134) (ls' := [some (.ref 60), some (.int (nI (k + 1))), some (.ref (ah k))]) (st' := [.int (nI (k + 1)), .int (nI ((brl I M k).length)), .ref 63]) (h' := (n, sl, wKK kk, J1, K1, wQQ q)) 1 rfl ?_
          refine tv_iasN (k := ((brl I M k).length)) rfl (rfl) (⟨by omega, by omega⟩) ?_
          refine tv_b (pc' := 140) (ls' := [some (.ref 60), some (.int (nI (k + 1))), some (.ref (ah k))]) (st' := [.int ((va_up J1 63 (upd (J1 63) ((brl I M k).length) (nI (k + 1)))) 60 9), .ref 60]) (h' := (n, sl, wKK kk, va_up J1 63 (upd (J1 63) ((brl I M k).length) (nI (k + 1))), K1, wQQ q)) 3 rfl ?_
          refine tv_top (show _ = nI (brl I M k).length by rw [va_n1 (by decide)]; exact hP1.2.2.2.1) ?_
          refine tv_b (pc' := 141) (ls' := [some (.ref 60), some (.int (nI (k + 1))), some (.ref (ah k))]) (st' := [.int 1, .int (nI ((brl I M k).length)), .ref 60]) (h' := (n, sl, wKK kk, va_up J1 63 (upd (J1 63) ((brl I M k).length) (nI (k + 1))), K1, wQQ q)) 1 rfl ?_
          refine tv_b (pc' := 142) (ls' := [some (.ref 60), some (.int (nI (k + 1))), some (.ref (ah k))]) (st' := [.int ((nI ((brl I M k).length)) + 1), .ref 60]) (h' := (n, sl, wKK kk, va_up J1 63 (upd (J1 63) ((brl I M k).length) (nI (k + 1))), K1, wQQ q)) 1 rfl ?_
          refine tv_top (show (nI ((brl I M k).length)) + 1 = nI (((brl I M k).length) + 1) from nI_add ((brl I M k).length) 1) ?_
          refine tv_b (pc' := 145) (ls' := [some (.ref 60), some (.int (nI (k + 1))), some (.ref (ah k))]) (st' := []) (h' := (n, sl, wKK kk, va_up (va_up J1 63 (upd (J1 63) ((brl I M k).length) (nI (k + 1)))) 60 (upd (va_up J1 63 (upd (J1 63) ((brl I M k).length) (nI (k + 1))) 60) 9 (nI (((brl I M k).length) + 1))), K1, wQQ q)) 1 rfl ?_
          refine tv_iincN (k := (k + 1)) (ls' := [some (.ref 60), some (.int (nI ((k + 1) + 1))), some (.ref (ah k))]) rfl rfl rfl ?_
          refine tv_b (pc' := 58) (ls' := [some (.ref 60), some (.int (nI ((k + 1) + 1))), some (.ref (ah k))]) (st' := []) (h' := (n, sl, wKK kk, va_up (va_up J1 63 (upd (J1 63) ((brl I M k).length) (nI (k + 1)))) 60 (upd (va_up J1 63 (upd (J1 63) ((brl I M k).length) (nI (k + 1))) 60) 9 (nI (((brl I M k).length) + 1))), K1, wQQ q)) 1 rfl ?_
          exact ih (k + 1) (by omega) _ _ _ (fbP_s hP1 hyb)
      · have hw2 : J (ah k) 0 = 3 ∨ J (ah k) 0 = 4 ∨ J (ah k) 0 = 5 := by
          rw [hJa, a0]
          rcases kinds g hkC with z | z | z | z | z | z
          · exact absurd (Or.inl z) hw
          · exact absurd (Or.inr (Or.inl z)) hw
          · exact absurd (Or.inr (Or.inr z)) hw
          · exact Or.inl z
          · exact Or.inr (Or.inl z)
          · exact Or.inr (Or.inr z)
        have hnb : ¬ isB I M (k + 1) = true := fun y => by
          unfold isB at y
          exact hw (of_decide_eq_true y).2.1
        show am_T _ _ 58 [some (.ref 60), some (.int (nI (k + 1))), o2] _ _ _
        refine tv_b (pc' := 63) (ls' := [some (.ref 60), some (.int (nI (k + 1))), o2]) (st' := [.ref 55, .int (nI (k + 1))]) (h' := (n, sl, wKK kk, J, K, wQQ q)) 3 rfl ?_
        refine tv_cvE [] [.int (nI (k + 1))] rfl rfl (by omega) rfl (Nat.le_of_ble_eq_true rfl) (Nat.le_of_ble_eq_true rfl) (Or.inr (Or.inr rfl)) (es _) ?_
        refine tv_b (pc' := (if (nI C) < (nI (k + 1)) then 151 else 69)) (ls' := [some (.ref 60), some (.int (nI (k + 1))), o2]) (st' := []) (h' := (n, sl, wKK kk, J, K, wQQ q)) 1 rfl ?_
        refine tv_f (fun hq => absurd ((nI_ltI (a := C) (b := (k + 1)) (by omega) (by omega)).mp hq) (by omega)) ?_
        refine tv_b (pc' := 74) (ls' := [some (.ref 60), some (.int (nI (k + 1))), o2]) (st' := [.int (nI (k + 1)), .ref 55]) (h' := (n, sl, wKK kk, J, K, wQQ q)) 3 rfl ?_
        refine tv_cvE [.int (nI (k + 1))] [] rfl rfl (by omega) rfl (Nat.le_of_ble_eq_true rfl) (Nat.le_of_ble_eq_true rfl) (Or.inr (Or.inr rfl)) (ev_b_act b1 j55 hC2 hkC) ?_
        refine tv_b (pc' := 83) (ls' := [some (.ref 60), some (.int (nI (k + 1))), some (.ref (ah k))]) (st' := [.ref (ah k)]) (h' := (n, sl, wKK kk, J, K, wQQ q)) 4 rfl ?_
        refine tv_gfa rfl (Or.inr rfl) (am_acK hah.2) ?_
        refine tv_b (pc' := (if (J (ah k) 8) = 0 then 145 else 89)) (ls' := [some (.ref 60), some (.int (nI (k + 1))), some (.ref (ah k))]) (st' := []) (h' := (n, sl, wKK kk, J, K, wQQ q)) 1 rfl ?_
        refine tv_f (hk1) ?_
        refine tv_b (pc' := 90) (ls' := [some (.ref 60), some (.int (nI (k + 1))), some (.ref (ah k))]) (st' := [.ref (ah k)]) (h' := (n, sl, wKK kk, J, K, wQQ q)) 1 rfl ?_
        refine tv_cvE [] [] rfl rfl (by omega) rfl (Nat.le_of_ble_eq_true rfl) (Nat.le_of_ble_eq_true rfl) (Or.inr (Or.inr (am_acK hah.2))) (ev_a_isWork0 hah.2 hw2) ?_
        refine tv_b (pc' := 145) (ls' := [some (.ref 60), some (.int (nI (k + 1))), some (.ref (ah k))]) (st' := []) (h' := (n, sl, wKK kk, J, K, wQQ q)) 1 rfl ?_
        refine tv_iincN (k := (k + 1)) (ls' := [some (.ref 60), some (.int (nI ((k + 1) + 1))), some (.ref (ah k))]) rfl rfl rfl ?_
        refine tv_b (pc' := 58) (ls' := [some (.ref 60), some (.int (nI ((k + 1) + 1))), some (.ref (ah k))]) (st' := []) (h' := (n, sl, wKK kk, J, K, wQQ q)) 1 rfl ?_
        exact ih (k + 1) (by omega) _ _ _ (fbP_n hP hnb)
    · have hk0 : J (ah k) 8 = 0 := by
        rw [h8]
        cases hq : kn I (k + 1)
        · rfl
        · exact absurd hq hkn
      have hnb : ¬ isB I M (k + 1) = true := fun y => by
        unfold isB at y
        exact hkn (of_decide_eq_true y).1
      show am_T _ _ 58 [some (.ref 60), some (.int (nI (k + 1))), o2] _ _ _
      refine tv_b (pc' := 63) (ls' := [some (.ref 60), some (.int (nI (k + 1))), o2]) (st' := [.ref 55, .int (nI (k + 1))]) (h' := (n, sl, wKK kk, J, K, wQQ q)) 3 rfl ?_
      refine tv_cvE [] [.int (nI (k + 1))] rfl rfl (by omega) rfl (Nat.le_of_ble_eq_true rfl) (Nat.le_of_ble_eq_true rfl) (Or.inr (Or.inr rfl)) (es _) ?_
      refine tv_b (pc' := (if (nI C) < (nI (k + 1)) then 151 else 69)) (ls' := [some (.ref 60), some (.int (nI (k + 1))), o2]) (st' := []) (h' := (n, sl, wKK kk, J, K, wQQ q)) 1 rfl ?_
      refine tv_f (fun hq => absurd ((nI_ltI (a := C) (b := (k + 1)) (by omega) (by omega)).mp hq) (by omega)) ?_
      refine tv_b (pc' := 74) (ls' := [some (.ref 60), some (.int (nI (k + 1))), o2]) (st' := [.int (nI (k + 1)), .ref 55]) (h' := (n, sl, wKK kk, J, K, wQQ q)) 3 rfl ?_
      refine tv_cvE [.int (nI (k + 1))] [] rfl rfl (by omega) rfl (Nat.le_of_ble_eq_true rfl) (Nat.le_of_ble_eq_true rfl) (Or.inr (Or.inr rfl)) (ev_b_act b1 j55 hC2 hkC) ?_
      refine tv_b (pc' := 83) (ls' := [some (.ref 60), some (.int (nI (k + 1))), some (.ref (ah k))]) (st' := [.ref (ah k)]) (h' := (n, sl, wKK kk, J, K, wQQ q)) 4 rfl ?_
      refine tv_gfa rfl (Or.inr rfl) (am_acK hah.2) ?_
      refine tv_b (pc' := (if (J (ah k) 8) = 0 then 145 else 89)) (ls' := [some (.ref 60), some (.int (nI (k + 1))), some (.ref (ah k))]) (st' := []) (h' := (n, sl, wKK kk, J, K, wQQ q)) 1 rfl ?_
      refine tv_t (hk0) ?_
      refine tv_iincN (k := (k + 1)) (ls' := [some (.ref 60), some (.int (nI ((k + 1) + 1))), some (.ref (ah k))]) rfl rfl rfl ?_
      refine tv_b (pc' := 58) (ls' := [some (.ref 60), some (.int (nI ((k + 1) + 1))), some (.ref (ah k))]) (st' := []) (h' := (n, sl, wKK kk, J, K, wQQ q)) 1 rfl ?_
      exact ih (k + 1) (by omega) _ _ _ (fbP_n hP hnb)
/-- what findBreaches leaves -/
def fbQ (I : Nat → Nat → Int32) (L : Nat → Nat → Int64) (M : Nat → List (Nat × Nat × List Nat)) (C : Nat) (J : Nat → Nat → Int32) (K : Nat → Nat → Int64) : Prop := (∀ j, j ≠ 60 → j ≠ 63 → J j = I j) ∧ (∀ k, k ≠ 4 → k ≠ 9 → k ≠ 10 → k ≠ 11 → J 60 k = I 60 k) ∧ (∀ j, j ≠ 60 → j ≠ 61 → j ≠ 62 → K j = L j) ∧ J 60 9 = nI (brl I M C).length ∧ (∀ i, i < (brl I M C).length → J 63 i = nI ((brl I M C).getD i 0)) ∧ J 60 10 = I 55 4 ∧ J 60 11 = I 13 12
def fbI (I : Nat → Nat → Int32) (e9 e10 e11 : Int32) (j i : Nat) : Int32 := cond (Nat.beq j 60) (cond (Nat.beq i 9) e9 (cond (Nat.beq i 10) e10 (cond (Nat.beq i 11) e11 (I 60 i)))) (I j i)
theorem fbI_nb : ∀ {i k : Nat}, ¬ i = k → Nat.beq i k = false := fun h => Bool.eq_false_iff.mpr (fun q => h (Nat.eq_of_beq_eq_true q))
theorem fbI_w_e9 {I : Nat → Nat → Int32} {e9 e10 e11 : Int32} {y : Int32} : va_up (fbI I e9 e10 e11) 60 (upd ((fbI I e9 e10 e11) 60) 9 y) = fbI I y e10 e11 := by
  funext j i
  unfold va_up upd
  by_cases hj : j = 60
  · subst hj
    by_cases hi : i = 9
    · subst hi; rfl
    · rw [if_pos rfl, if_neg hi]; unfold fbI; simp only [fbI_nb hi, cond_false]
  · rw [if_neg hj]; unfold fbI; simp only [fbI_nb hj, cond_false]
theorem fbI_w_e10 {I : Nat → Nat → Int32} {e9 e10 e11 : Int32} {y : Int32} : va_up (fbI I e9 e10 e11) 60 (upd ((fbI I e9 e10 e11) 60) 10 y) = fbI I e9 y e11 := by
  funext j i
  unfold va_up upd
  by_cases hj : j = 60
  · subst hj
    by_cases hi : i = 10
    · subst hi; rfl
    · rw [if_pos rfl, if_neg hi]; unfold fbI; simp only [fbI_nb hi, cond_false]
  · rw [if_neg hj]; unfold fbI; simp only [fbI_nb hj, cond_false]
theorem fbI_w_e11 {I : Nat → Nat → Int32} {e9 e10 e11 : Int32} {y : Int32} : va_up (fbI I e9 e10 e11) 60 (upd ((fbI I e9 e10 e11) 60) 11 y) = fbI I e9 e10 y := by
  funext j i
  unfold va_up upd
  by_cases hj : j = 60
  · subst hj
    by_cases hi : i = 11
    · subst hi; rfl
    · rw [if_pos rfl, if_neg hi]; unfold fbI; simp only [fbI_nb hi, cond_false]
  · rw [if_neg hj]; unfold fbI; simp only [fbI_nb hj, cond_false]
theorem fb_self {J : Nat → Nat → Int32} : J = fbI J (J 60 9) (J 60 10) (J 60 11) := by
  funext j i
  unfold fbI
  by_cases hj : j = 60
  · subst hj
    by_cases h1 : i = 9
    · subst h1; rfl
    by_cases h2 : i = 10
    · subst h2; rfl
    by_cases h3 : i = 11
    · subst h3; rfl
    simp only [rdI_nb h1, rdI_nb h2, rdI_nb h3, cond_false]
    try rfl
  · simp only [rdI_nb hj, cond_false]
theorem fbI_o {I : Nat → Nat → Int32} {a b c : Int32} {j : Nat} (h : j ≠ 60) : fbI I a b c j = I j := by
  funext i
  unfold fbI
  rw [fbI_nb h]
  rfl
theorem fbI_6 {I : Nat → Nat → Int32} {a b c : Int32} {k : Nat} (h1 : k ≠ 9) (h2 : k ≠ 10) (h3 : k ≠ 11) : fbI I a b c 60 k = I 60 k := by
  show cond (Nat.beq k 9) a (cond (Nat.beq k 10) b (cond (Nat.beq k 11) c (I 60 k))) = _
  rw [fbI_nb h1, fbI_nb h2, fbI_nb h3]
  rfl
theorem sXY_e {X Y : Nat → Nat → Int32} {f : Nat → Bool} (h : rE Y X) {d : Nat} : sXY X f Y f d := by
  have e := (kn_c h).1
  exact sXY_b (C := nC X) (e0 := 0) rfl e (fun i i1 i2 => absurd i2 (by omega)) (fun n _ _ => by rw [h.1 107 (by decide) (by decide), h.1 108 (by decide) (by decide), h.1 109 (by decide) (by decide), h.1 110 (by decide) (by decide), h.1 111 (by decide) (by decide)]; exact ⟨rfl, rfl, rfl, rfl, rfl⟩) (fun _ _ => rfl) d
theorem brl_E {X Y : Nat → Nat → Int32} {M : Nat → List (Nat × Nat × List Nat)} (h : rE Y X) : ∀ k, brl Y M k = brl X M k := by
  intro k
  induction k with
  | zero => rfl
  | succ k ih =>
    have e : isB Y M (k + 1) = isB X M (k + 1) := by
      unfold isB muZ dyN
      rw [(kn_c h).2.2, h.1 107 (by decide) (by decide), h.1 108 (by decide) (by decide), h.1 109 (by decide) (by decide), h.1 110 (by decide) (by decide), vdZ_c h]
    unfold brl
    rw [e, ih]
theorem tv_findB {n sl C : Nat} {kk : Nat → Nat × Nat} {q : Nat → Nat → Option Nat} {I : Nat → Nat → Int32} {L : Nat → Nat → Int64} {ah : Nat → Nat} {M : Nat → List (Nat × Nat × List Nat)} {e9 e10 e11 : Int32} (g : gInv n kk q I L C ah M) (hr : ∀ E, E ≤ 400 → cRow I L I E) (hv : e10 = I 55 4 → e11 = I 13 12 → e9 = nI (brl I M C).length ∧ ∀ i, i < (brl I M C).length → I 63 i = nI ((brl I M C).getD i 0)) : am_T 8 50 0 (am_ent 3 [.ref 60]) [] (n, sl, wKK kk, (fbI I e9 e10 e11), L, wQQ q) (fun rv h' => rv = none ∧ ∃ J K, h' = (n, sl, wKK kk, J, K, wQQ q) ∧ fbQ I L M C J K) := by
  show am_T _ _ 0 [some (.ref 60), none, none] _ _ _
  refine tv_b (pc' := 8) (ls' := [some (.ref 60), none, none]) (st' := [.ref 55, .int e10]) (h' := (n, sl, wKK kk, (fbI I e9 e10 e11), L, wQQ q)) 4 rfl ?_
  refine tv_cvE [] [.int e10] rfl rfl (by omega) rfl (Nat.le_of_ble_eq_true rfl) (Nat.le_of_ble_eq_true rfl) (Or.inr (Or.inr rfl)) (ev_b_changeCount) ?_
  refine tv_b (pc' := (if e10 = (I 55 4) then 14 else 29)) (ls' := [some (.ref 60), none, none]) (st' := []) (h' := (n, sl, wKK kk, (fbI I e9 e10 e11), L, wQQ q)) 1 rfl ?_
  refine tv_if (fun c11 => ?_) (fun c11 => ?_)
  · refine tv_b (pc' := 22) (ls' := [some (.ref 60), none, none]) (st' := [.ref 13, .int e11]) (h' := (n, sl, wKK kk, (fbI I e9 e10 e11), L, wQQ q)) 4 rfl ?_
    refine tv_cvE [] [.int e11] rfl rfl (by omega) rfl (Nat.le_of_ble_eq_true rfl) (Nat.le_of_ble_eq_true rfl) (Or.inr (Or.inr rfl)) (ev_d_changeCount) ?_
    refine tv_b (pc' := (if e11 = (I 13 12) then 28 else 29)) (ls' := [some (.ref 60), none, none]) (st' := []) (h' := (n, sl, wKK kk, (fbI I e9 e10 e11), L, wQQ q)) 1 rfl ?_
    refine tv_if (fun c25 => ?_) (fun c25 => ?_)
    · obtain ⟨v1, v2⟩ := hv c11 c25
      exact tv_rv rfl ⟨rfl, _, _, rfl, fun j j1 j2 => fbI_o j1, fun k k1 k2 k3 k4 => fbI_6 k2 k3 k4, fun _ _ _ _ => rfl, v1, fun i hi => by rw [fbI_o (by decide)]; exact v2 i hi, c11, c25⟩
    · refine tv_b (pc' := 34) (ls' := [some (.ref 60), none, none]) (st' := [.ref 55, .ref 60]) (h' := (n, sl, wKK kk, (fbI I e9 e10 e11), L, wQQ q)) 3 rfl ?_
      refine tv_cvE [] [.ref 60] rfl rfl (by omega) rfl (Nat.le_of_ble_eq_true rfl) (Nat.le_of_ble_eq_true rfl) (Or.inr (Or.inr rfl)) (ev_b_changeCount) ?_
      refine tv_b (pc' := 40) (ls' := [some (.ref 60), none, none]) (st' := []) (h' := (n, sl, wKK kk, va_up (fbI I e9 e10 e11) 60 (upd ((fbI I e9 e10 e11) 60) 10 (I 55 4)), L, wQQ q)) 1 rfl ?_
      refine tv_hI fbI_w_e10 ?_
      refine tv_b (pc' := 45) (ls' := [some (.ref 60), none, none]) (st' := [.ref 13, .ref 60]) (h' := (n, sl, wKK kk, (fbI I e9 (I 55 4) e11), L, wQQ q)) 3 rfl ?_
      refine tv_cvE [] [.ref 60] rfl rfl (by omega) rfl (Nat.le_of_ble_eq_true rfl) (Nat.le_of_ble_eq_true rfl) (Or.inr (Or.inr rfl)) (ev_d_changeCount) ?_
      refine tv_b (pc' := 51) (ls' := [some (.ref 60), none, none]) (st' := []) (h' := (n, sl, wKK kk, va_up (fbI I e9 (I 55 4) e11) 60 (upd ((fbI I e9 (I 55 4) e11) 60) 11 (I 13 12)), L, wQQ q)) 1 rfl ?_
      refine tv_hI fbI_w_e11 ?_
      refine tv_b (pc' := 56) (ls' := [some (.ref 60), none, none]) (st' := []) (h' := (n, sl, wKK kk, va_up (fbI I e9 (I 55 4) (I 13 12)) 60 (upd ((fbI I e9 (I 55 4) (I 13 12)) 60) 9 0), L, wQQ q)) 3 rfl ?_
      refine tv_hI fbI_w_e9 ?_
      refine tv_b (pc' := 58) (ls' := [some (.ref 60), some (.int 1), none]) (st' := []) (h' := (n, sl, wKK kk, (fbI I 0 (I 55 4) (I 13 12)), L, wQQ q)) 2 rfl ?_
      have g2 : gInv n kk q (fbI I 0 (I 55 4) (I 13 12)) L C ah M := gInv_k g (fun j hj => fbI_o (by omega)) (fun j hj => fbI_o (by omega)) ⟨fun j j1 j2 => fbI_o (by omega), rfl, rfl⟩ (fun j hj => by rw [fbI_o (by decide)]) (fun j hj => by rw [fbI_o (by decide), fbI_o (by decide), fbI_o (by decide), fbI_o (by decide)]; exact ⟨rfl, rfl, rfl, rfl⟩) (fun j hj => by rw [fbI_o (by decide)]) (fun _ _ => rfl)
      have hE : rE (fbI I 0 (I 55 4) (I 13 12)) I := ⟨fun j j1 j2 => fbI_o (by omega), rfl, rfl⟩
      have hr2 : ∀ E, E ≤ 400 → cRow (fbI I 0 (I 55 4) (I 13 12)) L (fbI I 0 (I 55 4) (I 13 12)) E := fun E hE2 => by
        obtain ⟨q1, q2, q3, q4⟩ := hr E hE2
        exact cRow_s (R := 400) (fun j j1 j2 => (fbI_o (by omega)).symm) (fun d _ => by rw [(kn_c hE).2.2]; exact sXY_e hE) (fbI_o (by decide)) (fbI_o (by decide)) (fbI_o (by decide)) (fun _ _ => rfl) hE2 ⟨q1, q2, q3, q4⟩
      have hbr : ∀ k, brl (fbI I 0 (I 55 4) (I 13 12)) M k = brl I M k := fun k => brl_E hE k
      refine tv_up (d := 7) (by decide) (tv_w (tv_fb g2 hr2 C 0 (Nat.zero_add C) _ _ _ ⟨fun _ _ _ => rfl, fun _ _ _ => rfl, fun _ _ _ _ => rfl, rfl, fun i hi => absurd hi (Nat.not_lt_zero _)⟩) (fun rv h2 ho => ?_))
      obtain ⟨rfl, J, K, rfl, p1, p2, p3, p4, p5⟩ := ho
      rw [hbr] at p4 p5
      exact ⟨rfl, J, K, rfl, fun j j1 j2 => (p1 j j1 j2).trans (fbI_o j1), fun k k1 k2 k3 k4 => (p2 k k1 k2).trans (fbI_6 k2 k3 k4), p3, p4, p5, (p2 10 (by decide) (by decide)).trans rfl, (p2 11 (by decide) (by decide)).trans rfl⟩
  · refine tv_b (pc' := 34) (ls' := [some (.ref 60), none, none]) (st' := [.ref 55, .ref 60]) (h' := (n, sl, wKK kk, (fbI I e9 e10 e11), L, wQQ q)) 3 rfl ?_
    refine tv_cvE [] [.ref 60] rfl rfl (by omega) rfl (Nat.le_of_ble_eq_true rfl) (Nat.le_of_ble_eq_true rfl) (Or.inr (Or.inr rfl)) (ev_b_changeCount) ?_
    refine tv_b (pc' := 40) (ls' := [some (.ref 60), none, none]) (st' := []) (h' := (n, sl, wKK kk, va_up (fbI I e9 e10 e11) 60 (upd ((fbI I e9 e10 e11) 60) 10 (I 55 4)), L, wQQ q)) 1 rfl ?_
    refine tv_hI fbI_w_e10 ?_
    refine tv_b (pc' := 45) (ls' := [some (.ref 60), none, none]) (st' := [.ref 13, .ref 60]) (h' := (n, sl, wKK kk, (fbI I e9 (I 55 4) e11), L, wQQ q)) 3 rfl ?_
    refine tv_cvE [] [.ref 60] rfl rfl (by omega) rfl (Nat.le_of_ble_eq_true rfl) (Nat.le_of_ble_eq_true rfl) (Or.inr (Or.inr rfl)) (ev_d_changeCount) ?_
    refine tv_b (pc' := 51) (ls' := [some (.ref 60), none, none]) (st' := []) (h' := (n, sl, wKK kk, va_up (fbI I e9 (I 55 4) e11) 60 (upd ((fbI I e9 (I 55 4) e11) 60) 11 (I 13 12)), L, wQQ q)) 1 rfl ?_
    refine tv_hI fbI_w_e11 ?_
    refine tv_b (pc' := 56) (ls' := [some (.ref 60), none, none]) (st' := []) (h' := (n, sl, wKK kk, va_up (fbI I e9 (I 55 4) (I 13 12)) 60 (upd ((fbI I e9 (I 55 4) (I 13 12)) 60) 9 0), L, wQQ q)) 3 rfl ?_
    refine tv_hI fbI_w_e9 ?_
    refine tv_b (pc' := 58) (ls' := [some (.ref 60), some (.int 1), none]) (st' := []) (h' := (n, sl, wKK kk, (fbI I 0 (I 55 4) (I 13 12)), L, wQQ q)) 2 rfl ?_
    have g2 : gInv n kk q (fbI I 0 (I 55 4) (I 13 12)) L C ah M := gInv_k g (fun j hj => fbI_o (by omega)) (fun j hj => fbI_o (by omega)) ⟨fun j j1 j2 => fbI_o (by omega), rfl, rfl⟩ (fun j hj => by rw [fbI_o (by decide)]) (fun j hj => by rw [fbI_o (by decide), fbI_o (by decide), fbI_o (by decide), fbI_o (by decide)]; exact ⟨rfl, rfl, rfl, rfl⟩) (fun j hj => by rw [fbI_o (by decide)]) (fun _ _ => rfl)
    have hE : rE (fbI I 0 (I 55 4) (I 13 12)) I := ⟨fun j j1 j2 => fbI_o (by omega), rfl, rfl⟩
    have hr2 : ∀ E, E ≤ 400 → cRow (fbI I 0 (I 55 4) (I 13 12)) L (fbI I 0 (I 55 4) (I 13 12)) E := fun E hE2 => by
      obtain ⟨q1, q2, q3, q4⟩ := hr E hE2
      exact cRow_s (R := 400) (fun j j1 j2 => (fbI_o (by omega)).symm) (fun d _ => by rw [(kn_c hE).2.2]; exact sXY_e hE) (fbI_o (by decide)) (fbI_o (by decide)) (fbI_o (by decide)) (fun _ _ => rfl) hE2 ⟨q1, q2, q3, q4⟩
    have hbr : ∀ k, brl (fbI I 0 (I 55 4) (I 13 12)) M k = brl I M k := fun k => brl_E hE k
    refine tv_up (d := 7) (by decide) (tv_w (tv_fb g2 hr2 C 0 (Nat.zero_add C) _ _ _ ⟨fun _ _ _ => rfl, fun _ _ _ => rfl, fun _ _ _ _ => rfl, rfl, fun i hi => absurd hi (Nat.not_lt_zero _)⟩) (fun rv h2 ho => ?_))
    obtain ⟨rfl, J, K, rfl, p1, p2, p3, p4, p5⟩ := ho
    rw [hbr] at p4 p5
    exact ⟨rfl, J, K, rfl, fun j j1 j2 => (p1 j j1 j2).trans (fbI_o j1), fun k k1 k2 k3 k4 => (p2 k k1 k2).trans (fbI_6 k2 k3 k4), p3, p4, p5, (p2 10 (by decide) (by decide)).trans rfl, (p2 11 (by decide) (by decide)).trans rfl⟩
