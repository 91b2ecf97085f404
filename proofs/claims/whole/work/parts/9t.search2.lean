/-! THE CLASS SEARCHES: its frame -/
def ssI (I : Nat → Nat → Int32) (d3 d4 d5 lst kp : Int32) (r74 r75 : Nat → Int32) (j i : Nat) : Int32 := cond (Nat.beq j 71) (cond (Nat.beq i 3) d3 (cond (Nat.beq i 4) d4 (cond (Nat.beq i 5) d5 (cond (Nat.beq i 7) lst (cond (Nat.beq i 10) kp (I 71 i)))))) (cond (Nat.beq j 74) (r74 i) (cond (Nat.beq j 75) (r75 i) (I j i)))
theorem ssI_nb : ∀ {i k : Nat}, ¬ i = k → Nat.beq i k = false := fun h => Bool.eq_false_iff.mpr (fun q => h (Nat.eq_of_beq_eq_true q))
theorem ssI_w_d3 {I : Nat → Nat → Int32} {d3 d4 d5 lst kp : Int32} {r74 r75 : Nat → Int32} {y : Int32} : va_up (ssI I d3 d4 d5 lst kp r74 r75) 71 (upd ((ssI I d3 d4 d5 lst kp r74 r75) 71) 3 y) = ssI I y d4 d5 lst kp r74 r75 := by
  funext j i
  unfold va_up upd
  by_cases hj : j = 71
  · subst hj
    by_cases hi : i = 3
    · subst hi; rfl
    · rw [if_pos rfl, if_neg hi]; unfold ssI; simp only [ssI_nb hi, cond_false]
  · rw [if_neg hj]; unfold ssI; simp only [ssI_nb hj, cond_false]
theorem ssI_w_d4 {I : Nat → Nat → Int32} {d3 d4 d5 lst kp : Int32} {r74 r75 : Nat → Int32} {y : Int32} : va_up (ssI I d3 d4 d5 lst kp r74 r75) 71 (upd ((ssI I d3 d4 d5 lst kp r74 r75) 71) 4 y) = ssI I d3 y d5 lst kp r74 r75 := by
  funext j i
  unfold va_up upd
  by_cases hj : j = 71
  · subst hj
    by_cases hi : i = 4
    · subst hi; rfl
    · rw [if_pos rfl, if_neg hi]; unfold ssI; simp only [ssI_nb hi, cond_false]
  · rw [if_neg hj]; unfold ssI; simp only [ssI_nb hj, cond_false]
theorem ssI_w_d5 {I : Nat → Nat → Int32} {d3 d4 d5 lst kp : Int32} {r74 r75 : Nat → Int32} {y : Int32} : va_up (ssI I d3 d4 d5 lst kp r74 r75) 71 (upd ((ssI I d3 d4 d5 lst kp r74 r75) 71) 5 y) = ssI I d3 d4 y lst kp r74 r75 := by
  funext j i
  unfold va_up upd
  by_cases hj : j = 71
  · subst hj
    by_cases hi : i = 5
    · subst hi; rfl
    · rw [if_pos rfl, if_neg hi]; unfold ssI; simp only [ssI_nb hi, cond_false]
  · rw [if_neg hj]; unfold ssI; simp only [ssI_nb hj, cond_false]
theorem ssI_w_lst {I : Nat → Nat → Int32} {d3 d4 d5 lst kp : Int32} {r74 r75 : Nat → Int32} {y : Int32} : va_up (ssI I d3 d4 d5 lst kp r74 r75) 71 (upd ((ssI I d3 d4 d5 lst kp r74 r75) 71) 7 y) = ssI I d3 d4 d5 y kp r74 r75 := by
  funext j i
  unfold va_up upd
  by_cases hj : j = 71
  · subst hj
    by_cases hi : i = 7
    · subst hi; rfl
    · rw [if_pos rfl, if_neg hi]; unfold ssI; simp only [ssI_nb hi, cond_false]
  · rw [if_neg hj]; unfold ssI; simp only [ssI_nb hj, cond_false]
theorem ssI_w_kp {I : Nat → Nat → Int32} {d3 d4 d5 lst kp : Int32} {r74 r75 : Nat → Int32} {y : Int32} : va_up (ssI I d3 d4 d5 lst kp r74 r75) 71 (upd ((ssI I d3 d4 d5 lst kp r74 r75) 71) 10 y) = ssI I d3 d4 d5 lst y r74 r75 := by
  funext j i
  unfold va_up upd
  by_cases hj : j = 71
  · subst hj
    by_cases hi : i = 10
    · subst hi; rfl
    · rw [if_pos rfl, if_neg hi]; unfold ssI; simp only [ssI_nb hi, cond_false]
  · rw [if_neg hj]; unfold ssI; simp only [ssI_nb hj, cond_false]
theorem ssI_w_r74 {I : Nat → Nat → Int32} {d3 d4 d5 lst kp : Int32} {r74 r75 : Nat → Int32} {y : Int32} {k : Nat} : va_up (ssI I d3 d4 d5 lst kp r74 r75) 74 (upd ((ssI I d3 d4 d5 lst kp r74 r75) 74) k y) = ssI I d3 d4 d5 lst kp (upd r74 k y) r75 := by
  funext j i
  unfold va_up
  by_cases hj : j = 74
  · subst hj; rfl
  · rw [if_neg hj]; unfold ssI; simp only [ssI_nb hj, cond_false]
theorem ssI_w_r75 {I : Nat → Nat → Int32} {d3 d4 d5 lst kp : Int32} {r74 r75 : Nat → Int32} {y : Int32} {k : Nat} : va_up (ssI I d3 d4 d5 lst kp r74 r75) 75 (upd ((ssI I d3 d4 d5 lst kp r74 r75) 75) k y) = ssI I d3 d4 d5 lst kp r74 (upd r75 k y) := by
  funext j i
  unfold va_up
  by_cases hj : j = 75
  · subst hj; rfl
  · rw [if_neg hj]; unfold ssI; simp only [ssI_nb hj, cond_false]
def ssL (L : Nat → Nat → Int64) (c6 : Int64) (r76 : Nat → Int64) (j i : Nat) : Int64 := cond (Nat.beq j 71) (cond (Nat.beq i 6) c6 (L 71 i)) (cond (Nat.beq j 76) (r76 i) (L j i))
theorem ssL_nb : ∀ {i k : Nat}, ¬ i = k → Nat.beq i k = false := fun h => Bool.eq_false_iff.mpr (fun q => h (Nat.eq_of_beq_eq_true q))
theorem ssL_w_c6 {L : Nat → Nat → Int64} {c6 : Int64} {r76 : Nat → Int64} {y : Int64} : va_up (ssL L c6 r76) 71 (vp_updL ((ssL L c6 r76) 71) 6 y) = ssL L y r76 := by
  funext j i
  unfold va_up vp_updL
  by_cases hj : j = 71
  · subst hj
    by_cases hi : i = 6
    · subst hi; rfl
    · rw [if_pos rfl, if_neg hi]; unfold ssL; simp only [ssL_nb hi, cond_false]
  · rw [if_neg hj]; unfold ssL; simp only [ssL_nb hj, cond_false]
theorem ssL_w_r76 {L : Nat → Nat → Int64} {c6 : Int64} {r76 : Nat → Int64} {y : Int64} {k : Nat} : va_up (ssL L c6 r76) 76 (vp_updL ((ssL L c6 r76) 76) k y) = ssL L c6 (vp_updL r76 k y) := by
  funext j i
  unfold va_up
  by_cases hj : j = 76
  · subst hj; rfl
  · rw [if_neg hj]; unfold ssL; simp only [ssL_nb hj, cond_false]
theorem ss_sI {I : Nat → Nat → Int32} : I = ssI I (I 71 3) (I 71 4) (I 71 5) (I 71 7) (I 71 10) (I 74) (I 75) := by
  funext j i
  unfold ssI
  by_cases hj : j = 71
  · subst hj
    by_cases h1 : i = 3
    · subst h1; rfl
    by_cases h2 : i = 4
    · subst h2; rfl
    by_cases h3 : i = 5
    · subst h3; rfl
    by_cases h4 : i = 7
    · subst h4; rfl
    by_cases h5 : i = 10
    · subst h5; rfl
    simp only [ssI_nb h1, ssI_nb h2, ssI_nb h3, ssI_nb h4, ssI_nb h5, cond_false]
    rfl
  · by_cases h1 : j = 74
    · subst h1; rfl
    by_cases h2 : j = 75
    · subst h2; rfl
    simp only [ssI_nb hj, ssI_nb h1, ssI_nb h2, cond_false]
theorem ss_sL {L : Nat → Nat → Int64} : L = ssL L (L 71 6) (L 76) := by
  funext j i
  unfold ssL
  by_cases hj : j = 71
  · subst hj
    by_cases h1 : i = 6
    · subst h1; rfl
    simp only [ssL_nb h1, cond_false]
    rfl
  · by_cases h1 : j = 76
    · subst h1; rfl
    simp only [ssL_nb hj, ssL_nb h1, cond_false]
theorem ss_sdI {I : Nat → Nat → Int32} {a b c l k l' : Int32} {r s r' s' : Nat → Int32} : sdI (ssI I a b c l k r s) l' r' s' = ssI I a b c l' k r' s' := by
  funext j i
  unfold sdI
  by_cases hj : j = 71
  · subst hj
    by_cases h4 : i = 7
    · subst h4; rfl
    show cond (Nat.beq i 7) l' (ssI I a b c l k r s 71 i) = ssI I a b c l' k r' s' 71 i
    rw [sdI_nb h4]
    show cond (Nat.beq i 3) a (cond (Nat.beq i 4) b (cond (Nat.beq i 5) c (cond (Nat.beq i 7) l (cond (Nat.beq i 10) k (I 71 i))))) = cond (Nat.beq i 3) a (cond (Nat.beq i 4) b (cond (Nat.beq i 5) c (cond (Nat.beq i 7) l' (cond (Nat.beq i 10) k (I 71 i)))))
    rw [sdI_nb h4]
    rfl
  · by_cases h1 : j = 74
    · subst h1; rfl
    by_cases h2 : j = 75
    · subst h2; rfl
    unfold ssI
    simp only [sdI_nb hj, sdI_nb h1, sdI_nb h2, cond_false]
theorem ss_sdL {L : Nat → Nat → Int64} {c : Int64} {r r' : Nat → Int64} : sdL (ssL L c r) r' = ssL L c r' := by
  funext j i
  unfold sdL
  by_cases h1 : j = 76
  · subst h1; rfl
  unfold ssL
  simp only [sdL_nb h1, cond_false]
theorem ssI_o {I : Nat → Nat → Int32} {a b c l k : Int32} {r s : Nat → Int32} {j : Nat} (h1 : j ≠ 71) (h2 : j ≠ 74) (h3 : j ≠ 75) : ssI I a b c l k r s j = I j := by
  funext i
  unfold ssI
  rw [ssI_nb h1, ssI_nb h2, ssI_nb h3]
  rfl
theorem ssL_o {L : Nat → Nat → Int64} {c : Int64} {r : Nat → Int64} {j : Nat} (h1 : j ≠ 71) (h : j ≠ 76) : ssL L c r j = L j := by
  funext i
  unfold ssL
  rw [ssL_nb h1, ssL_nb h]
  rfl
theorem ss_rE {I : Nat → Nat → Int32} {a b c l k : Int32} {r s : Nat → Int32} : rE (ssI I a b c l k r s) I := ⟨fun j j1 j2 => ssI_o (by omega) (by omega) (by omega), by rw [ssI_o (by decide) (by decide) (by decide)], by rw [ssI_o (by decide) (by decide) (by decide)]⟩
theorem ss_g {n C : Nat} {kk : Nat → Nat × Nat} {q : Nat → Nat → Option Nat} {I : Nat → Nat → Int32} {L : Nat → Nat → Int64} {ah : Nat → Nat} {M : Nat → List (Nat × Nat × List Nat)} {a b c l k : Int32} {r s : Nat → Int32} {c6 : Int64} {r76 : Nat → Int64} (g : gInv n kk q I L C ah M) : gInv n kk q (ssI I a b c l k r s) (ssL L c6 r76) C ah M := by
  have go : ∀ j, j ≠ 71 → j ≠ 74 → j ≠ 75 → ssI I a b c l k r s j = I j := fun j => ssI_o
  exact gInv_k g (fun j hj => go j (by omega) (by omega) (by omega)) (fun j hj => go j (by omega) (by omega) (by omega)) ss_rE (fun j hj => by rw [go 82 (by decide) (by decide) (by decide)]) (fun j hj => by rw [go 83 (by decide) (by decide) (by decide), go 84 (by decide) (by decide) (by decide), go 85 (by decide) (by decide) (by decide), go 86 (by decide) (by decide) (by decide)]; exact ⟨rfl, rfl, rfl, rfl⟩) (fun j hj => by rw [go 87 (by decide) (by decide) (by decide)]) (fun j hj => ssL_o (by omega) (by omega))
theorem ss_cR {I J X : Nat → Nat → Int32} {L : Nat → Nat → Int64} {D : Nat} {a b c l k : Int32} {r s : Nat → Int32} {c6 : Int64} {r76 : Nat → Int64} (h : cRow I L X D) (e : pS J = pS X) (ew : wsZ J = wsZ X) (ed : drZ J = drZ X) : cRow (ssI I a b c l k r s) (ssL L c6 r76) J D := by
  unfold cRow
  rw [ssI_o (by decide) (by decide) (by decide), ssI_o (by decide) (by decide) (by decide), ssI_o (by decide) (by decide) (by decide), e, ew, ed]
  exact ⟨h.1, h.2.1, h.2.2.1, fun c hc => by rw [ssL_o (by omega) (by omega)]; exact h.2.2.2 c hc⟩
theorem node_c {X Y : Nat → Nat → Int32} {lc cl : Nat → Nat} {D : Nat} {aim cei : Int} (h : ∀ c d l, dG X c d l = dG Y c d l) : ∀ m, nodeZ X lc cl D aim cei m = nodeZ Y lc cl D aim cei m := by
  have hn : nxtZ X lc cl = nxtZ Y lc cl := by
    funext d σ j c
    unfold nxtZ
    rw [h]
  intro m
  induction m with
  | zero => rfl
  | succ m ih =>
    funext g σ lit ch b
    show kidZ X lc cl D cei (nodeZ X lc cl D aim cei m (g + 1)) g σ lit ch 4 0 b = kidZ Y lc cl D cei (nodeZ Y lc cl D aim cei m (g + 1)) g σ lit ch 4 0 b
    rw [ih]
    generalize nodeZ Y lc cl D aim cei m (g + 1) = f
    have : ∀ r j b, kidZ X lc cl D cei f g σ lit ch r j b = kidZ Y lc cl D cei f g σ lit ch r j b := by
      intro r
      induction r with
      | zero => intro j b; rfl
      | succ r ihr =>
        intro j b
        show kidZ X lc cl D cei f g σ lit ch r (j + 1) (chdZ X lc cl D cei f g σ lit ch j b) = kidZ Y lc cl D cei f g σ lit ch r (j + 1) (chdZ Y lc cl D cei f g σ lit ch j b)
        rw [ihr]
        refine congrArg _ ?_
        unfold chdZ
        rw [hn]
    exact this 4 0 b
def bsI : bst → Int32
  | none => -1
  | some w => nI w.1
def kpv (a : Int32) (N : Nat) : bst → Int32
  | none => a
  | some _ => nI N
theorem tv_s_fill {d : Nat} {n sl : Nat} {kk : Nat → Nat × Nat} {I : Nat → Nat → Int32} {L : Nat → Nat → Int64} {q : Nat → Nat → Option Nat} {d3 d4 d5 lst kp : Int32} {r74 r75 : Nat → Int32} {c6 v : Int64} : ∀ m k : Nat, k + m = 4096 → ∀ r76 : Nat → Int64, (∀ i, i < k → r76 i = v) → am_T d 253 6 [some (.ref 76), some (.long v), none, some (.int (nI k)), some (.int 4096)] [] (n, sl, wKK kk, (ssI I d3 d4 d5 lst kp r74 r75), (ssL L c6 r76), wQQ q) (fun rv h' => rv = none ∧ ∃ r76', h' = (n, sl, wKK kk, (ssI I d3 d4 d5 lst kp r74 r75), (ssL L c6 r76'), wQQ q) ∧ ∀ i, i < 4096 → r76' i = v) := by
  intro m
  induction m with
  | zero =>
    intro k hk r76 hr
    have hk2 : k = 4096 := by omega
    refine tv_b (pc' := (if 4096 ≤ (nI k) then 22 else 12)) (ls' := [some (.ref 76), some (.long v), none, some (.int (nI k)), some (.int 4096)]) (st' := []) (h' := (n, sl, wKK kk, (ssI I d3 d4 d5 lst kp r74 r75), (ssL L c6 r76), wQQ q)) 3 rfl ?_
    refine tv_t ((nI_leI (a := 4096) (b := k) (by omega) (by omega)).mpr (by omega)) ?_
    exact tv_rv rfl ⟨rfl, r76, rfl, fun i hi => hr i (by omega)⟩
  | succ m ih =>
    intro k hk r76 hr
    refine tv_b (pc' := (if 4096 ≤ (nI k) then 22 else 12)) (ls' := [some (.ref 76), some (.long v), none, some (.int (nI k)), some (.int 4096)]) (st' := []) (h' := (n, sl, wKK kk, (ssI I d3 d4 d5 lst kp r74 r75), (ssL L c6 r76), wQQ q)) 3 rfl ?_
    refine tv_f (fun hq => absurd ((nI_leI (a := 4096) (b := k) (by omega) (by omega)).mp hq) (by omega)) ?_
    refine tv_b (pc' := 15) (ls' := [some (.ref 76), some (.long v), none, some (.int (nI k)), some (.int 4096)]) (st' := [.long v, .int (nI k), .ref 76]) (h' := (n, sl, wKK kk, (ssI I d3 d4 d5 lst kp r74 r75), (ssL L c6 r76), wQQ q)) 3 rfl ?_
    refine tv_lasN (k := k) rfl (rfl) (⟨by omega, by omega⟩) ?_
    refine tv_hL ssL_w_r76 ?_
    refine tv_iincN (k := k) (ls' := [some (.ref 76), some (.long v), none, some (.int (nI (k + 1))), some (.int 4096)]) rfl rfl rfl ?_
    refine tv_b (pc' := 6) (ls' := [some (.ref 76), some (.long v), none, some (.int (nI (k + 1))), some (.int 4096)]) (st' := []) (h' := (n, sl, wKK kk, (ssI I d3 d4 d5 lst kp r74 r75), (ssL L c6 (vp_updL r76 k v)), wQQ q)) 1 rfl ?_
    exact ih (k + 1) (by omega) _ (fun i hi => by
      by_cases z : i = k
      · subst z; exact uL_e
      · rw [uL_n z]; exact hr i (by omega))
theorem tv_s_fill0 {d : Nat} {n sl : Nat} {kk : Nat → Nat × Nat} {I : Nat → Nat → Int32} {L : Nat → Nat → Int64} {q : Nat → Nat → Option Nat} {d3 d4 d5 lst kp : Int32} {r74 r75 : Nat → Int32} {c6 v : Int64} {r76 : Nat → Int64} : am_T d 253 0 (am_ent 5 [.ref 76, .long v]) [] (n, sl, wKK kk, (ssI I d3 d4 d5 lst kp r74 r75), (ssL L c6 r76), wQQ q) (fun rv h' => rv = none ∧ ∃ r76', h' = (n, sl, wKK kk, (ssI I d3 d4 d5 lst kp r74 r75), (ssL L c6 r76'), wQQ q) ∧ ∀ i, i < 4096 → r76' i = v) := by
  show am_T _ _ 0 [some (.ref 76), some (.long v), none, none, none] _ _ _
  refine tv_b (pc' := 6) (ls' := [some (.ref 76), some (.long v), none, some (.int 0), some (.int 4096)]) (st' := []) (h' := (n, sl, wKK kk, (ssI I d3 d4 d5 lst kp r74 r75), (ssL L c6 r76), wQQ q)) 5 rfl ?_
  exact tv_s_fill 4096 0 rfl r76 (fun i hi => absurd hi (by omega))
set_option maxHeartbeats 4000000 in
theorem tv_search {n sl C : Nat} {kk : Nat → Nat × Nat} {q : Nat → Nat → Option Nat} {I : Nat → Nat → Int32} {L : Nat → Nat → Int64} {ah : Nat → Nat} {M : Nat → List (Nat × Nat × List Nat)} {lc cl : Nat → Nat} {D N : Nat} {a sc : Int32} (g0 : gInv n kk q I L C ah M) (hr : cRow I L I D) (hlc : ∀ k, k < 3 → lc k ≤ 1000) (h73 : ∀ k, k < 3 → I 73 k = nI (lc k)) (h72 : ∀ k, k < 3 → I 72 k = nI (cl k) ∧ cl k < 16) (hDN : D + N ≤ 400) (hN8 : N ≤ 8) (hsc : 0 ≤ sc.toInt ∧ sc.toInt ≤ 1000000000) : am_T (6 + N + 1) 94 0 (am_ent 5 [.ref 71, .int (nI D), .int (nI N), .int a, .int sc]) [] (n, sl, wKK kk, I, L, wQQ q) (fun rv h' => rv = some (.int (bsI (nodeZ I lc cl D a.toInt ((pS I D).2 + sc.toInt) N 0 (pS I D).1 0 (fun _ => 0) none))) ∧ ∃ lst' r74' r75' c6' r76', h' = (n, sl, wKK kk, (ssI I (nI D) (nI N) a lst' (kpv (I 71 10) N (nodeZ I lc cl D a.toInt ((pS I D).2 + sc.toInt) N 0 (pS I D).1 0 (fun _ => 0) none)) r74' r75'), (ssL L c6' r76'), wQQ q) ∧ kpQ (I 75) N (nodeZ I lc cl D a.toInt ((pS I D).2 + sc.toInt) N 0 (pS I D).1 0 (fun _ => 0) none) r75' ∧ bstB (nodeZ I lc cl D a.toInt ((pS I D).2 + sc.toInt) N 0 (pS I D).1 0 (fun _ => 0) none)) := by
  have hpb := pS_b g0.1 g0.2.1 D (by omega)
  have hcl : ∀ c, c < 16 → -25000000000 ≤ (pS I D).1 c ∧ (pS I D).1 c ≤ 25000000000 := fun c hc => by have := hpb.1 c hc; omega
  have hcei : (jI (pS I D).2).toInt64 + sc.toInt64 = jL ((pS I D).2 + sc.toInt) := by
    rw [jI_64 ⟨by omega, by omega⟩, ← jI_self sc, jI_64 ⟨by omega, by omega⟩, jI_self, jL_add]
  refine tv_hI ss_sI ?_
  refine tv_hL ss_sL ?_
  have hla : ∀ a b c l k r s c6 r76, am_Ev 1 28 0 (am_ent 2 [.ref 13, .int (nI D)]) [] (n, sl, wKK kk, ssI I a b c l k r s, ssL L c6 r76, wQQ q) (some (.int (jI (pS I D).2)), (n, sl, wKK kk, ssI I a b c l k r s, ssL L c6 r76, wQQ q)) := fun a b c l k r s c6 r76 => by
    have e := ev_d_leanAt (d := 0) (n := n) (sl := sl) (k := kk) (q := q) (I := ssI I a b c l k r s) (L := ssL L c6 r76) (x := nI D)
    rw [leanAt_j (X := I) (by omega) (ss_cR hr rfl rfl rfl)] at e
    exact e
  have hsm : ∀ a b c l k r s c6 r76, am_Ev 2 36 0 (am_ent 5 [.ref 13, .int (nI D)]) [] (n, sl, wKK kk, ssI I a b c l k r s, ssL L c6 r76, wQQ q) (some (.long (jL (xs (pS I D).1))), (n, sl, wKK kk, ssI I a b c l k r s, ssL L c6 r76, wQQ q)) := fun a b c l k r s c6 r76 => by
    have e := ev_d_sumAt (d := 0) (n := n) (sl := sl) (kk := kk) (q := q) (I := ssI I a b c l k r s) (L := ssL L c6 r76) (x := nI D)
    rw [sumat_v (X := I) (by omega) (ss_cR hr rfl rfl rfl)] at e
    exact e
  show am_T _ _ 0 [some (.ref 71), some (.int (nI D)), some (.int (nI N)), some (.int a), some (.int sc)] _ _ _
  refine tv_b (pc' := 5) (ls' := [some (.ref 71), some (.int (nI D)), some (.int (nI N)), some (.int a), some (.int sc)]) (st' := []) (h' := (n, sl, wKK kk, va_up (ssI I (I 71 3) (I 71 4) (I 71 5) (I 71 7) (I 71 10) (I 74) (I 75)) 71 (upd ((ssI I (I 71 3) (I 71 4) (I 71 5) (I 71 7) (I 71 10) (I 74) (I 75)) 71) 3 (nI D)), (ssL L (L 71 6) (L 76)), wQQ q)) 3 rfl ?_
  refine tv_hI ssI_w_d3 ?_
  refine tv_b (pc' := 10) (ls' := [some (.ref 71), some (.int (nI D)), some (.int (nI N)), some (.int a), some (.int sc)]) (st' := []) (h' := (n, sl, wKK kk, va_up (ssI I (nI D) (I 71 4) (I 71 5) (I 71 7) (I 71 10) (I 74) (I 75)) 71 (upd ((ssI I (nI D) (I 71 4) (I 71 5) (I 71 7) (I 71 10) (I 74) (I 75)) 71) 4 (nI N)), (ssL L (L 71 6) (L 76)), wQQ q)) 3 rfl ?_
  refine tv_hI ssI_w_d4 ?_
  refine tv_b (pc' := 15) (ls' := [some (.ref 71), some (.int (nI D)), some (.int (nI N)), some (.int a), some (.int sc)]) (st' := []) (h' := (n, sl, wKK kk, va_up (ssI I (nI D) (nI N) (I 71 5) (I 71 7) (I 71 10) (I 74) (I 75)) 71 (upd ((ssI I (nI D) (nI N) (I 71 5) (I 71 7) (I 71 10) (I 74) (I 75)) 71) 5 a), (ssL L (L 71 6) (L 76)), wQQ q)) 3 rfl ?_
  refine tv_hI ssI_w_d5 ?_
  refine tv_b (pc' := 24) (ls' := [some (.ref 71), some (.int (nI D)), some (.int (nI N)), some (.int a), some (.int sc)]) (st' := [.int (nI D), .ref 13, .ref 71]) (h' := (n, sl, wKK kk, (ssI I (nI D) (nI N) a (I 71 7) (I 71 10) (I 74) (I 75)), (ssL L (L 71 6) (L 76)), wQQ q)) 5 rfl ?_
  refine tv_cvE [.int (nI D)] [.ref 71] rfl rfl (by omega) rfl (Nat.le_of_ble_eq_true rfl) (Nat.le_of_ble_eq_true rfl) (Or.inr (Or.inr rfl)) (ev_up (d := 1) (e := 6 + N) (by omega) (hla _ _ _ _ _ _ _ _ _)) ?_
  refine tv_b (pc' := 32) (ls' := [some (.ref 71), some (.int (nI D)), some (.int (nI N)), some (.int a), some (.int sc)]) (st' := [.long (((jI (pS I D).2).toInt64) + sc.toInt64), .ref 71]) (h' := (n, sl, wKK kk, (ssI I (nI D) (nI N) a (I 71 7) (I 71 10) (I 74) (I 75)), (ssL L (L 71 6) (L 76)), wQQ q)) 4 rfl ?_
  rw [hcei]
  refine tv_b (pc' := 35) (ls' := [some (.ref 71), some (.int (nI D)), some (.int (nI N)), some (.int a), some (.int sc)]) (st' := []) (h' := (n, sl, wKK kk, (ssI I (nI D) (nI N) a (I 71 7) (I 71 10) (I 74) (I 75)), va_up (ssL L (L 71 6) (L 76)) 71 (vp_updL ((ssL L (L 71 6) (L 76)) 71) 6 (jL ((pS I D).2 + sc.toInt))), wQQ q)) 1 rfl ?_
  refine tv_hL ssL_w_c6 ?_
  refine tv_b (pc' := 41) (ls' := [some (.ref 71), some (.int (nI D)), some (.int (nI N)), some (.int a), some (.int sc)]) (st' := []) (h' := (n, sl, wKK kk, va_up (ssI I (nI D) (nI N) a (I 71 7) (I 71 10) (I 74) (I 75)) 71 (upd ((ssI I (nI D) (nI N) a (I 71 7) (I 71 10) (I 74) (I 75)) 71) 7 2147483647), (ssL L (jL ((pS I D).2 + sc.toInt)) (L 76)), wQQ q)) 3 rfl ?_
  refine tv_hI ssI_w_lst ?_
  refine tv_b (pc' := 48) (ls' := [some (.ref 71), some (.int (nI D)), some (.int (nI N)), some (.int a), some (.int sc)]) (st' := [.long 9223372036854775807, .ref 76]) (h' := (n, sl, wKK kk, (ssI I (nI D) (nI N) a 2147483647 (I 71 10) (I 74) (I 75)), (ssL L (jL ((pS I D).2 + sc.toInt)) (L 76)), wQQ q)) 3 rfl ?_
  refine tv_cs [.ref 76, .long 9223372036854775807] [] rfl rfl (by omega) rfl (Nat.le_of_ble_eq_true rfl) (Nat.le_of_ble_eq_true rfl) (tv_s_fill0) ?_
  rintro rv9 h9 ⟨rfl, r76a, rfl, hr76⟩
  refine tv_b (pc' := 61) (ls' := [some (.ref 71), some (.int (nI D)), some (.int (nI N)), some (.int a), some (.int sc)]) (st' := [.int (nI D), .ref 13, .int 0, .ref 71]) (h' := (n, sl, wKK kk, (ssI I (nI D) (nI N) a 2147483647 (I 71 10) (I 74) (I 75)), (ssL L (jL ((pS I D).2 + sc.toInt)) r76a), wQQ q)) 6 rfl ?_
  refine tv_cvE [.int (nI D)] [.int 0, .ref 71] rfl rfl (by omega) rfl (Nat.le_of_ble_eq_true rfl) (Nat.le_of_ble_eq_true rfl) (Or.inr (Or.inr rfl)) (ev_up (d := 2) (e := 6 + N) (by omega) (hsm _ _ _ _ _ _ _ _ _)) ?_
  refine tv_b (pc' := 66) (ls' := [some (.ref 71), some (.int (nI D)), some (.int (nI N)), some (.int a), some (.int sc)]) (st' := [.int 0, .int 0, .long (jL (xs (pS I D).1)), .int 0, .ref 71]) (h' := (n, sl, wKK kk, (ssI I (nI D) (nI N) a 2147483647 (I 71 10) (I 74) (I 75)), (ssL L (jL ((pS I D).2 + sc.toInt)) r76a), wQQ q)) 2 rfl ?_
  show am_T _ _ _ _ [.int (nI 0), .int (nI (0 + 8 * 0 + 64 * 0)), .long (jL (xs (pS I D).1)), .int (nI 0), .ref 71] _ _
  have hX : ∀ c d l, dG (ssI I (nI D) (nI N) a 2147483647 (I 71 10) (I 74) (I 75)) c d l = dG I c d l := (dG_c ss_rE).2.2.2.1
  have hdr := tv_draw (sl := sl) (R0 := I 75) (lc := lc) (cl := cl) (D := D) (N := N) (I := (ssI I (nI D) (nI N) a 2147483647 (I 71 10) (I 74) (I 75))) (L := (ssL L (jL ((pS I D).2 + sc.toInt)) r76a)) (cei := (pS I D).2 + sc.toInt) (ss_g g0) hlc (fun k hk => by rw [ssI_o (by decide) (by decide) (by decide)]; exact h73 k hk) (fun k hk => by rw [ssI_o (by decide) (by decide) (by decide)]; exact h72 k hk) rfl rfl rfl ⟨by omega, by omega⟩ hDN hN8 N 0 (by omega) (pS I D).1 0 0 0 0 (fun _ => 0) none (I 74) (I 75) r76a (fun c hc => by have := hpb.1 c hc; omega) (by omega) (by omega) trivial rfl (fun i hi => absurd hi (by omega)) (fun g' _ h2 c0 c1 c2 e0 e1 e2 => Or.inl (hr76 _ (by omega)))
  rw [show drwZ (ssI I (nI D) (nI N) a 2147483647 (I 71 10) (I 74) (I 75)) lc cl D ((ssI I (nI D) (nI N) a 2147483647 (I 71 10) (I 74) (I 75)) 71 5).toInt ((pS I D).2 + sc.toInt) N 0 (pS I D).1 0 (fun _ => 0) none = (nodeZ I lc cl D a.toInt ((pS I D).2 + sc.toInt) N 0 (pS I D).1 0 (fun _ => 0) none) from by unfold drwZ; rw [if_pos (show okB none 0 = true from rfl), node_c hX]; rfl] at hdr
  rw [ss_sdI, ss_sdL] at hdr
  generalize (nodeZ I lc cl D a.toInt ((pS I D).2 + sc.toInt) N 0 (pS I D).1 0 (fun _ => 0) none) = bb at hdr ⊢
  refine tv_cv [.int (nI 0), .long (jL (xs (pS I D).1)), .int (nI 0), .int (nI (0 + 8 * 0 + 64 * 0))] [] rfl rfl (by omega) rfl (Nat.le_of_ble_eq_true rfl) (Nat.le_of_ble_eq_true rfl) (Or.inr (Or.inr rfl)) (hdr) ?_
  intro rv9 h9 ho
  obtain ⟨rfl, r74b, r75b, r76b, rfl, hbb, hkq, _, _, _⟩ := ho
  rw [ss_sdI, ss_sdL]
  cases bb with
  | none =>
    show am_T _ _ 69 [some (.ref 71), some (.int (nI D)), some (.int (nI N)), some (.int a), some (.int sc)] [] (n, sl, wKK kk, (ssI I (nI D) (nI N) a 2147483647 (I 71 10) r74b r75b), (ssL L (jL ((pS I D).2 + sc.toInt)) r76b), wQQ q) _
    refine tv_b (pc' := 79) (ls' := [some (.ref 71), some (.int (nI D)), some (.int (nI N)), some (.int a), some (.int sc)]) (st' := [.int (-1)]) (h' := (n, sl, wKK kk, (ssI I (nI D) (nI N) a 2147483647 (I 71 10) r74b r75b), (ssL L (jL ((pS I D).2 + sc.toInt)) r76b), wQQ q)) 5 rfl ?_
    exact tv_ri rfl ⟨rfl, 2147483647, r74b, r75b, _, r76b, rfl, hkq, hbb⟩
  | some w =>
    have hw : w.1 ≤ 8000 := hbb
    show am_T _ _ 69 [some (.ref 71), some (.int (nI D)), some (.int (nI N)), some (.int a), some (.int sc)] [] (n, sl, wKK kk, (ssI I (nI D) (nI N) a (nI w.1) (I 71 10) r74b r75b), (ssL L (jL ((pS I D).2 + sc.toInt)) r76b), wQQ q) _
    refine tv_b (pc' := (if (nI w.1) = 2147483647 then 78 else 80)) (ls' := [some (.ref 71), some (.int (nI D)), some (.int (nI N)), some (.int a), some (.int sc)]) (st' := []) (h' := (n, sl, wKK kk, (ssI I (nI D) (nI N) a (nI w.1) (I 71 10) r74b r75b), (ssL L (jL ((pS I D).2 + sc.toInt)) r76b), wQQ q)) 4 rfl ?_
    refine tv_f (fun hq => by rw [nI_j] at hq; have h2 := congrArg Int32.toInt hq; rw [jI_toInt ⟨by omega, by omega⟩] at h2; have h3 : (2147483647 : Int32).toInt = 2147483647 := rfl; omega) ?_
    refine tv_b (pc' := 88) (ls' := [some (.ref 71), some (.int (nI D)), some (.int (nI N)), some (.int a), some (.int sc)]) (st' := []) (h' := (n, sl, wKK kk, va_up (ssI I (nI D) (nI N) a (nI w.1) (I 71 10) r74b r75b) 71 (upd ((ssI I (nI D) (nI N) a (nI w.1) (I 71 10) r74b r75b) 71) 10 (nI N)), (ssL L (jL ((pS I D).2 + sc.toInt)) r76b), wQQ q)) 4 rfl ?_
    refine tv_hI ssI_w_kp ?_
    refine tv_b (pc' := 92) (ls' := [some (.ref 71), some (.int (nI D)), some (.int (nI N)), some (.int a), some (.int sc)]) (st' := [.int (nI w.1)]) (h' := (n, sl, wKK kk, (ssI I (nI D) (nI N) a (nI w.1) (nI N) r74b r75b), (ssL L (jL ((pS I D).2 + sc.toInt)) r76b), wQQ q)) 2 rfl ?_
    exact tv_ri rfl ⟨rfl, nI w.1, r74b, r75b, _, r76b, rfl, hkq, hbb⟩
