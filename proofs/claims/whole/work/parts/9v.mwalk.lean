/-! THE REFERENCE SEARCHES: the walk -/
theorem mgI_o {J : Nat → Nat → Int32} {r s : Nat → Int32} {j : Nat} (h1 : j ≠ 123) (h2 : j ≠ 124) : mgI J r s j = J j := by
  funext i
  unfold mgI
  rw [mgI_nb h1, mgI_nb h2]
  rfl
theorem mg_s {J : Nat → Nat → Int32} : J = mgI J (J 123) (J 124) := by
  funext j i
  unfold mgI
  by_cases h1 : j = 123
  · subst h1; rfl
  by_cases h2 : j = 124
  · subst h2; rfl
  simp only [mgI_nb h1, mgI_nb h2, cond_false]
theorem mg_rE {J : Nat → Nat → Int32} {r s : Nat → Int32} : rE (mgI J r s) J := ⟨fun j j1 j2 => mgI_o (by omega) (by omega), by rw [mgI_o (by decide) (by decide)], by rw [mgI_o (by decide) (by decide)]⟩
/-- a day's row stands -/
def mkE (K3 K : Nat → Nat → Int64) (D g : Nat) (σ : Nat → Int) : Prop := K 115 = K3 115 ∧ K 116 = K3 116 ∧ K 114 (D + g) = jL (lz (xs σ)) ∧ (∀ c, c < 16 → K 113 (16 * (D + g) + c) = jL (σ c)) ∧ ∀ j, j < 57 → K j = K3 j
/-- what lies before stays -/
def mkF (K K' : Nat → Nat → Int64) (D g : Nat) : Prop := K' 115 = K 115 ∧ K' 116 = K 116 ∧ (∀ j, j ≤ D + g → K' 114 j = K 114 j) ∧ (∀ j, j < 16 * (D + g + 1) → K' 113 j = K 113 j) ∧ ∀ j, j < 57 → K' j = K j
theorem mkF_r {K : Nat → Nat → Int64} {D g : Nat} : mkF K K D g := ⟨rfl, rfl, fun _ _ => rfl, fun _ _ => rfl, fun _ _ => rfl⟩
theorem mkF_t {K K' K2 : Nat → Nat → Int64} {D g : Nat} (h : mkF K K' D g) (h2 : mkF K' K2 D g) : mkF K K2 D g := ⟨h2.1.trans h.1, h2.2.1.trans h.2.1, fun j hj => (h2.2.2.1 j hj).trans (h.2.2.1 j hj), fun j hj => (h2.2.2.2.1 j hj).trans (h.2.2.2.1 j hj), fun j hj => (h2.2.2.2.2 j hj).trans (h.2.2.2.2 j hj)⟩
theorem mkF_d {K K' : Nat → Nat → Int64} {D g : Nat} (h : mkF K K' D (g + 1)) : mkF K K' D g := ⟨h.1, h.2.1, fun j hj => h.2.2.1 j (by omega), fun j hj => h.2.2.2.1 j (by omega), h.2.2.2.2⟩
theorem mkE_f {K3 K K' : Nat → Nat → Int64} {D g : Nat} {σ : Nat → Int} (h : mkE K3 K D g σ) (f : mkF K K' D g) : mkE K3 K' D g σ := ⟨f.1.trans h.1, f.2.1.trans h.2.1, (f.2.2.1 _ (Nat.le_refl _)).trans h.2.2.1, fun c hc => (f.2.2.2.1 _ (by omega)).trans (h.2.2.2.1 c hc), fun j hj => (f.2.2.2.2 j hj).trans (h.2.2.2.2 j hj)⟩
def mkQ (R0 : Nat → Int32) (N : Nat) : bst → (Nat → Int32) → Prop
  | none, r => r = R0
  | some w, r => ∀ i, i < N → r i = if 0 ≤ rgI (w.2 i) then rgI (w.2 i) else -2
theorem muN_0 {lc : Nat → Nat} : muN lc 0 = 0 := rfl
theorem muN_s {lc : Nat → Nat} {p : Nat} : muN lc (p + 1) = lc p := by unfold muN; rw [if_neg (by omega), Nat.add_sub_cancel]
theorem exZ_p {p k l : Nat} (hk : k < 16) (hl : l ≤ 1000) (lc cl : Nat → Nat) (e1 : cl p = k) (e2 : lc p = l) : ∀ c, c < 16 → exZ (nI k) (nI l) c = if p + 1 ≠ 0 ∧ c = cl (p + 1 - 1) then (lc (p + 1 - 1) : Int) else 0 := by
  intro c hc
  rw [Nat.add_sub_cancel, e1, e2]
  unfold exZ
  by_cases z : c = k
  · subst z
    rw [if_pos rfl, if_pos ⟨by omega, rfl⟩, nI_j, jI_toInt ⟨by omega, by omega⟩]
  · rw [if_neg (fun w => z ((nI_eqI (by omega) (by omega)).mp w)), if_neg (fun w => z w.2)]
theorem exZ_0 {lc cl : Nat → Nat} : ∀ c, c < 16 → exZ (-1) 0 c = if (0 : Nat) ≠ 0 ∧ c = cl (0 - 1) then (lc (0 - 1) : Int) else 0 := by
  intro c hc
  rw [exZ_n hc, if_neg (fun z => z.1 rfl)]
/-- a day goes, with what is drawn -/
theorem mgo_v {n sl C : Nat} {kk : Nat → Nat × Nat} {q : Nat → Nat → Option Nat} {J : Nat → Nat → Int32} {K3 : Nat → Nat → Int64} {ah : Nat → Nat} {M : Nat → List (Nat × Nat × List Nat)} {lc cl : Nat → Nat} {D g j : Nat} {c0 e : Int32} {σ : Nat → Int} {K : Nat → Nat → Int64} {r s : Nat → Int32} (g0 : gInv n kk q J K3 C ah M) (hP : mPl J K3) (hd : D + g < 400) (hg : g ≤ 8) (hσ : sgB D g σ) (hE : mkE K3 K D g σ) (he : 0 ≤ e.toInt ∧ e.toInt ≤ 1000) (hx : ∀ c, c < 16 → exZ c0 e c = if j ≠ 0 ∧ c = cl (j - 1) then (lc (j - 1) : Int) else 0) : ∃ K1, am_Ev 4 207 0 (am_ent 9 [.ref 80, .int (nI (D + g)), .int c0, .int e]) [] (n, sl, wKK kk, mgI J r s, K, wQQ q) (none, (n, sl, wKK kk, mgI J r s, K1, wQQ q)) ∧ mkF K K1 D g ∧ mkE K3 K1 D (g + 1) (nxtZ J lc cl (D + g) σ j) := by
  obtain ⟨e1, e2, e3, e4, e5⟩ := hE
  have hgc := g_c (mg_rE (J := J) (r := r) (s := s)) (kn J)
  have hkn := (kn_c (mg_rE (J := J) (r := r) (s := s))).2.2
  have hdG := (dG_c (mg_rE (J := J) (r := r) (s := s))).2.2.2.1
  have hv := goes_v (I := mgI J r s) (L := K) (D := D + g) (l := lz (xs σ)) (s := σ) (c0 := c0) (e := e) (wfT_c mg_rE g0.1) (wfB_c mg_rE g0.2.1) hd (lz_b (xs σ)) he (fun d c h1 h2 => by rw [hkn, hgc.2.2.1, hgc.2.2.2.2, mgI_o (by decide) (by decide), mgI_o (by decide) (by decide)]; exact hP.1 d c h1 h2) (by rw [hkn, hgc.1, e1]; exact (hP.2.1 _ hd).1) (by rw [hkn, hgc.2.1, e2]; exact (hP.2.1 _ hd).2) e3 e4 (fun c hc => by have := hσ c hc; omega)
  obtain ⟨v1, v2, v3, v4, v5, v6, v7⟩ := hv
  have hev := ev_m_goes (d := 1) (n := n) (sl := sl) (k := kk) (q := q) (I := mgI J r s) (L := K) (D := D + g) (c := c0) (e := e) hd
  rw [v1] at hev
  refine ⟨_, hev, ⟨v6 115 (by decide) (by decide) (by decide), v6 116 (by decide) (by decide) (by decide), fun i hi => v5 i (by omega), fun i hi => v3 i (Or.inl (by omega)), fun i hi => v6 i (by omega) (by omega) (by omega)⟩, (v6 115 (by decide) (by decide) (by decide)).trans e1, (v6 116 (by decide) (by decide) (by decide)).trans e2, ?_, fun c hc => ?_, fun i hi => (v6 i (by omega) (by omega) (by omega)).trans (e5 i hi)⟩
  · rw [show D + (g + 1) = D + g + 1 by omega, v4]
    refine congrArg jL (congrArg lz ?_)
    unfold xs
    refine zS_c (fun c hc => ?_)
    show (2 * (c : Int) - 15) * (σ c + dG (mgI J r s) c (D + g) (lz (xs σ)) + 50 * exZ c0 e c) = (2 * (c : Int) - 15) * nxtZ J lc cl (D + g) σ j c
    rw [hx c hc, hdG]
    rfl
  · rw [show D + (g + 1) = D + g + 1 by omega, v2 c hc, hx c hc, hdG]
    rfl
/-- behind a day that has gone, all that lies below -/
def mCH (n sl : Nat) (kk : Nat → Nat × Nat) (q : Nat → Nat → Option Nat) (J : Nat → Nat → Int32) (K3 : Nat → Nat → Int64) (lc cl : Nat → Nat) (D N : Nat) (a sc : Int32) (cei : Int) (R0 : Nat → Int32) (Q : Option Value → am_H → Prop) (m g : Nat) : Prop := ∀ (σ : Nat → Int) (lit : Nat) (ch : Nat → Nat) (b : bst) (r123 r124 : Nat → Int32) (K : Nat → Nat → Int64) (y : Int32) (o11 : Option Value), sgB D (g + 1) σ → lit ≤ 1000 * (g + 1) → mkE K3 K D (g + 1) σ → bstB b → mkQ R0 N b r124 → (∀ i, i < g + 1 → r123 i = rgI (ch i)) → (∀ (r123' r124' : Nat → Int32) (K' : Nat → Nat → Int64) (o10' o11' : Option Value), (∀ i, i < g + 1 → r123' i = r123 i) → mkF K K' D (g + 1) → bstB (nodeZ J lc cl D a.toInt cei m (g + 1) σ lit ch b) → mkQ R0 N (nodeZ J lc cl D a.toInt cei m (g + 1) σ lit ch b) r124' → am_T 5 233 73 [some (.ref 80), some (.int (nI D)), some (.int (nI N)), some (.int a), some (.int sc), some (.long (jL cei)), none, some (.int (bsI (nodeZ J lc cl D a.toInt cei m (g + 1) σ lit ch b))), some (.int (nI g)), some (.int (nI lit)), o10', o11'] [] (n, sl, wKK kk, (mgI J r123' r124'), K', wQQ q) Q) → am_T 5 233 268 [some (.ref 80), some (.int (nI D)), some (.int (nI N)), some (.int a), some (.int sc), some (.long (jL cei)), none, some (.int (bsI b)), some (.int (nI g)), some (.int (nI lit)), some (.int y), o11] [] (n, sl, wKK kk, (mgI J r123 r124), K, wQQ q) Q
set_option maxHeartbeats 4000000 in
theorem tv_m_lvl {n sl : Nat} {kk : Nat → Nat × Nat} {q : Nat → Nat → Option Nat} {J : Nat → Nat → Int32} {K3 : Nat → Nat → Int64} {lc cl : Nat → Nat} {D N : Nat} {a sc : Int32} {cei : Int} {R0 : Nat → Int32} {Q : Option Value → am_H → Prop} {C : Nat} {ah : Nat → Nat} {M : Nat → List (Nat × Nat × List Nat)} (g0 : gInv n kk q J K3 C ah M) (hP : mPl J K3) (hlc : ∀ k, k < 3 → lc k ≤ 1000) (h122 : ∀ k, k < 3 → J 122 k = nI (lc k)) (h121 : ∀ k, k < 3 → J 121 k = nI (cl k) ∧ cl k < 16) (hcei : bM cei) (hDN : D + N ≤ 400) (hN8 : N ≤ 8) {m g : Nat} (hgm : g + m + 1 = N) (hCH : mCH n sl kk q J K3 lc cl D N a sc cei R0 Q m g) {σ : Nat → Int} {lit : Nat} {ch : Nat → Nat} (hσ : sgB D g σ) (hlit : lit ≤ 1000 * g) : ∀ r j, r + j = 4 → ∀ (b : bst) (r123 r124 : Nat → Int32) (K : Nat → Nat → Int64) (o10 o11 : Option Value), mkE K3 K D g σ → bstB b → mkQ R0 N b r124 → (∀ i, i < g → r123 i = rgI (ch i)) → r123 g = rgI j → (∀ (r123' r124' : Nat → Int32) (K' : Nat → Nat → Int64) (o10' o11' : Option Value), (∀ i, i < g → r123' i = r123 i) → mkF K K' D g → bstB (kidZ J lc cl D cei (nodeZ J lc cl D a.toInt cei m (g + 1)) g σ lit ch r j b) → mkQ R0 N (kidZ J lc cl D cei (nodeZ J lc cl D a.toInt cei m (g + 1)) g σ lit ch r j b) r124' → am_T 5 233 73 [some (.ref 80), some (.int (nI D)), some (.int (nI N)), some (.int a), some (.int sc), some (.long (jL cei)), none, some (.int (bsI (kidZ J lc cl D cei (nodeZ J lc cl D a.toInt cei m (g + 1)) g σ lit ch r j b))), some (.int (nI g + Int32.ofInt (-1))), some (.int (nI lit)), o10', o11'] [] (n, sl, wKK kk, (mgI J r123' r124'), K', wQQ q) Q) → am_T 5 233 115 [some (.ref 80), some (.int (nI D)), some (.int (nI N)), some (.int a), some (.int sc), some (.long (jL cei)), none, some (.int (bsI b)), some (.int (nI g)), some (.int (nI lit)), o10, o11] [] (n, sl, wKK kk, (mgI J r123 r124), K, wQQ q) Q := by
  have hg8 : g < 8 := by omega
  intro r
  induction r with
  | zero =>
    intro j hj b r123 r124 K o10 o11 hE hbB hq hpath hrg hcont
    have hj4 : j = 4 := by omega
    subst hj4
    exact tv_m_up hg8 hrg (hcont r123 r124 K o10 o11 (fun _ _ => rfl) mkF_r hbB hq)
  | succ r ih =>
    intro j hj b r123 r124 K o10 o11 hE hbB hq hpath hrg hcont
    have hj4 : j < 4 := by omega
    have hmu : muN lc j ≤ 1000 := by
      unfold muN
      split
      · omega
      · exact hlc _ (by omega)
    have hnx : ∀ (b1 : bst) (r123a r124a : Nat → Int32) (K1 : Nat → Nat → Int64) (o10 o11 : Option Value), (∀ i, i < g → r123a i = r123 i) → r123a g = rgI j → mkF K K1 D g → bstB b1 → mkQ R0 N b1 r124a → (chdZ J lc cl D cei (nodeZ J lc cl D a.toInt cei m (g + 1)) g σ lit ch j b) = b1 → am_T 5 233 73 [some (.ref 80), some (.int (nI D)), some (.int (nI N)), some (.int a), some (.int sc), some (.long (jL cei)), none, some (.int (bsI b1)), some (.int (nI g)), some (.int (nI (lit + muN lc j))), o10, o11] [] (n, sl, wKK kk, (mgI J r123a r124a), K1, wQQ q) Q := by
      intro b1 r123a r124a K1 o10 o11 f1 f2 f3 f4 f5 f6
      have hgoal := ih (j + 1) (by omega) b1 (upd r123a g (rgI (j + 1))) r124a K1 o10 o11 (mkE_f hE f3) f4 f5 (fun i hi => by rw [upd_n (by omega), f1 i hi]; exact hpath i hi) upd_e (fun r123' r124' K' o10' o11' e1 e2 e3 e4 => by
        have hk : (kidZ J lc cl D cei (nodeZ J lc cl D a.toInt cei m (g + 1)) g σ lit ch r (j + 1) b1) = (kidZ J lc cl D cei (nodeZ J lc cl D a.toInt cei m (g + 1)) g σ lit ch (r + 1) j b) := by
          show _ = (kidZ J lc cl D cei (nodeZ J lc cl D a.toInt cei m (g + 1)) g σ lit ch r (j + 1) (chdZ J lc cl D cei (nodeZ J lc cl D a.toInt cei m (g + 1)) g σ lit ch j b))
          rw [f6]
        rw [hk] at e3 e4 ⊢
        exact hcont r123' r124' K' o10' o11' (fun i hi => by rw [e1 i hi, upd_n (by omega), f1 i hi]) (mkF_t f3 e2) e3 e4)
      cases j with
      | zero => exact tv_m_nx0 hg8 f2 hgoal
      | succ p =>
        rw [muN_s]
        exact tv_m_nx hg8 (by omega) (h122 p (by omega)) f2 hgoal
    by_cases h0 : j ≠ 0 ∧ lc (j - 1) = 0
    · -- a pipe of no litres
      cases j with
      | zero => exact absurd rfl h0.1
      | succ p =>
        have hp0 : lc p = 0 := by have := h0.2; rw [Nat.add_sub_cancel] at this; exact this
        have hk : (kidZ J lc cl D cei (nodeZ J lc cl D a.toInt cei m (g + 1)) g σ lit ch (r + 1) (p + 1) b) = (kidZ J lc cl D cei (nodeZ J lc cl D a.toInt cei m (g + 1)) g σ lit ch r (p + 1 + 1) b) := by
          show (kidZ J lc cl D cei (nodeZ J lc cl D a.toInt cei m (g + 1)) g σ lit ch r (p + 1 + 1) (chdZ J lc cl D cei (nodeZ J lc cl D a.toInt cei m (g + 1)) g σ lit ch (p + 1) b)) = _
          unfold chdZ
          rw [if_pos h0]
        refine tv_m_skp hg8 (by omega) (by rw [h122 p (by omega), hp0]; rfl) hrg ?_
        refine ih (p + 1 + 1) (by omega) b (upd r123 g (nI (p + 1))) r124 K o10 o11 hE hbB hq (fun i hi => by rw [upd_n (by omega)]; exact hpath i hi) upd_e (fun r123' r124' K' o10' o11' e1 e2 e3 e4 => ?_)
        rw [← hk] at e3 e4 ⊢
        exact hcont r123' r124' K' o10' o11' (fun i hi => by rw [e1 i hi, upd_n (by omega)]) e2 e3 e4
    · -- it is drawn
      have h202 : ∀ o11, am_T 5 233 202 [some (.ref 80), some (.int (nI D)), some (.int (nI N)), some (.int a), some (.int sc), some (.long (jL cei)), none, some (.int (bsI b)), some (.int (nI g)), some (.int (nI (lit + muN lc j))), some (.int (rgI j)), o11] [] (n, sl, wKK kk, (mgI J r123 r124), K, wQQ q) Q := by
        intro o11
        refine tv_m_pr hbB (by omega) (fun hok => ?_) (fun hno => hnx b r123 r124 K _ _ (fun _ _ => rfl) hrg mkF_r hbB hq (by unfold chdZ; rw [if_neg h0, if_pos hno]))
        have h248 : ∀ K1, mkF K K1 D g → mkE K3 K1 D (g + 1) (nxtZ J lc cl (D + g) σ j) → am_T 5 233 248 [some (.ref 80), some (.int (nI D)), some (.int (nI N)), some (.int a), some (.int sc), some (.long (jL cei)), none, some (.int (bsI b)), some (.int (nI g)), some (.int (nI (lit + muN lc j))), some (.int (rgI j)), o11] [] (n, sl, wKK kk, (mgI J r123 r124), K1, wQQ q) Q := by
          intro K1 hF hE1
          have hs1 := sg_s (cl := cl) g0.1 g0.2.1 (by omega) hlc hσ hj4
          have hzb := lz_b (xs (nxtZ J lc cl (D + g) σ j))
          refine tv_m_ce hg8 (by omega) ⟨by omega, by omega⟩ hcei hE1.2.2.1 (fun hc => ?_) (fun hc => ?_)
          · exact hnx b r123 r124 K1 _ _ (fun _ _ => rfl) hrg hF hbB hq (by unfold chdZ; rw [if_neg h0, if_neg (fun z => z hok), if_pos hc])
          · refine hCH (nxtZ J lc cl (D + g) σ j) (lit + muN lc j) (updN ch g j) b r123 r124 K1 _ _ hs1 (by omega) hE1 hbB hq (fun i hi => ?_) (fun r123' r124' K' o10' o11' e1 e2 e3 e4 => ?_)
            · by_cases z : i = g
              · subst z; rw [hrg]; exact (congrArg rgI (if_pos rfl)).symm
              · rw [hpath i (by omega)]; exact (congrArg rgI (if_neg z)).symm
            · exact hnx _ r123' r124' K' o10' o11' (fun i hi => e1 i (by omega)) (by rw [e1 g (by omega)]; exact hrg) (mkF_t hF (mkF_d e2)) e3 e4 (by unfold chdZ; rw [if_neg h0, if_neg (fun z => z hok), if_neg hc])
        cases j with
        | zero =>
          obtain ⟨K1, hev, hF, hE1⟩ := mgo_v (sl := sl) (j := 0) (r := r123) (s := r124) g0 hP (by omega) (by omega) hσ hE ⟨by decide, by decide⟩ (exZ_0 (lc := lc) (cl := cl))
          refine tv_b (pc' := 222) (ls' := [some (.ref 80), some (.int (nI D)), some (.int (nI N)), some (.int a), some (.int sc), some (.long (jL cei)), none, some (.int (bsI b)), some (.int (nI g)), some (.int (nI (lit + muN lc 0))), some (.int (-1)), o11]) (st' := [.int (nI g), .int (nI D), .ref 80]) (h' := (n, sl, wKK kk, (mgI J r123 r124), K, wQQ q)) 3 rfl ?_
          refine tv_b (pc' := 223) (ls' := [some (.ref 80), some (.int (nI D)), some (.int (nI N)), some (.int a), some (.int sc), some (.long (jL cei)), none, some (.int (bsI b)), some (.int (nI g)), some (.int (nI (lit + muN lc 0))), some (.int (-1)), o11]) (st' := [.int ((nI D) + (nI g)), .ref 80]) (h' := (n, sl, wKK kk, (mgI J r123 r124), K, wQQ q)) 1 rfl ?_
          refine tv_top (show (nI D) + (nI g) = nI (D + g) from nI_add D g) ?_
          refine tv_b (pc' := 242) (ls' := [some (.ref 80), some (.int (nI D)), some (.int (nI N)), some (.int a), some (.int sc), some (.long (jL cei)), none, some (.int (bsI b)), some (.int (nI g)), some (.int (nI (lit + muN lc 0))), some (.int (-1)), o11]) (st' := [.int (-1), .ref 80, .int (-1), .int (nI (D + g)), .ref 80]) (h' := (n, sl, wKK kk, (mgI J r123 r124), K, wQQ q)) 6 rfl ?_
          refine tv_cvE [.int (-1)] [.int (-1), .int (nI (D + g)), .ref 80] rfl rfl (by omega) rfl (Nat.le_of_ble_eq_true rfl) (Nat.le_of_ble_eq_true rfl) (Or.inr (Or.inr rfl)) (ev_m_litN) ?_
          refine tv_cvE [.int (nI (D + g)), .int (-1), .int 0] [] rfl rfl (by omega) rfl (Nat.le_of_ble_eq_true rfl) (Nat.le_of_ble_eq_true rfl) (Or.inr (Or.inr rfl)) (hev) ?_
          exact h248 K1 hF hE1
        | succ p =>
          obtain ⟨hc1, hc2⟩ := h121 p (by omega)
          have hlp := hlc p (by omega)
          obtain ⟨K1, hev, hF, hE1⟩ := mgo_v (sl := sl) (j := p + 1) (r := r123) (s := r124) (c0 := nI (cl p)) (e := nI (lc p)) g0 hP (by omega) (by omega) hσ hE (by rw [nI_j, jI_toInt ⟨by omega, by omega⟩]; omega) (exZ_p hc2 hlp lc cl rfl rfl)
          refine tv_b (pc' := 222) (ls' := [some (.ref 80), some (.int (nI D)), some (.int (nI N)), some (.int a), some (.int sc), some (.long (jL cei)), none, some (.int (bsI b)), some (.int (nI g)), some (.int (nI (lit + muN lc (p + 1)))), some (.int (nI p)), o11]) (st' := [.int (nI g), .int (nI D), .ref 80]) (h' := (n, sl, wKK kk, (mgI J r123 r124), K, wQQ q)) 3 rfl ?_
          refine tv_b (pc' := 223) (ls' := [some (.ref 80), some (.int (nI D)), some (.int (nI N)), some (.int a), some (.int sc), some (.long (jL cei)), none, some (.int (bsI b)), some (.int (nI g)), some (.int (nI (lit + muN lc (p + 1)))), some (.int (nI p)), o11]) (st' := [.int ((nI D) + (nI g)), .ref 80]) (h' := (n, sl, wKK kk, (mgI J r123 r124), K, wQQ q)) 1 rfl ?_
          refine tv_top (show (nI D) + (nI g) = nI (D + g) from nI_add D g) ?_
          refine tv_b (pc' := (if 0 ≤ (nI p) then 232 else 228)) (ls' := [some (.ref 80), some (.int (nI D)), some (.int (nI N)), some (.int a), some (.int sc), some (.long (jL cei)), none, some (.int (bsI b)), some (.int (nI g)), some (.int (nI (lit + muN lc (p + 1)))), some (.int (nI p)), o11]) (st' := [.int (nI (D + g)), .ref 80]) (h' := (n, sl, wKK kk, (mgI J r123 r124), K, wQQ q)) 2 rfl ?_
          refine tv_t ((nI_leI (a := 0) (b := p) (by omega) (by omega)).mpr (by omega)) ?_
          refine tv_b (pc' := 238) (ls' := [some (.ref 80), some (.int (nI D)), some (.int (nI N)), some (.int a), some (.int sc), some (.long (jL cei)), none, some (.int (bsI b)), some (.int (nI g)), some (.int (nI (lit + muN lc (p + 1)))), some (.int (nI p)), o11]) (st' := [.int (nI p), .ref 121, .int (nI (D + g)), .ref 80]) (h' := (n, sl, wKK kk, (mgI J r123 r124), K, wQQ q)) 3 rfl ?_
          refine tv_ialN (k := p) rfl (rfl) (⟨by omega, by omega⟩) ?_
          refine tv_top (hc1) ?_
          refine tv_b (pc' := 242) (ls' := [some (.ref 80), some (.int (nI D)), some (.int (nI N)), some (.int a), some (.int sc), some (.long (jL cei)), none, some (.int (bsI b)), some (.int (nI g)), some (.int (nI (lit + muN lc (p + 1)))), some (.int (nI p)), o11]) (st' := [.int (nI p), .ref 80, .int (nI (cl p)), .int (nI (D + g)), .ref 80]) (h' := (n, sl, wKK kk, (mgI J r123 r124), K, wQQ q)) 2 rfl ?_
          refine tv_cvE [.int (nI p)] [.int (nI (cl p)), .int (nI (D + g)), .ref 80] rfl rfl (by omega) rfl (Nat.le_of_ble_eq_true rfl) (Nat.le_of_ble_eq_true rfl) (Or.inr (Or.inr rfl)) ((show am_Ev 4 232 0 (am_ent 2 [.ref 80, .int (nI p)]) [] (n, sl, wKK kk, (mgI J r123 r124), K, wQQ q) (some (.int (nI (lc p))), (n, sl, wKK kk, (mgI J r123 r124), K, wQQ q)) from (h122 p (by omega)) ▸ ev_m_litP (I := mgI J r123 r124) (by omega))) ?_
          refine tv_cvE [.int (nI (D + g)), .int (nI (cl p)), .int (nI (lc p))] [] rfl rfl (by omega) rfl (Nat.le_of_ble_eq_true rfl) (Nat.le_of_ble_eq_true rfl) (Or.inr (Or.inr rfl)) (hev) ?_
          exact h248 K1 hF hE1
      cases j with
      | zero => exact tv_m_gN hg8 hrg (h202 _)
      | succ p =>
        have h2 := h202
        rw [muN_s] at h2
        exact tv_m_gP hg8 (by omega) (h122 p (by omega)) (fun z => h0 ⟨by omega, by rw [Nat.add_sub_cancel]; exact z⟩) (hlc p (by omega)) hrg (h2 _)
theorem mCH_all {n sl : Nat} {kk : Nat → Nat × Nat} {q : Nat → Nat → Option Nat} {J : Nat → Nat → Int32} {K3 : Nat → Nat → Int64} {lc cl : Nat → Nat} {D N : Nat} {a sc : Int32} {cei : Int} {R0 : Nat → Int32} {Q : Option Value → am_H → Prop} {C : Nat} {ah : Nat → Nat} {M : Nat → List (Nat × Nat × List Nat)} (g0 : gInv n kk q J K3 C ah M) (hP : mPl J K3) (hlc : ∀ k, k < 3 → lc k ≤ 1000) (h122 : ∀ k, k < 3 → J 122 k = nI (lc k)) (h121 : ∀ k, k < 3 → J 121 k = nI (cl k) ∧ cl k < 16) (hcei : bM cei) (hDN : D + N ≤ 400) (hN8 : N ≤ 8) : ∀ m g, g + m + 1 = N → mCH n sl kk q J K3 lc cl D N a sc cei R0 Q m g := by
  intro m
  induction m with
  | zero =>
    intro g hg σ lit ch b r123 r124 K y o11 hσ hlit hE hbB hq hpath hcont
    have hzb := lz_b (xs σ)
    have hgN : g + 1 = N := by omega
    have hKz : K 114 (D + N) = jL (lz (xs σ)) := by rw [← hgN]; exact hE.2.2.1
    have hz : nodeZ J lc cl D a.toInt cei 0 (g + 1) σ lit ch b = if lz (xs σ) ≤ a.toInt then some (lit, ch) else b := rfl
    refine tv_m_lf hgN hN8 hDN ⟨by omega, by omega⟩ hKz (fun hc => ?_) (fun hc r124a o11a hr => ?_)
    · rw [hz, if_neg (by omega)] at hcont
      exact hcont r123 r124 K _ _ (fun _ _ => rfl) mkF_r hbB hq
    · rw [hz, if_pos (by omega)] at hcont
      exact hcont r123 r124a K _ _ (fun _ _ => rfl) mkF_r (by show lit ≤ 8000; omega) (fun i hi => by rw [hr i hi, hpath i (by omega)])
  | succ m ih =>
    intro g hg σ lit ch b r123 r124 K y o11 hσ hlit hE hbB hq hpath hcont
    refine tv_m_dn (by omega) hN8 ?_
    refine tv_m_in (by omega) upd_e ?_
    refine tv_m_lvl g0 hP hlc h122 h121 hcei hDN hN8 (m := m) (g := g + 1) (by omega) (ih (g + 1) (by omega)) hσ hlit 4 0 rfl b _ r124 K _ _ hE hbB hq (fun i hi => by rw [upd_n (by omega), upd_n (by omega)]; exact hpath i hi) upd_e (fun r123' r124' K' o10' o11' e1 e2 e3 e4 => ?_)
    rw [show nI (g + 1) + Int32.ofInt (-1) = nI g from rg_d (g + 1)]
    exact hcont r123' r124' K' o10' o11' (fun i hi => by rw [e1 i hi, upd_n (by omega), upd_n (by omega)]) e2 e3 e4
