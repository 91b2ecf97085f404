/-! THE CLASS DRAWS -/
theorem zS_on1 {v : Int} {a : Nat} : ∀ n, zS (fun c => if c = a then v else 0) n = if a < n then v else 0 := by
  intro n
  induction n with
  | zero => rfl
  | succ n ih =>
    show zS (fun c => if c = a then v else 0) n + (if n = a then v else 0) = _
    rw [ih]
    by_cases h1 : a < n
    · rw [if_pos h1, if_neg (by omega), if_pos (by omega)]; omega
    · by_cases h2 : n = a
      · rw [if_neg h1, if_pos h2, if_pos (by omega)]; omega
      · rw [if_neg h1, if_neg h2, if_neg (by omega)]; rfl
theorem xs_one {v : Int} {a : Nat} (ha : a < 16) : xs (fun c => 50 * (if c = a then v else 0)) = 50 * v * (2 * (a : Int) - 15) := by
  unfold xs
  have e : zS (fun c => (2 * (c : Int) - 15) * (50 * (if c = a then v else 0))) 16 = zS (fun c => if c = a then 50 * v * (2 * (a : Int) - 15) else 0) 16 := zS_c (fun c _ => by
    show (2 * (c : Int) - 15) * (50 * (if c = a then v else 0)) = if c = a then 50 * v * (2 * (a : Int) - 15) else 0
    by_cases h : c = a
    · subst h; rw [if_pos rfl, if_pos rfl, Int.mul_comm]
    · rw [if_neg h, if_neg h, Int.mul_zero, Int.mul_zero])
  rw [e, zS_on1, if_pos ha]
theorem nxt_0 {X : Nat → Nat → Int32} {lc cl : Nat → Nat} {d : Nat} {σ : Nat → Int} : xs (nxtZ X lc cl d σ 0) = xs σ + xs (fun c => dG X c d (lz (xs σ))) := by
  unfold nxtZ
  rw [xs_add, xs_add]
  have : xs (fun c => 50 * (if (0 : Nat) ≠ 0 ∧ c = cl (0 - 1) then (lc (0 - 1) : Int) else 0)) = 0 := by
    have e : (fun c => 50 * (if (0 : Nat) ≠ 0 ∧ c = cl (0 - 1) then (lc (0 - 1) : Int) else 0)) = (fun c => 50 * (if c = 0 then (0 : Int) else 0)) := by
      funext c
      rw [if_neg (fun z => z.1 rfl)]
      split <;> rfl
    rw [e, xs_one (by decide)]
    rfl
  omega
theorem nxt_p {X : Nat → Nat → Int32} {lc cl : Nat → Nat} {d p : Nat} {σ : Nat → Int} (hc : cl p < 16) : xs (nxtZ X lc cl d σ (p + 1)) = xs (nxtZ X lc cl d σ 0) + 50 * (lc p : Int) * (2 * (cl p : Int) - 15) := by
  rw [nxt_0]
  unfold nxtZ
  rw [xs_add, xs_add]
  have e : (fun c => 50 * (if p + 1 ≠ 0 ∧ c = cl (p + 1 - 1) then (lc (p + 1 - 1) : Int) else 0)) = (fun c => 50 * (if c = cl p then (lc p : Int) else 0)) := by
    funext c
    rw [Nat.add_sub_cancel]
    by_cases h : c = cl p
    · rw [if_pos h, if_pos ⟨by omega, h⟩]
    · rw [if_neg h, if_neg (fun z => h z.2)]
  rw [e, xs_one hc]
def sgB (D g : Nat) (σ : Nat → Int) : Prop := ∀ c, c < 16 → -(60000000 * ((D : Int) + g) + 50000 * g) ≤ σ c ∧ σ c ≤ 60000000 * ((D : Int) + g) + 50000 * g
theorem sg_s {X : Nat → Nat → Int32} {lc cl : Nat → Nat} {D g : Nat} {σ : Nat → Int} (hT : wfT X) (hB : wfB X) (hd : D + g < 400) (hlc : ∀ k, k < 3 → lc k ≤ 1000) (h : sgB D g σ) {j : Nat} (hj : j < 4) : sgB D (g + 1) (nxtZ X lc cl (D + g) σ j) := by
  intro c hc
  have h1 := h c hc
  have h2 := (dG_b hT hB hc hd (lz_b (xs σ))).2
  have h3 : 0 ≤ (if j ≠ 0 ∧ c = cl (j - 1) then (lc (j - 1) : Int) else 0) ∧ (if j ≠ 0 ∧ c = cl (j - 1) then (lc (j - 1) : Int) else 0) ≤ 1000 := by
    split
    · rename_i z
      have := hlc (j - 1) (by omega)
      omega
    · omega
  unfold nxtZ
  push_cast
  omega
theorem sg_x {D g : Nat} {σ : Nat → Int} (hD : D + g ≤ 400) (hg : g ≤ 8) (h : sgB D g σ) : sp_leanOf (jL (xs σ)) = jI (lz (xs σ)) ∧ bM (xs σ) := by
  have h1 : ∀ c, c < 16 → -25000000000 ≤ σ c ∧ σ c ≤ 25000000000 := fun c hc => by have := h c hc; omega
  refine ⟨clean_j (B := 25000000000) (by decide) h1, ?_⟩
  have := xs_b h1
  exact ⟨by omega, by omega⟩
theorem so_j (k : Nat) (hk : k < 16) : (sp_southOf (nI k)).toInt64 = jL (2 * (k : Int) - 15) := by
  have e : sp_southOf (nI k) = jI (2 * (k : Int) - 15) := by
    unfold sp_southOf
    rw [nI_j, show (2 : Int32) = jI 2 from rfl, show (15 : Int32) = jI 15 from rfl, jI_mul, jI_sub]
  rw [e, jI_64 ⟨by omega, by omega⟩]
theorem sumg_v {I X : Nat → Nat → Int32} {L : Nat → Nat → Int64} (hc : cTow I X) (hw : cWet I X) (hs : cSum I L X (kn X)) (hT : wfT X) (hB : wfB X) {d : Nat} (hd : d < 400) {l : Int} (hl : -1000000000 ≤ l ∧ l ≤ 1000000000) : sL (fun j => (sp_southOf (nI j)).toInt64 * sp_d_given (nI j) (nI d) (sp_d_totalOn (nI d) I L) (sp_d_momentOn (nI d) (jI l) I L) I L) 16 = jL (xs (fun c => dG X c d l)) :=
  sL_j (fun c hcc => by rw [ctot_j hc hs hB hd, cmom_j hc hs hT hd hl, cgiven_j hc hw hs hT hB hcc hd hl, so_j c hcc, jL_mul])
theorem sumat_v {I X : Nat → Nat → Int32} {L : Nat → Nat → Int64} {D : Nat} (hD : D ≤ 400) (hr : cRow I L X D) : sL (fun j => (sp_southOf (nI j)).toInt64 * sp_d_settledAt (nI j) (nI D) I L) 16 = jL (xs (pS X D).1) :=
  sL_j (fun c hcc => by
    have e : sp_d_settledAt (nI c) (nI D) I L = jL ((pS X D).1 c) := by
      unfold sp_d_settledAt
      rw [if_neg (sp_isColumn_nI hcc), if_neg (wi_0400 hD), nI_clamp (by omega), nI_clamp (by omega)]
      exact hr.2.2.2 c hcc
    rw [e, so_j c hcc, jL_mul])
/-- what was met stands for all that can be reached from it -/
def mttI (X : Nat → Nat → Int32) (lc cl : Nat → Nat) (D N : Nat) (aim cei : Int) (b : bst) (g : Nat) (r : Nat → Int64) : Prop := ∀ g', g ≤ g' → g' < N → ∀ c0 c1 c2, c0 < 8 → c1 < 8 → c2 < 8 → r (512 * g' + (c0 + 8 * c1 + 64 * c2)) = 9223372036854775807 ∨ ∃ σ0, sgB D g' σ0 ∧ r (512 * g' + (c0 + 8 * c1 + 64 * c2)) = jL (xs σ0) ∧ ∀ a, rchZ X lc cl D aim cei (N - g') g' σ0 a → leB b (c0 * lc 0 + c1 * lc 1 + c2 * lc 2 + a)
theorem mttI_m {X : Nat → Nat → Int32} {lc cl : Nat → Nat} {D N : Nat} {aim cei : Int} {b b' : bst} {g : Nat} {r : Nat → Int64} (h : mttI X lc cl D N aim cei b g r) (hb : ∀ v, leB b v → leB b' v) : mttI X lc cl D N aim cei b' g r := fun g' h1 h2 c0 c1 c2 d0 d1 d2 => by
  rcases h g' h1 h2 c0 c1 c2 d0 d1 d2 with z | ⟨σ0, z1, z2, z3⟩
  · exact Or.inl z
  · exact Or.inr ⟨σ0, z1, z2, fun a ha => hb _ (z3 a ha)⟩
def drwZ (X : Nat → Nat → Int32) (lc cl : Nat → Nat) (D : Nat) (aim cei : Int) (m g : Nat) (σ : Nat → Int) (lit : Nat) (ch : Nat → Nat) (b : bst) : bst := if okB b lit = true then nodeZ X lc cl D aim cei m g σ lit ch b else b
theorem chd_d {X : Nat → Nat → Int32} {lc cl : Nat → Nat} {D : Nat} {aim cei : Int} {m g : Nat} {σ : Nat → Int} {lit : Nat} {ch : Nat → Nat} {j : Nat} {b : bst} : chdZ X lc cl D cei (nodeZ X lc cl D aim cei m (g + 1)) g σ lit ch j b = if j ≠ 0 ∧ lc (j - 1) = 0 then b else if cei < lz (xs (nxtZ X lc cl (D + g) σ j)) then b else drwZ X lc cl D aim cei m (g + 1) (nxtZ X lc cl (D + g) σ j) (lit + muN lc j) (updN ch g j) b := by
  unfold chdZ drwZ
  by_cases h1 : j ≠ 0 ∧ lc (j - 1) = 0
  · rw [if_pos h1, if_pos h1]
  · rw [if_neg h1, if_neg h1]
    by_cases h2 : okB b (lit + muN lc j) = true
    · rw [if_neg (fun z => z h2), if_pos h2]
    · rw [if_pos h2, if_neg h2]
      split <;> rfl
theorem drw_b {X : Nat → Nat → Int32} {lc cl : Nat → Nat} {D : Nat} {aim cei : Int} {m g : Nat} {σ : Nat → Int} {lit : Nat} {ch : Nat → Nat} {b : bst} : (∀ v, leB b v → leB (drwZ X lc cl D aim cei m g σ lit ch b) v) ∧ ∀ a, rchZ X lc cl D aim cei m g σ a → leB (drwZ X lc cl D aim cei m g σ lit ch b) (lit + a) := by
  unfold drwZ
  by_cases h : okB b lit = true
  · rw [if_pos h]; exact node_b m g σ lit ch b h
  · rw [if_neg h]; exact ⟨fun v hv => hv, fun a _ => leB_m (okB_n.mp h) (by omega)⟩
/-- the kept way, or none since -/
def kpQ (R0 : Nat → Int32) (N : Nat) : bst → (Nat → Int32) → Prop
  | none, r => r = R0
  | some w, r => ∀ i, i < N → r i = rgI (w.2 i)
/-- what draw does -/
def drPost (R0 : Nat → Int32) (n sl : Nat) (kk : Nat → Nat × Nat) (q : Nat → Nat → Option Nat) (I : Nat → Nat → Int32) (L : Nat → Nat → Int64) (lc cl : Nat → Nat) (D N : Nat) (aim cei : Int) (g : Nat) (b' : bst) (r74 : Nat → Int32) (r76 : Nat → Int64) (rv : Option Value) (h' : am_H) : Prop := rv = none ∧ ∃ r74' r75' r76', h' = (n, sl, wKK kk, sdI I (lstI b') r74' r75', sdL L r76', wQQ q) ∧ bstB b' ∧ kpQ R0 N b' r75' ∧ (∀ i, i < g → r74' i = r74 i) ∧ mttI I lc cl D N aim cei b' g r76' ∧ (∀ i, i < 512 * g → r76' i = r76 i)
set_option maxHeartbeats 4000000 in
theorem tv_draw {n sl C : Nat} {kk : Nat → Nat × Nat} {q : Nat → Nat → Option Nat} {I : Nat → Nat → Int32} {L : Nat → Nat → Int64} {ah : Nat → Nat} {M : Nat → List (Nat × Nat × List Nat)} {R0 : Nat → Int32} {lc cl : Nat → Nat} {D N : Nat} {cei : Int} (g0 : gInv n kk q I L C ah M) (hlc : ∀ k, k < 3 → lc k ≤ 1000) (h73 : ∀ k, k < 3 → I 73 k = nI (lc k)) (h72 : ∀ k, k < 3 → I 72 k = nI (cl k) ∧ cl k < 16) (h3 : I 71 3 = nI D) (h4 : I 71 4 = nI N) (h6 : L 71 6 = jL cei) (hce : bM cei) (hDN : D + N ≤ 400) (hN8 : N ≤ 8) : ∀ m g : Nat, g + m = N → ∀ (σ : Nat → Int) (lit c0 c1 c2 : Nat) (ch : Nat → Nat) (b : bst) (r74 r75 : Nat → Int32) (r76 : Nat → Int64), sgB D g σ → c0 + c1 + c2 ≤ g → lit = c0 * lc 0 + c1 * lc 1 + c2 * lc 2 → bstB b → kpQ R0 N b r75 → (∀ i, i < g → r74 i = rgI (ch i)) → mttI I lc cl D N (I 71 5).toInt cei b g r76 → am_T (6 + m) 95 0 (am_ent 13 [.ref 71, .int (nI g), .long (jL (xs σ)), .int (nI lit), .int (nI (c0 + 8 * c1 + 64 * c2))]) [] (n, sl, wKK kk, (sdI I (lstI b) r74 r75), (sdL L r76), wQQ q) (drPost R0 n sl kk q I L lc cl D N (I 71 5).toInt cei g (drwZ I lc cl D (I 71 5).toInt cei m g σ lit ch b) r74 r76) := by
  have gT := g0.1
  have gB := g0.2.1
  have gG := g0.2.2.1
  have haim : ∀ (z : Int), bI z → (I 71 5 < jI z ↔ ¬ z ≤ (I 71 5).toInt) := fun z hz => by
    rw [Int32.lt_iff_toInt_lt, jI_toInt hz]
    omega
  intro m
  induction m with
  | zero =>
    intro g hg σ lit c0 c1 c2 ch b r74 r75 r76 hσ hc hlit hbB hkp hpath hmt
    have hgN : g = N := by omega
    have l0 := hlc 0 (by decide)
    have l1 := hlc 1 (by decide)
    have l2 := hlc 2 (by decide)
    have hlit8 : lit ≤ 8000 := by
      have a0 := Nat.mul_le_mul_left c0 l0
      have a1 := Nat.mul_le_mul_left c1 l1
      have a2 := Nat.mul_le_mul_left c2 l2
      omega
    obtain ⟨hle, hxb⟩ := sg_x (D := D) (g := g) (by omega) (by omega) hσ
    have hlzb := lz_b (xs σ)
    have hai := haim (lz (xs σ)) ⟨by omega, by omega⟩
    have hlo := lst_ok hbB hlit8
    have helf : ∀ d', am_Ev (d' + 1) 153 0 (am_ent 2 [.long (jL (xs σ))]) [] (n, sl, wKK kk, sdI I (lstI b) r74 r75, sdL L r76, wQQ q) (some (.int (jI (lz (xs σ)))), (n, sl, wKK kk, sdI I (lstI b) r74 r75, sdL L r76, wQQ q)) := fun d' => by
      have e := ev_leanOf (d := d') (h := (n, sl, wKK kk, sdI I (lstI b) r74 r75, sdL L r76, wQQ q)) (s := jL (xs σ))
      rw [hle] at e
      exact e
    unfold drwZ
    by_cases hok : okB b lit = true
    · rw [if_pos hok]
      have hlt := hlo.mpr hok
      show am_T _ _ 0 _ _ _ (drPost R0 n sl kk q I L lc cl D N (I 71 5).toInt cei g (if lz (xs σ) ≤ (I 71 5).toInt then some (lit, ch) else b) r74 r76)
      by_cases hz : lz (xs σ) ≤ (I 71 5).toInt
      · rw [if_pos hz]
        show am_T _ _ 0 [some (.ref 71), some (.int (nI g)), some (.long (jL (xs σ))), none, some (.int (nI lit)), some (.int (nI (c0 + 8 * c1 + 64 * c2))), none, none, none, none, none, none, none] _ _ _
        refine tv_b (pc' := (if (nI lit) < (lstI b) then 10 else 9)) (ls' := [some (.ref 71), some (.int (nI g)), some (.long (jL (xs σ))), none, some (.int (nI lit)), some (.int (nI (c0 + 8 * c1 + 64 * c2))), none, none, none, none, none, none, none]) (st' := []) (h' := (n, sl, wKK kk, (sdI I (lstI b) r74 r75), (sdL L r76), wQQ q)) 4 rfl ?_
        refine tv_t (hlt) ?_
        refine tv_b (pc' := 15) (ls' := [some (.ref 71), some (.int (nI g)), some (.long (jL (xs σ))), none, some (.int (nI lit)), some (.int (nI (c0 + 8 * c1 + 64 * c2))), none, none, none, none, none, none, none]) (st' := [.int (I 71 4), .int (nI g)]) (h' := (n, sl, wKK kk, (sdI I (lstI b) r74 r75), (sdL L r76), wQQ q)) 3 rfl ?_
        refine tv_top (h4) ?_
        refine tv_b (pc' := (if (nI N) ≤ (nI g) then 24 else 18)) (ls' := [some (.ref 71), some (.int (nI g)), some (.long (jL (xs σ))), none, some (.int (nI lit)), some (.int (nI (c0 + 8 * c1 + 64 * c2))), none, none, none, none, none, none, none]) (st' := []) (h' := (n, sl, wKK kk, (sdI I (lstI b) r74 r75), (sdL L r76), wQQ q)) 1 rfl ?_
        refine tv_t ((nI_leI (a := N) (b := g) (by omega) (by omega)).mpr (by omega)) ?_
        refine tv_b (pc' := 25) (ls' := [some (.ref 71), some (.int (nI g)), some (.long (jL (xs σ))), none, some (.int (nI lit)), some (.int (nI (c0 + 8 * c1 + 64 * c2))), none, none, none, none, none, none, none]) (st' := [.long (jL (xs σ))]) (h' := (n, sl, wKK kk, (sdI I (lstI b) r74 r75), (sdL L r76), wQQ q)) 1 rfl ?_
        refine tv_csE [.long (jL (xs σ))] [] rfl rfl (by omega) rfl (Nat.le_of_ble_eq_true rfl) (Nat.le_of_ble_eq_true rfl) (helf _) ?_
        refine tv_b (pc' := (if (I 71 5) < (jI (lz (xs σ))) then 41 else 35)) (ls' := [some (.ref 71), some (.int (nI g)), some (.long (jL (xs σ))), none, some (.int (nI lit)), some (.int (nI (c0 + 8 * c1 + 64 * c2))), none, none, none, none, none, none, none]) (st' := []) (h' := (n, sl, wKK kk, (sdI I (lstI b) r74 r75), (sdL L r76), wQQ q)) 3 rfl ?_
        refine tv_f (fun q => (hai.mp q) hz) ?_
        refine tv_b (pc' := 38) (ls' := [some (.ref 71), some (.int (nI g)), some (.long (jL (xs σ))), none, some (.int (nI lit)), some (.int (nI (c0 + 8 * c1 + 64 * c2))), none, none, none, none, none, none, none]) (st' := [.int (nI lit), .ref 71]) (h' := (n, sl, wKK kk, (sdI I (lstI b) r74 r75), (sdL L r76), wQQ q)) 2 rfl ?_
        refine tv_cvE [.int (nI lit)] [] rfl rfl (by omega) rfl (Nat.le_of_ble_eq_true rfl) (Nat.le_of_ble_eq_true rfl) (Or.inr (Or.inr rfl)) (ev_s_keep) ?_
        refine tv_rv rfl ⟨rfl, r74, va_cpy r74 r75 0 0 8, r76, rfl, hlit8, fun i hi => ?_, fun _ _ => rfl, fun g' h1 h2 => absurd h2 (by omega), fun _ _ => rfl⟩
        show (if 0 ≤ i ∧ i < 0 + 8 then r74 (0 + (i - 0)) else r75 i) = rgI (ch i)
        rw [if_pos ⟨by omega, by omega⟩, show 0 + (i - 0) = i by omega]
        exact hpath i (by omega)
      · rw [if_neg hz]
        show am_T _ _ 0 [some (.ref 71), some (.int (nI g)), some (.long (jL (xs σ))), none, some (.int (nI lit)), some (.int (nI (c0 + 8 * c1 + 64 * c2))), none, none, none, none, none, none, none] _ _ _
        refine tv_b (pc' := (if (nI lit) < (lstI b) then 10 else 9)) (ls' := [some (.ref 71), some (.int (nI g)), some (.long (jL (xs σ))), none, some (.int (nI lit)), some (.int (nI (c0 + 8 * c1 + 64 * c2))), none, none, none, none, none, none, none]) (st' := []) (h' := (n, sl, wKK kk, (sdI I (lstI b) r74 r75), (sdL L r76), wQQ q)) 4 rfl ?_
        refine tv_t (hlt) ?_
        refine tv_b (pc' := 15) (ls' := [some (.ref 71), some (.int (nI g)), some (.long (jL (xs σ))), none, some (.int (nI lit)), some (.int (nI (c0 + 8 * c1 + 64 * c2))), none, none, none, none, none, none, none]) (st' := [.int (I 71 4), .int (nI g)]) (h' := (n, sl, wKK kk, (sdI I (lstI b) r74 r75), (sdL L r76), wQQ q)) 3 rfl ?_
        refine tv_top (h4) ?_
        refine tv_b (pc' := (if (nI N) ≤ (nI g) then 24 else 18)) (ls' := [some (.ref 71), some (.int (nI g)), some (.long (jL (xs σ))), none, some (.int (nI lit)), some (.int (nI (c0 + 8 * c1 + 64 * c2))), none, none, none, none, none, none, none]) (st' := []) (h' := (n, sl, wKK kk, (sdI I (lstI b) r74 r75), (sdL L r76), wQQ q)) 1 rfl ?_
        refine tv_t ((nI_leI (a := N) (b := g) (by omega) (by omega)).mpr (by omega)) ?_
        refine tv_b (pc' := 25) (ls' := [some (.ref 71), some (.int (nI g)), some (.long (jL (xs σ))), none, some (.int (nI lit)), some (.int (nI (c0 + 8 * c1 + 64 * c2))), none, none, none, none, none, none, none]) (st' := [.long (jL (xs σ))]) (h' := (n, sl, wKK kk, (sdI I (lstI b) r74 r75), (sdL L r76), wQQ q)) 1 rfl ?_
        refine tv_csE [.long (jL (xs σ))] [] rfl rfl (by omega) rfl (Nat.le_of_ble_eq_true rfl) (Nat.le_of_ble_eq_true rfl) (helf _) ?_
        refine tv_b (pc' := (if (I 71 5) < (jI (lz (xs σ))) then 41 else 35)) (ls' := [some (.ref 71), some (.int (nI g)), some (.long (jL (xs σ))), none, some (.int (nI lit)), some (.int (nI (c0 + 8 * c1 + 64 * c2))), none, none, none, none, none, none, none]) (st' := []) (h' := (n, sl, wKK kk, (sdI I (lstI b) r74 r75), (sdL L r76), wQQ q)) 3 rfl ?_
        refine tv_t (hai.mpr hz) ?_
        exact tv_rv rfl ⟨rfl, r74, r75, r76, rfl, hbB, hkp, fun _ _ => rfl, hmt, fun _ _ => rfl⟩
    · rw [if_neg hok]
      have hlt : ¬ nI lit < lstI b := fun q => hok (hlo.mp q)
      show am_T _ _ 0 [some (.ref 71), some (.int (nI g)), some (.long (jL (xs σ))), none, some (.int (nI lit)), some (.int (nI (c0 + 8 * c1 + 64 * c2))), none, none, none, none, none, none, none] _ _ _
      refine tv_b (pc' := (if (nI lit) < (lstI b) then 10 else 9)) (ls' := [some (.ref 71), some (.int (nI g)), some (.long (jL (xs σ))), none, some (.int (nI lit)), some (.int (nI (c0 + 8 * c1 + 64 * c2))), none, none, none, none, none, none, none]) (st' := []) (h' := (n, sl, wKK kk, (sdI I (lstI b) r74 r75), (sdL L r76), wQQ q)) 4 rfl ?_
      refine tv_f (hlt) ?_
      exact tv_rv rfl ⟨rfl, r74, r75, r76, rfl, hbB, hkp, fun _ _ => rfl, hmt, fun _ _ => rfl⟩
  | succ m ih =>
    intro g hg σ lit c0 c1 c2 ch b r74 r75 r76 hσ hc hlit hbB hkp hpath hmt
    have hgN : g < N := by omega
    have l0 := hlc 0 (by decide)
    have l1 := hlc 1 (by decide)
    have l2 := hlc 2 (by decide)
    have hlit8 : lit ≤ 7000 := by
      have a0 := Nat.mul_le_mul_left c0 l0
      have a1 := Nat.mul_le_mul_left c1 l1
      have a2 := Nat.mul_le_mul_left c2 l2
      omega
    obtain ⟨hle, hxb⟩ := sg_x (D := D) (g := g) (by omega) (by omega) hσ
    have hlzb := lz_b (xs σ)
    have hlo := lst_ok hbB (v := lit) (by omega)
    by_cases hok : okB b lit = true
    · have hlt := hlo.mpr hok
      have helf : ∀ (d' : Nat) (I' : Nat → Nat → Int32) (L' : Nat → Nat → Int64), am_Ev (d' + 1) 153 0 (am_ent 2 [.long (jL (xs σ))]) [] (n, sl, wKK kk, I', L', wQQ q) (some (.int (jI (lz (xs σ)))), (n, sl, wKK kk, I', L', wQQ q)) := fun d' I' L' => by
        have e := ev_leanOf (d := d') (h := (n, sl, wKK kk, I', L', wQQ q)) (s := jL (xs σ))
        rw [hle] at e
        exact e
      have hd0 : drwZ I lc cl D (I 71 5).toInt cei (m + 1) g σ lit ch b = nodeZ I lc cl D (I 71 5).toInt cei (m + 1) g σ lit ch b := if_pos hok
      rw [hd0]
      by_cases hnb : 0 < lg_cmp (r76 (512 * g + (c0 + 8 * c1 + 64 * c2))) (jL (xs σ))
      · -- go on
        have hnode := node_b (X := I) (lc := lc) (cl := cl) (D := D) (aim := (I 71 5).toInt) (cei := cei) (m + 1) g σ lit ch b hok
        have hsum := sumg_v (d := D + g) gG.1 gG.2.1 gG.2.2.2.1 gT gB (by omega) hlzb
        have hgr : jL (xs σ) + sL (fun j => (sp_southOf (nI j)).toInt64 * sp_d_given (nI j) (nI (D + g)) (sp_d_totalOn (nI (D + g)) I L) (sp_d_momentOn (nI (D + g)) (jI (lz (xs σ))) I L) I L) 16 = jL (xs (nxtZ I lc cl (D + g) σ 0)) := by
          rw [hsum, jL_add, nxt_0]
        have hloop : ∀ r j, r + j = 4 → ∀ (b1 : bst) (r74 r75 : Nat → Int32) (r76 : Nat → Int64) (o10 o11 o12 : Option Value), bstB b1 → kpQ R0 N b1 r75 → (∀ i, i < g → r74 i = rgI (ch i)) → mttI I lc cl D N (I 71 5).toInt cei b1 (g + 1) r76 → am_T (6 + m + 1) 95 82 [some (.ref 71), some (.int (nI g)), some (.long (jL (xs σ))), none, some (.int (nI lit)), some (.int (nI (c0 + 8 * c1 + 64 * c2))), some (.int (jI (lz (xs σ)))), some (.long (jL (xs (nxtZ I lc cl (D + g) σ 0)))), none, some (.int (rgI j)), o10, o11, o12] [] (n, sl, wKK kk, sdI I (lstI b1) r74 r75, sdL L r76, wQQ q) (fun rv h' => rv = none ∧ ∃ r74' r75' r76', h' = (n, sl, wKK kk, sdI I (lstI (kidZ I lc cl D cei (nodeZ I lc cl D (I 71 5).toInt cei m (g + 1)) g σ lit ch r j b1)) r74' r75', sdL L r76', wQQ q) ∧ bstB (kidZ I lc cl D cei (nodeZ I lc cl D (I 71 5).toInt cei m (g + 1)) g σ lit ch r j b1) ∧ kpQ R0 N (kidZ I lc cl D cei (nodeZ I lc cl D (I 71 5).toInt cei m (g + 1)) g σ lit ch r j b1) r75' ∧ (∀ i, i < g → r74' i = r74 i) ∧ mttI I lc cl D N (I 71 5).toInt cei (kidZ I lc cl D cei (nodeZ I lc cl D (I 71 5).toInt cei m (g + 1)) g σ lit ch r j b1) (g + 1) r76' ∧ (∀ i, i < 512 * (g + 1) → r76' i = r76 i)) := by
          intro r
          induction r with
          | zero =>
            intro j hj b1 r74 r75 r76 o10 o11 o12 q1 q2 q3 q4
            have hj4 : j = 4 := by omega
            subst hj4
            show am_T _ _ 82 [some (.ref 71), some (.int (nI g)), some (.long (jL (xs σ))), none, some (.int (nI lit)), some (.int (nI (c0 + 8 * c1 + 64 * c2))), some (.int (jI (lz (xs σ)))), some (.long (jL (xs (nxtZ I lc cl (D + g) σ 0)))), none, some (.int 3), o10, o11, o12] _ _ _
            refine tv_b (pc' := 211) (ls' := [some (.ref 71), some (.int (nI g)), some (.long (jL (xs σ))), none, some (.int (nI lit)), some (.int (nI (c0 + 8 * c1 + 64 * c2))), some (.int (jI (lz (xs σ)))), some (.long (jL (xs (nxtZ I lc cl (D + g) σ 0)))), none, some (.int 3), o10, o11, o12]) (st' := []) (h' := (n, sl, wKK kk, (sdI I (lstI b1) r74 r75), (sdL L r76), wQQ q)) 3 rfl ?_
            exact tv_rv rfl ⟨rfl, r74, r75, r76, rfl, q1, q2, fun _ _ => rfl, q4, fun _ _ => rfl⟩
          | succ r ihr =>
            intro j hj b1 r74 r75 r76 o10 o11 o12 q1 q2 q3 q4
            have hj4 : j < 4 := by omega
            have hsg := sg_s (lc := lc) (cl := cl) gT gB (show D + g < 400 by omega) hlc hσ hj4
            obtain ⟨hle2, hxb2⟩ := sg_x (D := D) (g := g + 1) (by omega) (by omega) hsg
            have hlz2 := lz_b (xs (nxtZ I lc cl (D + g) σ j))
            have helf2 : ∀ (d' : Nat) (I' : Nat → Nat → Int32) (L' : Nat → Nat → Int64), am_Ev (d' + 1) 153 0 (am_ent 2 [.long (jL (xs (nxtZ I lc cl (D + g) σ j)))]) [] (n, sl, wKK kk, I', L', wQQ q) (some (.int (jI (lz (xs (nxtZ I lc cl (D + g) σ j))))), (n, sl, wKK kk, I', L', wQQ q)) := fun d' I' L' => by
              have e := ev_leanOf (d := d') (h := (n, sl, wKK kk, I', L', wQQ q)) (s := jL (xs (nxtZ I lc cl (D + g) σ j)))
              rw [hle2] at e
              exact e
            have hcei : 0 < lg_cmp (jI (lz (xs (nxtZ I lc cl (D + g) σ j)))).toInt64 (L 71 6) ↔ cei < lz (xs (nxtZ I lc cl (D + g) σ j)) := by
              rw [jI_64 ⟨by omega, by omega⟩, h6]
              exact gt_i ⟨by omega, by omega⟩ hce
            have hcd := chd_d (X := I) (lc := lc) (cl := cl) (D := D) (aim := (I 71 5).toInt) (cei := cei) (m := m) (g := g) (σ := σ) (lit := lit) (ch := ch) (j := j) (b := b1)
            have hskip : chdZ I lc cl D cei (nodeZ I lc cl D (I 71 5).toInt cei m (g + 1)) g σ lit ch j b1 = b1 → ∀ o10 o11 o12 : Option Value, am_T (6 + m + 1) 95 82 [some (.ref 71), some (.int (nI g)), some (.long (jL (xs σ))), none, some (.int (nI lit)), some (.int (nI (c0 + 8 * c1 + 64 * c2))), some (.int (jI (lz (xs σ)))), some (.long (jL (xs (nxtZ I lc cl (D + g) σ 0)))), none, some (.int (rgI (j + 1))), o10, o11, o12] [] (n, sl, wKK kk, sdI I (lstI b1) r74 r75, sdL L r76, wQQ q) (fun rv h' => rv = none ∧ ∃ r74' r75' r76', h' = (n, sl, wKK kk, sdI I (lstI (kidZ I lc cl D cei (nodeZ I lc cl D (I 71 5).toInt cei m (g + 1)) g σ lit ch (r + 1) j b1)) r74' r75', sdL L r76', wQQ q) ∧ bstB (kidZ I lc cl D cei (nodeZ I lc cl D (I 71 5).toInt cei m (g + 1)) g σ lit ch (r + 1) j b1) ∧ kpQ R0 N (kidZ I lc cl D cei (nodeZ I lc cl D (I 71 5).toInt cei m (g + 1)) g σ lit ch (r + 1) j b1) r75' ∧ (∀ i, i < g → r74' i = r74 i) ∧ mttI I lc cl D N (I 71 5).toInt cei (kidZ I lc cl D cei (nodeZ I lc cl D (I 71 5).toInt cei m (g + 1)) g σ lit ch (r + 1) j b1) (g + 1) r76' ∧ (∀ i, i < 512 * (g + 1) → r76' i = r76 i)) := fun he o10 o11 o12 => by
              have hk : kidZ I lc cl D cei (nodeZ I lc cl D (I 71 5).toInt cei m (g + 1)) g σ lit ch (r + 1) j b1 = kidZ I lc cl D cei (nodeZ I lc cl D (I 71 5).toInt cei m (g + 1)) g σ lit ch r (j + 1) b1 := by
                show kidZ I lc cl D cei (nodeZ I lc cl D (I 71 5).toInt cei m (g + 1)) g σ lit ch r (j + 1) (chdZ I lc cl D cei (nodeZ I lc cl D (I 71 5).toInt cei m (g + 1)) g σ lit ch j b1) = _
                rw [he]
              rw [hk]
              exact ihr (j + 1) (by omega) b1 r74 r75 r76 o10 o11 o12 q1 q2 q3 q4
            have hgo : ∀ (t0 t1 t2 : Nat) (r74a : Nat → Int32), t0 + t1 + t2 ≤ g + 1 → lit + muN lc j = t0 * lc 0 + t1 * lc 1 + t2 * lc 2 → ¬ (j ≠ 0 ∧ lc (j - 1) = 0) → ¬ cei < lz (xs (nxtZ I lc cl (D + g) σ j)) → r74a = upd r74 g (rgI j) → am_T (6 + m) 95 0 (am_ent 13 [.ref 71, .int (nI (g + 1)), .long (jL (xs (nxtZ I lc cl (D + g) σ j))), .int (nI (lit + muN lc j)), .int (nI (t0 + 8 * t1 + 64 * t2))]) [] (n, sl, wKK kk, sdI I (lstI b1) r74a r75, sdL L r76, wQQ q) (drPost R0 n sl kk q I L lc cl D N (I 71 5).toInt cei (g + 1) (chdZ I lc cl D cei (nodeZ I lc cl D (I 71 5).toInt cei m (g + 1)) g σ lit ch j b1) r74a r76) := fun t0 t1 t2 r74a e1 e2 e3 e4 e5 => by
              rw [hcd, if_neg e3, if_neg e4]
              refine ih (g + 1) (by omega) _ _ t0 t1 t2 (updN ch g j) b1 r74a r75 r76 hsg e1 e2 q1 q2 (fun i hi => ?_) q4
              rw [e5]
              by_cases z : i = g
              · subst z; rw [upd_e]; exact (congrArg rgI (if_pos rfl)).symm
              · rw [upd_n z, q3 i (by omega)]; exact (congrArg rgI (if_neg z)).symm
            have hnx : ∀ (r74a : Nat → Int32) (o10 o11 o12 : Option Value) (h9 : am_H) (rv9 : Option Value), r74a = upd r74 g (rgI j) → drPost R0 n sl kk q I L lc cl D N (I 71 5).toInt cei (g + 1) (chdZ I lc cl D cei (nodeZ I lc cl D (I 71 5).toInt cei m (g + 1)) g σ lit ch j b1) r74a r76 rv9 h9 → am_T (6 + m + 1) 95 82 [some (.ref 71), some (.int (nI g)), some (.long (jL (xs σ))), none, some (.int (nI lit)), some (.int (nI (c0 + 8 * c1 + 64 * c2))), some (.int (jI (lz (xs σ)))), some (.long (jL (xs (nxtZ I lc cl (D + g) σ 0)))), none, some (.int (rgI (j + 1))), o10, o11, o12] [] h9 (fun rv h' => rv = none ∧ ∃ r74' r75' r76', h' = (n, sl, wKK kk, sdI I (lstI (kidZ I lc cl D cei (nodeZ I lc cl D (I 71 5).toInt cei m (g + 1)) g σ lit ch (r + 1) j b1)) r74' r75', sdL L r76', wQQ q) ∧ bstB (kidZ I lc cl D cei (nodeZ I lc cl D (I 71 5).toInt cei m (g + 1)) g σ lit ch (r + 1) j b1) ∧ kpQ R0 N (kidZ I lc cl D cei (nodeZ I lc cl D (I 71 5).toInt cei m (g + 1)) g σ lit ch (r + 1) j b1) r75' ∧ (∀ i, i < g → r74' i = r74 i) ∧ mttI I lc cl D N (I 71 5).toInt cei (kidZ I lc cl D cei (nodeZ I lc cl D (I 71 5).toInt cei m (g + 1)) g σ lit ch (r + 1) j b1) (g + 1) r76' ∧ (∀ i, i < 512 * (g + 1) → r76' i = r76 i)) := fun r74a o10 o11 o12 h9 rv9 e5 hp => by
              obtain ⟨rfl, s74, s75, s76, rfl, p1, p2, p3, p4, p5⟩ := hp
              have hq := ihr (j + 1) (by omega) (chdZ I lc cl D cei (nodeZ I lc cl D (I 71 5).toInt cei m (g + 1)) g σ lit ch j b1) s74 s75 s76 o10 o11 o12 p1 p2 (fun i hi => by rw [p3 i (by omega), e5, upd_n (by omega)]; exact q3 i hi) p4
              refine tv_w hq (fun rv h' ho => ?_)
              obtain ⟨rfl, u74, u75, u76, rfl, w1, w2, w3, w4, w5⟩ := ho
              exact ⟨rfl, u74, u75, u76, rfl, w1, w2, fun i hi => by rw [w3 i hi, p3 i (by omega), e5, upd_n (by omega)], w4, fun i hi => by rw [w5 i hi, p5 i hi]⟩
            cases j with
            | zero =>
              show am_T _ _ 82 [some (.ref 71), some (.int (nI g)), some (.long (jL (xs σ))), none, some (.int (nI lit)), some (.int (nI (c0 + 8 * c1 + 64 * c2))), some (.int (jI (lz (xs σ)))), some (.long (jL (xs (nxtZ I lc cl (D + g) σ 0)))), none, some (.int (-1)), o10, o11, o12] _ _ _
              refine tv_b (pc' := 138) (ls' := [some (.ref 71), some (.int (nI g)), some (.long (jL (xs σ))), none, some (.int (nI lit)), some (.int (nI (c0 + 8 * c1 + 64 * c2))), some (.int (jI (lz (xs σ)))), some (.long (jL (xs (nxtZ I lc cl (D + g) σ 0)))), none, some (.int (-1)), some (.int 0), o11, o12]) (st' := [.long (jL (xs (nxtZ I lc cl (D + g) σ 0)))]) (h' := (n, sl, wKK kk, (sdI I (lstI b1) r74 r75), (sdL L r76), wQQ q)) 12 rfl ?_
              refine tv_b (pc' := 152) (ls' := [some (.ref 71), some (.int (nI g)), some (.long (jL (xs σ))), none, some (.int (nI lit)), some (.int (nI (c0 + 8 * c1 + 64 * c2))), some (.int (jI (lz (xs σ)))), some (.long (jL (xs (nxtZ I lc cl (D + g) σ 0)))), none, some (.int (-1)), some (.int 0), some (.long (jL (xs (nxtZ I lc cl (D + g) σ 0)))), none]) (st' := [.long (jL (xs (nxtZ I lc cl (D + g) σ 0)))]) (h' := (n, sl, wKK kk, (sdI I (lstI b1) r74 r75), (sdL L r76), wQQ q)) 4 rfl ?_
              refine tv_csE [.long (jL (xs (nxtZ I lc cl (D + g) σ 0)))] [] rfl rfl (by omega) rfl (Nat.le_of_ble_eq_true rfl) (Nat.le_of_ble_eq_true rfl) (ev_up (d := 1) (e := 6 + m) (by omega) (helf2 0 _ _)) ?_
              refine tv_b (pc' := (if 0 < (lg_cmp ((jI (lz (xs (nxtZ I lc cl (D + g) σ 0)))).toInt64) (L 71 6)) then 205 else 164)) (ls' := [some (.ref 71), some (.int (nI g)), some (.long (jL (xs σ))), none, some (.int (nI lit)), some (.int (nI (c0 + 8 * c1 + 64 * c2))), some (.int (jI (lz (xs σ)))), some (.long (jL (xs (nxtZ I lc cl (D + g) σ 0)))), none, some (.int (-1)), some (.int 0), some (.long (jL (xs (nxtZ I lc cl (D + g) σ 0)))), none]) (st' := []) (h' := (n, sl, wKK kk, (sdI I (lstI b1) r74 r75), (sdL L r76), wQQ q)) 5 rfl ?_
              refine tv_if (fun c161 => ?_) (fun c161 => ?_)
              · refine tv_b (pc' := 82) (ls' := [some (.ref 71), some (.int (nI g)), some (.long (jL (xs σ))), none, some (.int (nI lit)), some (.int (nI (c0 + 8 * c1 + 64 * c2))), some (.int (jI (lz (xs σ)))), some (.long (jL (xs (nxtZ I lc cl (D + g) σ 0)))), none, some (.int 0), some (.int 0), some (.long (jL (xs (nxtZ I lc cl (D + g) σ 0)))), none]) (st' := []) (h' := (n, sl, wKK kk, (sdI I (lstI b1) r74 r75), (sdL L r76), wQQ q)) 2 rfl ?_
                exact hskip (by rw [hcd, if_neg (fun z => z.1 rfl), if_pos (hcei.mp c161)]) _ _ _
              · refine tv_b (pc' := 171) (ls' := [some (.ref 71), some (.int (nI g)), some (.long (jL (xs σ))), none, some (.int (nI lit)), some (.int (nI (c0 + 8 * c1 + 64 * c2))), some (.int (jI (lz (xs σ)))), some (.long (jL (xs (nxtZ I lc cl (D + g) σ 0)))), none, some (.int (-1)), some (.int 0), some (.long (jL (xs (nxtZ I lc cl (D + g) σ 0)))), none]) (st' := [.int (-1), .int (nI g), .ref 74]) (h' := (n, sl, wKK kk, (sdI I (lstI b1) r74 r75), (sdL L r76), wQQ q)) 4 rfl ?_
                refine tv_iasN (k := g) rfl (rfl) (⟨by omega, by omega⟩) ?_
                refine tv_hI sdI_w_r74 ?_
                refine tv_b (pc' := 175) (ls' := [some (.ref 71), some (.int (nI g)), some (.long (jL (xs σ))), none, some (.int (nI lit)), some (.int (nI (c0 + 8 * c1 + 64 * c2))), some (.int (jI (lz (xs σ)))), some (.long (jL (xs (nxtZ I lc cl (D + g) σ 0)))), none, some (.int (-1)), some (.int 0), some (.long (jL (xs (nxtZ I lc cl (D + g) σ 0)))), none]) (st' := [.int 1, .int (nI g), .ref 71]) (h' := (n, sl, wKK kk, (sdI I (lstI b1) (upd r74 g (-1)) r75), (sdL L r76), wQQ q)) 3 rfl ?_
                refine tv_b (pc' := 176) (ls' := [some (.ref 71), some (.int (nI g)), some (.long (jL (xs σ))), none, some (.int (nI lit)), some (.int (nI (c0 + 8 * c1 + 64 * c2))), some (.int (jI (lz (xs σ)))), some (.long (jL (xs (nxtZ I lc cl (D + g) σ 0)))), none, some (.int (-1)), some (.int 0), some (.long (jL (xs (nxtZ I lc cl (D + g) σ 0)))), none]) (st' := [.int ((nI g) + 1), .ref 71]) (h' := (n, sl, wKK kk, (sdI I (lstI b1) (upd r74 g (-1)) r75), (sdL L r76), wQQ q)) 1 rfl ?_
                refine tv_top (show (nI g) + 1 = nI (g + 1) from nI_add g 1) ?_
                refine tv_b (pc' := 182) (ls' := [some (.ref 71), some (.int (nI g)), some (.long (jL (xs σ))), none, some (.int (nI lit)), some (.int (nI (c0 + 8 * c1 + 64 * c2))), some (.int (jI (lz (xs σ)))), some (.long (jL (xs (nxtZ I lc cl (D + g) σ 0)))), none, some (.int (-1)), some (.int 0), some (.long (jL (xs (nxtZ I lc cl (D + g) σ 0)))), none]) (st' := [.int 0, .int (nI lit), .long (jL (xs (nxtZ I lc cl (D + g) σ 0))), .int (nI (g + 1)), .ref 71]) (h' := (n, sl, wKK kk, (sdI I (lstI b1) (upd r74 g (-1)) r75), (sdL L r76), wQQ q)) 3 rfl ?_
                refine tv_b (pc' := 183) (ls' := [some (.ref 71), some (.int (nI g)), some (.long (jL (xs σ))), none, some (.int (nI lit)), some (.int (nI (c0 + 8 * c1 + 64 * c2))), some (.int (jI (lz (xs σ)))), some (.long (jL (xs (nxtZ I lc cl (D + g) σ 0)))), none, some (.int (-1)), some (.int 0), some (.long (jL (xs (nxtZ I lc cl (D + g) σ 0)))), none]) (st' := [.int ((nI lit) + 0), .long (jL (xs (nxtZ I lc cl (D + g) σ 0))), .int (nI (g + 1)), .ref 71]) (h' := (n, sl, wKK kk, (sdI I (lstI b1) (upd r74 g (-1)) r75), (sdL L r76), wQQ q)) 1 rfl ?_
                refine tv_top (show (nI lit) + 0 = nI (lit + 0) from nI_add lit 0) ?_
                refine tv_b (pc' := 202) (ls' := [some (.ref 71), some (.int (nI g)), some (.long (jL (xs σ))), none, some (.int (nI lit)), some (.int (nI (c0 + 8 * c1 + 64 * c2))), some (.int (jI (lz (xs σ)))), some (.long (jL (xs (nxtZ I lc cl (D + g) σ 0)))), none, some (.int (-1)), some (.int 0), some (.long (jL (xs (nxtZ I lc cl (D + g) σ 0)))), none]) (st' := [.int (nI (c0 + 8 * c1 + 64 * c2)), .int (nI (lit + 0)), .long (jL (xs (nxtZ I lc cl (D + g) σ 0))), .int (nI (g + 1)), .ref 71]) (h' := (n, sl, wKK kk, (sdI I (lstI b1) (upd r74 g (-1)) r75), (sdL L r76), wQQ q)) 4 rfl ?_
                refine tv_cv [.int (nI (g + 1)), .long (jL (xs (nxtZ I lc cl (D + g) σ 0))), .int (nI (lit + muN lc 0)), .int (nI (c0 + 8 * c1 + 64 * c2))] [] rfl rfl (by omega) rfl (Nat.le_of_ble_eq_true rfl) (Nat.le_of_ble_eq_true rfl) (Or.inr (Or.inr rfl)) (hgo c0 c1 c2 (upd r74 g (rgI 0)) (by omega) (by show lit + 0 = _; omega) (fun z => z.1 rfl) (fun z => c161 (hcei.mpr z)) rfl) ?_
                intro rv9 h9 hp9
                have hrv : rv9 = none := hp9.1
                subst hrv
                refine tv_b (pc' := 82) (ls' := [some (.ref 71), some (.int (nI g)), some (.long (jL (xs σ))), none, some (.int (nI lit)), some (.int (nI (c0 + 8 * c1 + 64 * c2))), some (.int (jI (lz (xs σ)))), some (.long (jL (xs (nxtZ I lc cl (D + g) σ 0)))), none, some (.int 0), some (.int 0), some (.long (jL (xs (nxtZ I lc cl (D + g) σ 0)))), none]) (st' := []) (h' := h9) 2 rfl ?_
                exact hnx _ _ _ _ _ _ rfl hp9
            | succ p =>
              have hp3 : p < 3 := by omega
              have hlp := hlc p hp3
              have hthen : jL (xs (nxtZ I lc cl (D + g) σ 0)) + 50 * (nI (lc p)).toInt64 * (sp_southOf (nI (cl p))).toInt64 = jL (xs (nxtZ I lc cl (D + g) σ (p + 1))) := by
                rw [nxt_p (h72 p hp3).2, so_j _ (h72 p hp3).2, nI_j, jI_64 ⟨by omega, by omega⟩, show (50 : Int64) = jL 50 from rfl, jL_mul, jL_mul, jL_add]
              have hcnt : ∃ t0 t1 t2 : Nat, t0 + t1 + t2 ≤ g + 1 ∧ lit + muN lc (p + 1) = t0 * lc 0 + t1 * lc 1 + t2 * lc 2 ∧ nI (c0 + 8 * c1 + 64 * c2) + (1 <<< ((nI (3 * p)) &&& 31)) = nI (t0 + 8 * t1 + 64 * t2) := by
                have hm : muN lc (p + 1) = lc p := by unfold muN; rw [if_neg (by omega), Nat.add_sub_cancel]
                rw [hm]
                have hp : p = 0 ∨ p = 1 ∨ p = 2 := by omega
                rcases hp with rfl | rfl | rfl
                · exact ⟨c0 + 1, c1, c2, by omega, by rw [Nat.add_mul]; omega, by rw [show (1 <<< ((nI (3 * 0)) &&& 31) : Int32) = nI 1 by decide, nI_add, show c0 + 8 * c1 + 64 * c2 + 1 = c0 + 1 + 8 * c1 + 64 * c2 by omega]⟩
                · exact ⟨c0, c1 + 1, c2, by omega, by rw [Nat.add_mul]; omega, by rw [show (1 <<< ((nI (3 * 1)) &&& 31) : Int32) = nI 8 by decide, nI_add, show c0 + 8 * c1 + 64 * c2 + 8 = c0 + 8 * (c1 + 1) + 64 * c2 by omega]⟩
                · exact ⟨c0, c1, c2 + 1, by omega, by rw [Nat.add_mul]; omega, by rw [show (1 <<< ((nI (3 * 2)) &&& 31) : Int32) = nI 64 by decide, nI_add, show c0 + 8 * c1 + 64 * c2 + 64 = c0 + 8 * c1 + 64 * (c2 + 1) by omega]⟩
              show am_T _ _ 82 [some (.ref 71), some (.int (nI g)), some (.long (jL (xs σ))), none, some (.int (nI lit)), some (.int (nI (c0 + 8 * c1 + 64 * c2))), some (.int (jI (lz (xs σ)))), some (.long (jL (xs (nxtZ I lc cl (D + g) σ 0)))), none, some (.int (nI p)), o10, o11, o12] _ _ _
              refine tv_b (pc' := (if 3 ≤ (nI p) then 211 else 88)) (ls' := [some (.ref 71), some (.int (nI g)), some (.long (jL (xs σ))), none, some (.int (nI lit)), some (.int (nI (c0 + 8 * c1 + 64 * c2))), some (.int (jI (lz (xs σ)))), some (.long (jL (xs (nxtZ I lc cl (D + g) σ 0)))), none, some (.int (nI p)), o10, o11, o12]) (st' := []) (h' := (n, sl, wKK kk, (sdI I (lstI b1) r74 r75), (sdL L r76), wQQ q)) 3 rfl ?_
              refine tv_f (fun hq => absurd ((nI_leI (a := 3) (b := p) (by omega) (by omega)).mp hq) (by omega)) ?_
              refine tv_b (pc' := (if 0 ≤ (nI p) then 97 else 93)) (ls' := [some (.ref 71), some (.int (nI g)), some (.long (jL (xs σ))), none, some (.int (nI lit)), some (.int (nI (c0 + 8 * c1 + 64 * c2))), some (.int (jI (lz (xs σ)))), some (.long (jL (xs (nxtZ I lc cl (D + g) σ 0)))), none, some (.int (nI p)), o10, o11, o12]) (st' := []) (h' := (n, sl, wKK kk, (sdI I (lstI b1) r74 r75), (sdL L r76), wQQ q)) 2 rfl ?_
              refine tv_t ((nI_leI (a := 0) (b := p) (by omega) (by omega)).mpr (by omega)) ?_
              refine tv_b (pc' := 103) (ls' := [some (.ref 71), some (.int (nI g)), some (.long (jL (xs σ))), none, some (.int (nI lit)), some (.int (nI (c0 + 8 * c1 + 64 * c2))), some (.int (jI (lz (xs σ)))), some (.long (jL (xs (nxtZ I lc cl (D + g) σ 0)))), none, some (.int (nI p)), o10, o11, o12]) (st' := [.int (nI p), .ref 73]) (h' := (n, sl, wKK kk, (sdI I (lstI b1) r74 r75), (sdL L r76), wQQ q)) 3 rfl ?_
              refine tv_ialN (k := p) rfl (rfl) (⟨by omega, by omega⟩) ?_
              refine tv_top (h73 p (by omega)) ?_
              refine tv_b (pc' := (if 0 ≤ (nI p) then 116 else 111)) (ls' := [some (.ref 71), some (.int (nI g)), some (.long (jL (xs σ))), none, some (.int (nI lit)), some (.int (nI (c0 + 8 * c1 + 64 * c2))), some (.int (jI (lz (xs σ)))), some (.long (jL (xs (nxtZ I lc cl (D + g) σ 0)))), none, some (.int (nI p)), some (.int (nI (lc p))), o11, o12]) (st' := []) (h' := (n, sl, wKK kk, (sdI I (lstI b1) r74 r75), (sdL L r76), wQQ q)) 3 rfl ?_
              refine tv_t ((nI_leI (a := 0) (b := p) (by omega) (by omega)).mpr (by omega)) ?_
              refine tv_b (pc' := 131) (ls' := [some (.ref 71), some (.int (nI g)), some (.long (jL (xs σ))), none, some (.int (nI lit)), some (.int (nI (c0 + 8 * c1 + 64 * c2))), some (.int (jI (lz (xs σ)))), some (.long (jL (xs (nxtZ I lc cl (D + g) σ 0)))), none, some (.int (nI p)), some (.int (nI (lc p))), o11, o12]) (st' := [.int (nI p), .ref 72, .long (50 * ((nI (lc p)).toInt64)), .long (jL (xs (nxtZ I lc cl (D + g) σ 0)))]) (h' := (n, sl, wKK kk, (sdI I (lstI b1) r74 r75), (sdL L r76), wQQ q)) 8 rfl ?_
              refine tv_ialN (k := p) rfl (rfl) (⟨by omega, by omega⟩) ?_
              refine tv_top ((h72 p (by omega)).1) ?_
              refine tv_csE [.int (nI (cl p))] [.long (50 * ((nI (lc p)).toInt64)), .long (jL (xs (nxtZ I lc cl (D + g) σ 0)))] rfl rfl (by omega) rfl (Nat.le_of_ble_eq_true rfl) (Nat.le_of_ble_eq_true rfl) (ev_southOf) ?_
              refine tv_b (pc' := 138) (ls' := [some (.ref 71), some (.int (nI g)), some (.long (jL (xs σ))), none, some (.int (nI lit)), some (.int (nI (c0 + 8 * c1 + 64 * c2))), some (.int (jI (lz (xs σ)))), some (.long (jL (xs (nxtZ I lc cl (D + g) σ 0)))), none, some (.int (nI p)), some (.int (nI (lc p))), o11, o12]) (st' := [.long ((jL (xs (nxtZ I lc cl (D + g) σ 0))) + ((50 * ((nI (lc p)).toInt64)) * ((sp_southOf (nI (cl p))).toInt64)))]) (h' := (n, sl, wKK kk, (sdI I (lstI b1) r74 r75), (sdL L r76), wQQ q)) 3 rfl ?_
              rw [hthen]
              refine tv_b (pc' := (if (nI p) < 0 then 150 else 145)) (ls' := [some (.ref 71), some (.int (nI g)), some (.long (jL (xs σ))), none, some (.int (nI lit)), some (.int (nI (c0 + 8 * c1 + 64 * c2))), some (.int (jI (lz (xs σ)))), some (.long (jL (xs (nxtZ I lc cl (D + g) σ 0)))), none, some (.int (nI p)), some (.int (nI (lc p))), some (.long (jL (xs (nxtZ I lc cl (D + g) σ (p + 1))))), none]) (st' := []) (h' := (n, sl, wKK kk, (sdI I (lstI b1) r74 r75), (sdL L r76), wQQ q)) 3 rfl ?_
              refine tv_f (fun hq => absurd ((nI_ltI (a := p) (b := 0) (by omega) (by omega)).mp hq) (by omega)) ?_
              refine tv_b (pc' := (if (nI (lc p)) ≤ 0 then 205 else 150)) (ls' := [some (.ref 71), some (.int (nI g)), some (.long (jL (xs σ))), none, some (.int (nI lit)), some (.int (nI (c0 + 8 * c1 + 64 * c2))), some (.int (jI (lz (xs σ)))), some (.long (jL (xs (nxtZ I lc cl (D + g) σ 0)))), none, some (.int (nI p)), some (.int (nI (lc p))), some (.long (jL (xs (nxtZ I lc cl (D + g) σ (p + 1))))), none]) (st' := []) (h' := (n, sl, wKK kk, (sdI I (lstI b1) r74 r75), (sdL L r76), wQQ q)) 2 rfl ?_
              refine tv_ifq (nI_leI (a := (lc p)) (b := 0) (by omega) (by omega)) (fun c147 => ?_) (fun c147 => ?_)
              · refine tv_iincN (k := p) (ls' := [some (.ref 71), some (.int (nI g)), some (.long (jL (xs σ))), none, some (.int (nI lit)), some (.int (nI (c0 + 8 * c1 + 64 * c2))), some (.int (jI (lz (xs σ)))), some (.long (jL (xs (nxtZ I lc cl (D + g) σ 0)))), none, some (.int (nI (p + 1))), some (.int (nI (lc p))), some (.long (jL (xs (nxtZ I lc cl (D + g) σ (p + 1))))), none]) rfl rfl rfl ?_
                refine tv_b (pc' := 82) (ls' := [some (.ref 71), some (.int (nI g)), some (.long (jL (xs σ))), none, some (.int (nI lit)), some (.int (nI (c0 + 8 * c1 + 64 * c2))), some (.int (jI (lz (xs σ)))), some (.long (jL (xs (nxtZ I lc cl (D + g) σ 0)))), none, some (.int (nI (p + 1))), some (.int (nI (lc p))), some (.long (jL (xs (nxtZ I lc cl (D + g) σ (p + 1))))), none]) (st' := []) (h' := (n, sl, wKK kk, (sdI I (lstI b1) r74 r75), (sdL L r76), wQQ q)) 1 rfl ?_
                exact hskip (by rw [hcd, if_pos ⟨by omega, by rw [Nat.add_sub_cancel]; omega⟩]) _ _ _
              · refine tv_b (pc' := 152) (ls' := [some (.ref 71), some (.int (nI g)), some (.long (jL (xs σ))), none, some (.int (nI lit)), some (.int (nI (c0 + 8 * c1 + 64 * c2))), some (.int (jI (lz (xs σ)))), some (.long (jL (xs (nxtZ I lc cl (D + g) σ 0)))), none, some (.int (nI p)), some (.int (nI (lc p))), some (.long (jL (xs (nxtZ I lc cl (D + g) σ (p + 1))))), none]) (st' := [.long (jL (xs (nxtZ I lc cl (D + g) σ (p + 1))))]) (h' := (n, sl, wKK kk, (sdI I (lstI b1) r74 r75), (sdL L r76), wQQ q)) 1 rfl ?_
                refine tv_csE [.long (jL (xs (nxtZ I lc cl (D + g) σ (p + 1))))] [] rfl rfl (by omega) rfl (Nat.le_of_ble_eq_true rfl) (Nat.le_of_ble_eq_true rfl) (ev_up (d := 1) (e := 6 + m) (by omega) (helf2 0 _ _)) ?_
                refine tv_b (pc' := (if 0 < (lg_cmp ((jI (lz (xs (nxtZ I lc cl (D + g) σ (p + 1))))).toInt64) (L 71 6)) then 205 else 164)) (ls' := [some (.ref 71), some (.int (nI g)), some (.long (jL (xs σ))), none, some (.int (nI lit)), some (.int (nI (c0 + 8 * c1 + 64 * c2))), some (.int (jI (lz (xs σ)))), some (.long (jL (xs (nxtZ I lc cl (D + g) σ 0)))), none, some (.int (nI p)), some (.int (nI (lc p))), some (.long (jL (xs (nxtZ I lc cl (D + g) σ (p + 1))))), none]) (st' := []) (h' := (n, sl, wKK kk, (sdI I (lstI b1) r74 r75), (sdL L r76), wQQ q)) 5 rfl ?_
                refine tv_if (fun c161 => ?_) (fun c161 => ?_)
                · refine tv_iincN (k := p) (ls' := [some (.ref 71), some (.int (nI g)), some (.long (jL (xs σ))), none, some (.int (nI lit)), some (.int (nI (c0 + 8 * c1 + 64 * c2))), some (.int (jI (lz (xs σ)))), some (.long (jL (xs (nxtZ I lc cl (D + g) σ 0)))), none, some (.int (nI (p + 1))), some (.int (nI (lc p))), some (.long (jL (xs (nxtZ I lc cl (D + g) σ (p + 1))))), none]) rfl rfl rfl ?_
                  refine tv_b (pc' := 82) (ls' := [some (.ref 71), some (.int (nI g)), some (.long (jL (xs σ))), none, some (.int (nI lit)), some (.int (nI (c0 + 8 * c1 + 64 * c2))), some (.int (jI (lz (xs σ)))), some (.long (jL (xs (nxtZ I lc cl (D + g) σ 0)))), none, some (.int (nI (p + 1))), some (.int (nI (lc p))), some (.long (jL (xs (nxtZ I lc cl (D + g) σ (p + 1))))), none]) (st' := []) (h' := (n, sl, wKK kk, (sdI I (lstI b1) r74 r75), (sdL L r76), wQQ q)) 1 rfl ?_
                  exact hskip (by rw [hcd, if_neg (fun z => by have := z.2; rw [Nat.add_sub_cancel] at this; omega), if_pos (hcei.mp c161)]) _ _ _
                · refine tv_b (pc' := 171) (ls' := [some (.ref 71), some (.int (nI g)), some (.long (jL (xs σ))), none, some (.int (nI lit)), some (.int (nI (c0 + 8 * c1 + 64 * c2))), some (.int (jI (lz (xs σ)))), some (.long (jL (xs (nxtZ I lc cl (D + g) σ 0)))), none, some (.int (nI p)), some (.int (nI (lc p))), some (.long (jL (xs (nxtZ I lc cl (D + g) σ (p + 1))))), none]) (st' := [.int (nI p), .int (nI g), .ref 74]) (h' := (n, sl, wKK kk, (sdI I (lstI b1) r74 r75), (sdL L r76), wQQ q)) 4 rfl ?_
                  refine tv_iasN (k := g) rfl (rfl) (⟨by omega, by omega⟩) ?_
                  refine tv_hI sdI_w_r74 ?_
                  refine tv_b (pc' := 175) (ls' := [some (.ref 71), some (.int (nI g)), some (.long (jL (xs σ))), none, some (.int (nI lit)), some (.int (nI (c0 + 8 * c1 + 64 * c2))), some (.int (jI (lz (xs σ)))), some (.long (jL (xs (nxtZ I lc cl (D + g) σ 0)))), none, some (.int (nI p)), some (.int (nI (lc p))), some (.long (jL (xs (nxtZ I lc cl (D + g) σ (p + 1))))), none]) (st' := [.int 1, .int (nI g), .ref 71]) (h' := (n, sl, wKK kk, (sdI I (lstI b1) (upd r74 g (nI p)) r75), (sdL L r76), wQQ q)) 3 rfl ?_
                  refine tv_b (pc' := 176) (ls' := [some (.ref 71), some (.int (nI g)), some (.long (jL (xs σ))), none, some (.int (nI lit)), some (.int (nI (c0 + 8 * c1 + 64 * c2))), some (.int (jI (lz (xs σ)))), some (.long (jL (xs (nxtZ I lc cl (D + g) σ 0)))), none, some (.int (nI p)), some (.int (nI (lc p))), some (.long (jL (xs (nxtZ I lc cl (D + g) σ (p + 1))))), none]) (st' := [.int ((nI g) + 1), .ref 71]) (h' := (n, sl, wKK kk, (sdI I (lstI b1) (upd r74 g (nI p)) r75), (sdL L r76), wQQ q)) 1 rfl ?_
                  refine tv_top (show (nI g) + 1 = nI (g + 1) from nI_add g 1) ?_
                  refine tv_b (pc' := 182) (ls' := [some (.ref 71), some (.int (nI g)), some (.long (jL (xs σ))), none, some (.int (nI lit)), some (.int (nI (c0 + 8 * c1 + 64 * c2))), some (.int (jI (lz (xs σ)))), some (.long (jL (xs (nxtZ I lc cl (D + g) σ 0)))), none, some (.int (nI p)), some (.int (nI (lc p))), some (.long (jL (xs (nxtZ I lc cl (D + g) σ (p + 1))))), none]) (st' := [.int (nI (lc p)), .int (nI lit), .long (jL (xs (nxtZ I lc cl (D + g) σ (p + 1)))), .int (nI (g + 1)), .ref 71]) (h' := (n, sl, wKK kk, (sdI I (lstI b1) (upd r74 g (nI p)) r75), (sdL L r76), wQQ q)) 3 rfl ?_
                  refine tv_b (pc' := 183) (ls' := [some (.ref 71), some (.int (nI g)), some (.long (jL (xs σ))), none, some (.int (nI lit)), some (.int (nI (c0 + 8 * c1 + 64 * c2))), some (.int (jI (lz (xs σ)))), some (.long (jL (xs (nxtZ I lc cl (D + g) σ 0)))), none, some (.int (nI p)), some (.int (nI (lc p))), some (.long (jL (xs (nxtZ I lc cl (D + g) σ (p + 1))))), none]) (st' := [.int ((nI lit) + (nI (lc p))), .long (jL (xs (nxtZ I lc cl (D + g) σ (p + 1)))), .int (nI (g + 1)), .ref 71]) (h' := (n, sl, wKK kk, (sdI I (lstI b1) (upd r74 g (nI p)) r75), (sdL L r76), wQQ q)) 1 rfl ?_
                  refine tv_top (show (nI lit) + (nI (lc p)) = nI (lit + (lc p)) from nI_add lit (lc p)) ?_
                  refine tv_b (pc' := (if 0 ≤ (nI p) then 193 else 188)) (ls' := [some (.ref 71), some (.int (nI g)), some (.long (jL (xs σ))), none, some (.int (nI lit)), some (.int (nI (c0 + 8 * c1 + 64 * c2))), some (.int (jI (lz (xs σ)))), some (.long (jL (xs (nxtZ I lc cl (D + g) σ 0)))), none, some (.int (nI p)), some (.int (nI (lc p))), some (.long (jL (xs (nxtZ I lc cl (D + g) σ (p + 1))))), none]) (st' := [.int (nI (lit + (lc p))), .long (jL (xs (nxtZ I lc cl (D + g) σ (p + 1)))), .int (nI (g + 1)), .ref 71]) (h' := (n, sl, wKK kk, (sdI I (lstI b1) (upd r74 g (nI p)) r75), (sdL L r76), wQQ q)) 2 rfl ?_
                  refine tv_t ((nI_leI (a := 0) (b := p) (by omega) (by omega)).mpr (by omega)) ?_
                  refine tv_b (pc' := 199) (ls' := [some (.ref 71), some (.int (nI g)), some (.long (jL (xs σ))), none, some (.int (nI lit)), some (.int (nI (c0 + 8 * c1 + 64 * c2))), some (.int (jI (lz (xs σ)))), some (.long (jL (xs (nxtZ I lc cl (D + g) σ 0)))), none, some (.int (nI p)), some (.int (nI (lc p))), some (.long (jL (xs (nxtZ I lc cl (D + g) σ (p + 1))))), none]) (st' := [.int (nI p), .int 3, .int 1, .int (nI (c0 + 8 * c1 + 64 * c2)), .int (nI (lit + (lc p))), .long (jL (xs (nxtZ I lc cl (D + g) σ (p + 1)))), .int (nI (g + 1)), .ref 71]) (h' := (n, sl, wKK kk, (sdI I (lstI b1) (upd r74 g (nI p)) r75), (sdL L r76), wQQ q)) 4 rfl ?_
                  refine tv_b (pc' := 200) (ls' := [some (.ref 71), some (.int (nI g)), some (.long (jL (xs σ))), none, some (.int (nI lit)), some (.int (nI (c0 + 8 * c1 + 64 * c2))), some (.int (jI (lz (xs σ)))), some (.long (jL (xs (nxtZ I lc cl (D + g) σ 0)))), none, some (.int (nI p)), some (.int (nI (lc p))), some (.long (jL (xs (nxtZ I lc cl (D + g) σ (p + 1))))), none]) (st' := [.int (3 * (nI p)), .int 1, .int (nI (c0 + 8 * c1 + 64 * c2)), .int (nI (lit + (lc p))), .long (jL (xs (nxtZ I lc cl (D + g) σ (p + 1)))), .int (nI (g + 1)), .ref 71]) (h' := (n, sl, wKK kk, (sdI I (lstI b1) (upd r74 g (nI p)) r75), (sdL L r76), wQQ q)) 1 rfl ?_
                  refine tv_top (show 3 * (nI p) = nI (3 * p) from nI_mul 3 p) ?_
                  refine tv_b (pc' := 202) (ls' := [some (.ref 71), some (.int (nI g)), some (.long (jL (xs σ))), none, some (.int (nI lit)), some (.int (nI (c0 + 8 * c1 + 64 * c2))), some (.int (jI (lz (xs σ)))), some (.long (jL (xs (nxtZ I lc cl (D + g) σ 0)))), none, some (.int (nI p)), some (.int (nI (lc p))), some (.long (jL (xs (nxtZ I lc cl (D + g) σ (p + 1))))), none]) (st' := [.int ((nI (c0 + 8 * c1 + 64 * c2)) + (1 <<< ((nI (3 * p)) &&& 31))), .int (nI (lit + (lc p))), .long (jL (xs (nxtZ I lc cl (D + g) σ (p + 1)))), .int (nI (g + 1)), .ref 71]) (h' := (n, sl, wKK kk, (sdI I (lstI b1) (upd r74 g (nI p)) r75), (sdL L r76), wQQ q)) 2 rfl ?_
                  obtain ⟨t0, t1, t2, ht1, ht2, ht3⟩ := hcnt
                  rw [ht3]
                  refine tv_cv [.int (nI (g + 1)), .long (jL (xs (nxtZ I lc cl (D + g) σ (p + 1)))), .int (nI (lit + muN lc (p + 1))), .int (nI (t0 + 8 * t1 + 64 * t2))] [] rfl rfl (by omega) rfl (Nat.le_of_ble_eq_true rfl) (Nat.le_of_ble_eq_true rfl) (Or.inr (Or.inr rfl)) (hgo t0 t1 t2 (upd r74 g (rgI (p + 1))) ht1 ht2 (fun z => by have := z.2; rw [Nat.add_sub_cancel] at this; omega) (fun z => c161 (hcei.mpr z)) rfl) ?_
                  intro rv9 h9 hp9
                  have hrv : rv9 = none := hp9.1
                  subst hrv
                  refine tv_iincN (k := p) (ls' := [some (.ref 71), some (.int (nI g)), some (.long (jL (xs σ))), none, some (.int (nI lit)), some (.int (nI (c0 + 8 * c1 + 64 * c2))), some (.int (jI (lz (xs σ)))), some (.long (jL (xs (nxtZ I lc cl (D + g) σ 0)))), none, some (.int (nI (p + 1))), some (.int (nI (lc p))), some (.long (jL (xs (nxtZ I lc cl (D + g) σ (p + 1))))), none]) rfl rfl rfl ?_
                  refine tv_b (pc' := 82) (ls' := [some (.ref 71), some (.int (nI g)), some (.long (jL (xs σ))), none, some (.int (nI lit)), some (.int (nI (c0 + 8 * c1 + 64 * c2))), some (.int (jI (lz (xs σ)))), some (.long (jL (xs (nxtZ I lc cl (D + g) σ 0)))), none, some (.int (nI (p + 1))), some (.int (nI (lc p))), some (.long (jL (xs (nxtZ I lc cl (D + g) σ (p + 1))))), none]) (st' := []) (h' := h9) 1 rfl ?_
                  exact hnx _ _ _ _ _ _ rfl hp9
        have hI : ∀ j, j ≠ 71 → j ≠ 74 → j ≠ 75 → sdI I (lstI b) r74 r75 j = I j := fun j a1 a2 a3 => sdI_o a1 a2 a3
        have hsg0 : am_Ev (6 + m) 37 0 (am_ent 10 [.ref 13, .int (nI (D + g)), .int (jI (lz (xs σ)))]) [] (n, sl, wKK kk, (sdI I (lstI b) r74 r75), (sdL L (vp_updL r76 (512 * g + (c0 + 8 * c1 + 64 * c2)) (jL (xs σ)))), wQQ q) (some (.long (sL (fun j => (sp_southOf (nI j)).toInt64 * sp_d_given (nI j) (nI (D + g)) (sp_d_totalOn (nI (D + g)) I L) (sp_d_momentOn (nI (D + g)) (jI (lz (xs σ))) I L) I L) 16)), (n, sl, wKK kk, (sdI I (lstI b) r74 r75), (sdL L (vp_updL r76 (512 * g + (c0 + 8 * c1 + 64 * c2)) (jL (xs σ)))), wQQ q)) := by
          have e := ev_d_sumGrowth (d := 2 + m) (n := n) (sl := sl) (kk := kk) (q := q) (I := sdI I (lstI b) r74 r75) (L := sdL L (vp_updL r76 (512 * g + (c0 + 8 * c1 + 64 * c2)) (jL (xs σ)))) (x := nI (D + g)) (l := jI (lz (xs σ))) (fun j => by rw [hI 14 (by decide) (by decide) (by decide), gG.1.1]; exact gT.2.1 j)
          rw [sumg_v (X := I) (d := D + g) (by unfold cTow; rw [hI 14 (by decide) (by decide) (by decide), hI 8 (by decide) (by decide) (by decide), hI 9 (by decide) (by decide) (by decide), hI 10 (by decide) (by decide) (by decide), hI 11 (by decide) (by decide) (by decide), hI 12 (by decide) (by decide) (by decide)]; exact gG.1) (by unfold cWet; rw [hI 2 (by decide) (by decide) (by decide)]; exact gG.2.1) (cSum_xy (fun d _ => sXY_r) (hI 15 (by decide) (by decide) (by decide)) (hI 17 (by decide) (by decide) (by decide)) (fun c hc => hI _ (by omega) (by omega) (by omega)) (sdL_o (by decide)) gG.2.2.2.1) gT gB (by omega) hlzb] at e
          rw [hsum]
          exact ev_up (by omega) e
        show am_T _ _ 0 [some (.ref 71), some (.int (nI g)), some (.long (jL (xs σ))), none, some (.int (nI lit)), some (.int (nI (c0 + 8 * c1 + 64 * c2))), none, none, none, none, none, none, none] _ _ _
        refine tv_b (pc' := (if (nI lit) < (lstI b) then 10 else 9)) (ls' := [some (.ref 71), some (.int (nI g)), some (.long (jL (xs σ))), none, some (.int (nI lit)), some (.int (nI (c0 + 8 * c1 + 64 * c2))), none, none, none, none, none, none, none]) (st' := []) (h' := (n, sl, wKK kk, (sdI I (lstI b) r74 r75), (sdL L r76), wQQ q)) 4 rfl ?_
        refine tv_t (hlt) ?_
        refine tv_b (pc' := 15) (ls' := [some (.ref 71), some (.int (nI g)), some (.long (jL (xs σ))), none, some (.int (nI lit)), some (.int (nI (c0 + 8 * c1 + 64 * c2))), none, none, none, none, none, none, none]) (st' := [.int (I 71 4), .int (nI g)]) (h' := (n, sl, wKK kk, (sdI I (lstI b) r74 r75), (sdL L r76), wQQ q)) 3 rfl ?_
        refine tv_top (h4) ?_
        refine tv_b (pc' := (if (nI N) ≤ (nI g) then 24 else 18)) (ls' := [some (.ref 71), some (.int (nI g)), some (.long (jL (xs σ))), none, some (.int (nI lit)), some (.int (nI (c0 + 8 * c1 + 64 * c2))), none, none, none, none, none, none, none]) (st' := []) (h' := (n, sl, wKK kk, (sdI I (lstI b) r74 r75), (sdL L r76), wQQ q)) 1 rfl ?_
        refine tv_f (fun hq => absurd ((nI_leI (a := N) (b := g) (by omega) (by omega)).mp hq) (by omega)) ?_
        refine tv_b (pc' := (if (nI g) < 8 then 42 else 24)) (ls' := [some (.ref 71), some (.int (nI g)), some (.long (jL (xs σ))), none, some (.int (nI lit)), some (.int (nI (c0 + 8 * c1 + 64 * c2))), none, none, none, none, none, none, none]) (st' := []) (h' := (n, sl, wKK kk, (sdI I (lstI b) r74 r75), (sdL L r76), wQQ q)) 3 rfl ?_
        refine tv_t ((nI_ltI (a := g) (b := 8) (by omega) (by omega)).mpr (by omega)) ?_
        refine tv_b (pc' := 47) (ls' := [some (.ref 71), some (.int (nI g)), some (.long (jL (xs σ))), none, some (.int (nI lit)), some (.int (nI (c0 + 8 * c1 + 64 * c2))), none, none, none, none, none, none, none]) (st' := [.int (nI (c0 + 8 * c1 + 64 * c2)), .long (jL (xs σ)), .int (nI g), .ref 71]) (h' := (n, sl, wKK kk, (sdI I (lstI b) r74 r75), (sdL L r76), wQQ q)) 4 rfl ?_
        refine tv_cvE [.int (nI g), .long (jL (xs σ)), .int (nI (c0 + 8 * c1 + 64 * c2))] [] rfl rfl (by omega) rfl (Nat.le_of_ble_eq_true rfl) (Nat.le_of_ble_eq_true rfl) (Or.inr (Or.inr rfl)) (ev_s_nb0 (by omega) (by omega) hnb) ?_
        refine tv_b (pc' := 55) (ls' := [some (.ref 71), some (.int (nI g)), some (.long (jL (xs σ))), none, some (.int (nI lit)), some (.int (nI (c0 + 8 * c1 + 64 * c2))), none, none, none, none, none, none, none]) (st' := [.long (jL (xs σ))]) (h' := (n, sl, wKK kk, (sdI I (lstI b) r74 r75), (sdL L (vp_updL r76 (512 * g + (c0 + 8 * c1 + 64 * c2)) (jL (xs σ)))), wQQ q)) 2 rfl ?_
        refine tv_csE [.long (jL (xs σ))] [] rfl rfl (by omega) rfl (Nat.le_of_ble_eq_true rfl) (Nat.le_of_ble_eq_true rfl) (ev_up (d := 1) (e := 6 + m) (by omega) (helf 0 _ _)) ?_
        refine tv_b (pc' := 69) (ls' := [some (.ref 71), some (.int (nI g)), some (.long (jL (xs σ))), none, some (.int (nI lit)), some (.int (nI (c0 + 8 * c1 + 64 * c2))), some (.int (jI (lz (xs σ)))), none, none, none, none, none, none]) (st' := [.int (I 71 3), .ref 13, .long (jL (xs σ))]) (h' := (n, sl, wKK kk, (sdI I (lstI b) r74 r75), (sdL L (vp_updL r76 (512 * g + (c0 + 8 * c1 + 64 * c2)) (jL (xs σ)))), wQQ q)) 6 rfl ?_
        refine tv_top (h3) ?_
        refine tv_b (pc' := 70) (ls' := [some (.ref 71), some (.int (nI g)), some (.long (jL (xs σ))), none, some (.int (nI lit)), some (.int (nI (c0 + 8 * c1 + 64 * c2))), some (.int (jI (lz (xs σ)))), none, none, none, none, none, none]) (st' := [.int (nI g), .int (nI D), .ref 13, .long (jL (xs σ))]) (h' := (n, sl, wKK kk, (sdI I (lstI b) r74 r75), (sdL L (vp_updL r76 (512 * g + (c0 + 8 * c1 + 64 * c2)) (jL (xs σ)))), wQQ q)) 1 rfl ?_
        refine tv_b (pc' := 71) (ls' := [some (.ref 71), some (.int (nI g)), some (.long (jL (xs σ))), none, some (.int (nI lit)), some (.int (nI (c0 + 8 * c1 + 64 * c2))), some (.int (jI (lz (xs σ)))), none, none, none, none, none, none]) (st' := [.int ((nI D) + (nI g)), .ref 13, .long (jL (xs σ))]) (h' := (n, sl, wKK kk, (sdI I (lstI b) r74 r75), (sdL L (vp_updL r76 (512 * g + (c0 + 8 * c1 + 64 * c2)) (jL (xs σ)))), wQQ q)) 1 rfl ?_
        refine tv_top (show (nI D) + (nI g) = nI (D + g) from nI_add D g) ?_
        refine tv_b (pc' := 73) (ls' := [some (.ref 71), some (.int (nI g)), some (.long (jL (xs σ))), none, some (.int (nI lit)), some (.int (nI (c0 + 8 * c1 + 64 * c2))), some (.int (jI (lz (xs σ)))), none, none, none, none, none, none]) (st' := [.int (jI (lz (xs σ))), .int (nI (D + g)), .ref 13, .long (jL (xs σ))]) (h' := (n, sl, wKK kk, (sdI I (lstI b) r74 r75), (sdL L (vp_updL r76 (512 * g + (c0 + 8 * c1 + 64 * c2)) (jL (xs σ)))), wQQ q)) 1 rfl ?_
        refine tv_cvE [.int (nI (D + g)), .int (jI (lz (xs σ)))] [.long (jL (xs σ))] rfl rfl (by omega) rfl (Nat.le_of_ble_eq_true rfl) (Nat.le_of_ble_eq_true rfl) (Or.inr (Or.inr rfl)) (hsg0) ?_
        refine tv_b (pc' := 77) (ls' := [some (.ref 71), some (.int (nI g)), some (.long (jL (xs σ))), none, some (.int (nI lit)), some (.int (nI (c0 + 8 * c1 + 64 * c2))), some (.int (jI (lz (xs σ)))), none, none, none, none, none, none]) (st' := [.long ((jL (xs σ)) + (sL (fun j => (sp_southOf (nI j)).toInt64 * sp_d_given (nI j) (nI (D + g)) (sp_d_totalOn (nI (D + g)) I L) (sp_d_momentOn (nI (D + g)) (jI (lz (xs σ))) I L) I L) 16))]) (h' := (n, sl, wKK kk, (sdI I (lstI b) r74 r75), (sdL L (vp_updL r76 (512 * g + (c0 + 8 * c1 + 64 * c2)) (jL (xs σ)))), wQQ q)) 1 rfl ?_
        rw [hgr]
        refine tv_b (pc' := 82) (ls' := [some (.ref 71), some (.int (nI g)), some (.long (jL (xs σ))), none, some (.int (nI lit)), some (.int (nI (c0 + 8 * c1 + 64 * c2))), some (.int (jI (lz (xs σ)))), some (.long (jL (xs (nxtZ I lc cl (D + g) σ 0)))), none, some (.int (-1)), none, none, none]) (st' := []) (h' := (n, sl, wKK kk, (sdI I (lstI b) r74 r75), (sdL L (vp_updL r76 (512 * g + (c0 + 8 * c1 + 64 * c2)) (jL (xs σ)))), wQQ q)) 3 rfl ?_
        refine tv_w (hloop 4 0 rfl b r74 r75 (vp_updL r76 (512 * g + (c0 + 8 * c1 + 64 * c2)) (jL (xs σ))) _ _ _ hbB hkp hpath (fun g' h1 h2 d0 d1 d2 e0 e1 e2 => ?_)) (fun rv h' ho => ?_)
        · rw [uL_n (by omega)]
          exact hmt g' (by omega) h2 d0 d1 d2 e0 e1 e2
        · obtain ⟨rfl, s74, s75, s76, rfl, p1, p2, p3, p4, p5⟩ := ho
          refine ⟨rfl, s74, s75, s76, rfl, p1, p2, p3, fun g' h1 h2 d0 d1 d2 e0 e1 e2 => ?_, fun i hi => by rw [p5 i (by omega), uL_n (by omega)]⟩
          by_cases z : g' = g
          · subst z
            rw [p5 _ (by omega)]
            by_cases y : d0 = c0 ∧ d1 = c1 ∧ d2 = c2
            · obtain ⟨rfl, rfl, rfl⟩ := y
              refine Or.inr ⟨σ, hσ, uL_e, fun a ha => ?_⟩
              rw [← hlit]
              refine hnode.2 a ?_
              rw [show m + 1 = N - g' by omega]
              exact ha
            · rw [uL_n (by omega)]
              rcases hmt g' (Nat.le_refl _) h2 d0 d1 d2 e0 e1 e2 with w | ⟨σ0, w1, w2, w3⟩
              · exact Or.inl w
              · exact Or.inr ⟨σ0, w1, w2, fun a ha => hnode.1 _ (w3 a ha)⟩
          · exact p4 g' (by omega) h2 d0 d1 d2 e0 e1 e2
      · -- pruned
        have hprune : nodeZ I lc cl D (I 71 5).toInt cei (m + 1) g σ lit ch b = b := node_n (fun a ha => by
          rcases hmt g (Nat.le_refl _) hgN c0 c1 c2 (by omega) (by omega) (by omega) with w | ⟨σ0, w1, w2, w3⟩
          · rw [w] at hnb
            exact absurd ((gt_i (a := 9223372036854775807) ⟨by decide, by decide⟩ hxb).mpr (by
              have h1 : ∀ c, c < 16 → -25000000000 ≤ σ c ∧ σ c ≤ 25000000000 := fun c hc => by have := hσ c hc; omega
              have := xs_b h1
              omega)) hnb
          · rw [w2] at hnb
            have hx0 := (sg_x (D := D) (g := g) (by omega) (by omega) w1).2
            have hle0 : xs σ0 ≤ xs σ := by
              have : ¬ xs σ < xs σ0 := fun z => hnb ((gt_i hx0 hxb).mpr z)
              omega
            rw [hlit]
            refine w3 a ?_
            rw [show N - g = m + 1 by omega]
            exact rch_m gT (m + 1) g (by omega) hle0 a ha)
        rw [hprune]
        show am_T _ _ 0 [some (.ref 71), some (.int (nI g)), some (.long (jL (xs σ))), none, some (.int (nI lit)), some (.int (nI (c0 + 8 * c1 + 64 * c2))), none, none, none, none, none, none, none] _ _ _
        refine tv_b (pc' := (if (nI lit) < (lstI b) then 10 else 9)) (ls' := [some (.ref 71), some (.int (nI g)), some (.long (jL (xs σ))), none, some (.int (nI lit)), some (.int (nI (c0 + 8 * c1 + 64 * c2))), none, none, none, none, none, none, none]) (st' := []) (h' := (n, sl, wKK kk, (sdI I (lstI b) r74 r75), (sdL L r76), wQQ q)) 4 rfl ?_
        refine tv_t (hlt) ?_
        refine tv_b (pc' := 15) (ls' := [some (.ref 71), some (.int (nI g)), some (.long (jL (xs σ))), none, some (.int (nI lit)), some (.int (nI (c0 + 8 * c1 + 64 * c2))), none, none, none, none, none, none, none]) (st' := [.int (I 71 4), .int (nI g)]) (h' := (n, sl, wKK kk, (sdI I (lstI b) r74 r75), (sdL L r76), wQQ q)) 3 rfl ?_
        refine tv_top (h4) ?_
        refine tv_b (pc' := (if (nI N) ≤ (nI g) then 24 else 18)) (ls' := [some (.ref 71), some (.int (nI g)), some (.long (jL (xs σ))), none, some (.int (nI lit)), some (.int (nI (c0 + 8 * c1 + 64 * c2))), none, none, none, none, none, none, none]) (st' := []) (h' := (n, sl, wKK kk, (sdI I (lstI b) r74 r75), (sdL L r76), wQQ q)) 1 rfl ?_
        refine tv_f (fun hq => absurd ((nI_leI (a := N) (b := g) (by omega) (by omega)).mp hq) (by omega)) ?_
        refine tv_b (pc' := (if (nI g) < 8 then 42 else 24)) (ls' := [some (.ref 71), some (.int (nI g)), some (.long (jL (xs σ))), none, some (.int (nI lit)), some (.int (nI (c0 + 8 * c1 + 64 * c2))), none, none, none, none, none, none, none]) (st' := []) (h' := (n, sl, wKK kk, (sdI I (lstI b) r74 r75), (sdL L r76), wQQ q)) 3 rfl ?_
        refine tv_t ((nI_ltI (a := g) (b := 8) (by omega) (by omega)).mpr (by omega)) ?_
        refine tv_b (pc' := 47) (ls' := [some (.ref 71), some (.int (nI g)), some (.long (jL (xs σ))), none, some (.int (nI lit)), some (.int (nI (c0 + 8 * c1 + 64 * c2))), none, none, none, none, none, none, none]) (st' := [.int (nI (c0 + 8 * c1 + 64 * c2)), .long (jL (xs σ)), .int (nI g), .ref 71]) (h' := (n, sl, wKK kk, (sdI I (lstI b) r74 r75), (sdL L r76), wQQ q)) 4 rfl ?_
        refine tv_cvE [.int (nI g), .long (jL (xs σ)), .int (nI (c0 + 8 * c1 + 64 * c2))] [] rfl rfl (by omega) rfl (Nat.le_of_ble_eq_true rfl) (Nat.le_of_ble_eq_true rfl) (Or.inr (Or.inr rfl)) (ev_s_nb1 (by omega) (by omega) hnb) ?_
        refine tv_b (pc' := 53) (ls' := [some (.ref 71), some (.int (nI g)), some (.long (jL (xs σ))), none, some (.int (nI lit)), some (.int (nI (c0 + 8 * c1 + 64 * c2))), none, none, none, none, none, none, none]) (st' := []) (h' := (n, sl, wKK kk, (sdI I (lstI b) r74 r75), (sdL L r76), wQQ q)) 1 rfl ?_
        exact tv_rv rfl ⟨rfl, r74, r75, r76, rfl, hbB, hkp, fun _ _ => rfl, hmt, fun _ _ => rfl⟩
    · have hlt : ¬ nI lit < lstI b := fun q => hok (hlo.mp q)
      have hd0 : drwZ I lc cl D (I 71 5).toInt cei (m + 1) g σ lit ch b = b := if_neg hok
      rw [hd0]
      show am_T _ _ 0 [some (.ref 71), some (.int (nI g)), some (.long (jL (xs σ))), none, some (.int (nI lit)), some (.int (nI (c0 + 8 * c1 + 64 * c2))), none, none, none, none, none, none, none] _ _ _
      refine tv_b (pc' := (if (nI lit) < (lstI b) then 10 else 9)) (ls' := [some (.ref 71), some (.int (nI g)), some (.long (jL (xs σ))), none, some (.int (nI lit)), some (.int (nI (c0 + 8 * c1 + 64 * c2))), none, none, none, none, none, none, none]) (st' := []) (h' := (n, sl, wKK kk, (sdI I (lstI b) r74 r75), (sdL L r76), wQQ q)) 4 rfl ?_
      refine tv_f (hlt) ?_
      exact tv_rv rfl ⟨rfl, r74, r75, r76, rfl, hbB, hkp, fun _ _ => rfl, hmt, fun _ _ => rfl⟩
