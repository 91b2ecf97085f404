/-! THE CLASS'S DAYS ARE THE GROUND'S -/
def wsZ (X : Nat → Nat → Int32) : Nat → Int
  | 0 => 0
  | D + 1 => max (wsZ X D) (pS X (D + 1)).2
def drZ (X : Nat → Nat → Int32) : Nat → Int
  | 0 => 0
  | D + 1 => drZ X D + gLd X (kn X) D
def cTow (I X : Nat → Nat → Int32) : Prop := I 14 = X 94 ∧ I 8 = X 95 ∧ I 9 = X 96 ∧ I 10 = X 97 ∧ I 11 = X 98 ∧ I 12 = X 99
def cWet (I X : Nat → Nat → Int32) : Prop := ∀ d, d < 400 → I 2 d = wf 50 (X 101) (X 100) d
def cSum (I : Nat → Nat → Int32) (L : Nat → Nat → Int64) (X : Nat → Nat → Int32) (f : Nat → Bool) : Prop := ∀ d, d < 400 → I 15 d = jI (gT X f d) ∧ L 16 d = jL (gM X f d) ∧ I 17 d = jI (gLd X f d) ∧ ∀ c, c < 16 → I (19 + c) d = jI (wkZ X f c d)
def cRow (I : Nat → Nat → Int32) (L : Nat → Nat → Int64) (X : Nat → Nat → Int32) (D : Nat) : Prop := I 52 D = jI (pS X D).2 ∧ I 53 D = jI (wsZ X D) ∧ I 54 D = jI (drZ X D) ∧ ∀ c, c < 16 → L (36 + c) D = jL ((pS X D).1 c)
def cDay (I : Nat → Nat → Int32) (L : Nat → Nat → Int64) (X : Nat → Nat → Int32) : Prop := ∃ R, I 13 11 = nI R ∧ R ≤ 400 ∧ ∀ D, D ≤ R → cRow I L X D
section C67
variable {I X : Nat → Nat → Int32} {L : Nat → Nat → Int64}
theorem gLd_b (hB : wfB X) {f : Nat → Bool} (d : Nat) : 0 ≤ gLd X f d ∧ gLd X f d ≤ 200000 := by
  have h0 : ∀ i, i < nC X → 0 ≤ (if f (i + 1) = true ∧ X 107 (i + 1) = 1 ∧ dyN X (i + 1) = d then (X 110 (i + 1)).toInt else 0) ∧ (if f (i + 1) = true ∧ X 107 (i + 1) = 1 ∧ dyN X (i + 1) = d then (X 110 (i + 1)).toInt else 0) ≤ 1000 := by
    intro i hi
    split
    · rename_i h
      obtain ⟨_, _, _, a | a | a | a | a | a⟩ := hB.2.2 (i + 1) (by omega) (by omega)
      · exfalso; have := h.2.1; rw [this] at a; revert a; rintro ⟨a, _⟩; revert a; decide
      · omega
      all_goals (exfalso; have := h.2.1; rw [this] at a; revert a; first | (rintro ⟨a, _⟩; revert a; decide) | decide)
    · omega
  have h := zS_b (B := 1000) (n := nC X) (fun i hi => ⟨by have := h0 i hi; omega, (h0 i hi).2⟩)
  have h2 := zS_0 (n := nC X) (fun i hi => (h0 i hi).1)
  have := hB.1.2
  unfold gLd
  omega
theorem drZ_b (hB : wfB X) : ∀ D : Nat, 0 ≤ drZ X D ∧ drZ X D ≤ 200000 * (D : Int) := by
  intro D
  induction D with
  | zero => exact ⟨Int.le_refl 0, by show (0 : Int) ≤ 200000 * (0 : Int); omega⟩
  | succ D ih =>
    have h := gLd_b (f := kn X) hB D
    show 0 ≤ drZ X D + gLd X (kn X) D ∧ drZ X D + gLd X (kn X) D ≤ _
    push_cast
    omega
theorem wsZ_b (hT : wfT X) (hB : wfB X) : ∀ D : Nat, D ≤ 400 → -1000000000 ≤ wsZ X D ∧ wsZ X D ≤ 1000000000 := by
  intro D
  induction D with
  | zero => intro _; exact ⟨by show (-1000000000 : Int) ≤ 0; omega, by show (0 : Int) ≤ 1000000000; omega⟩
  | succ D ih =>
    intro h
    have h1 := ih (by omega)
    have h2 := (pS_b hT hB (D + 1) h).2
    show _ ≤ max (wsZ X D) (pS X (D + 1)).2 ∧ max (wsZ X D) (pS X (D + 1)).2 ≤ _
    omega
theorem covh_j (hc : cTow I X) (hT : wfT X) {r : Nat} (hr : r < 8) {l : Int} (hl : -1000000000 ≤ l ∧ l ≤ 1000000000) : sp_st_overhang (nI r) (jL l) I L = jL (oh X r l) := by
  have h := (oh_b hT hr hl).1
  have hri : ¬ sp_isRing (nI r) = 0 := by
    unfold sp_isRing
    rw [if_neg (nI_pos (by omega)), if_neg (show ¬ (8 : Int32) ≤ nI r from nI_ge (b := 8) (a := r) (by omega) (by omega))]
    decide
  unfold sp_st_overhang
  rw [if_neg hri, nI_clamp (by omega), hc.2.2.1, hc.2.2.2.1, i64_j, i64_j, jL_mul, show (1000000 : Int64) = jL 1000000 from rfl, floorDiv_j ⟨by omega, by omega⟩ ⟨by decide, by decide⟩ (by decide), jL_add]
  rfl
theorem ctot_j (hc : cTow I X) (hs : cSum I L X (kn X)) (hB : wfB X) {D : Nat} (hD : D < 400) : sp_d_totalOn (nI D) I L = jL (tot X D) := by
  have hg := gT_b (f := kn X) hB D
  unfold sp_d_totalOn sp_d_leadOn
  rw [if_neg (sp_isDay_nI hD), nI_clamp (by omega), (hs D hD).1, jI_64 ⟨by omega, by omega⟩, sL_j (g := fun r => (X 95 r).toInt) (fun r _ => by rw [hc.2.1, i64_j]), jL_add]
  rfl
theorem cmomt_j (hc : cTow I X) (hT : wfT X) {l : Int} (hl : -1000000000 ≤ l ∧ l ≤ 1000000000) : sL (fun j => (I 8 j).toInt64 * sp_st_overhang (nI j) (jI l).toInt64 I L) 8 = jL (zS (fun r => (X 95 r).toInt * oh X r l) 8) :=
  sL_j (fun r hr => by rw [hc.2.1, i64_j, jI_64 ⟨by omega, by omega⟩, covh_j hc hT hr hl, jL_mul])
theorem cmom_j (hc : cTow I X) (hs : cSum I L X (kn X)) (hT : wfT X) {D : Nat} (hD : D < 400) {l : Int} (hl : -1000000000 ≤ l ∧ l ≤ 1000000000) : sp_d_momentOn (nI D) (jI l) I L = jL (mom X D l) := by
  unfold sp_d_momentOn
  rw [if_neg (sp_isDay_nI hD), nI_clamp (by omega), (hs D hD).2.1, cmomt_j hc hT hl, jL_add]
  rfl
theorem cload_j {c : Nat} (hc : c < 16) {t m : Int} (ht : -300000 ≤ t ∧ t ≤ 300000) (hm : -9000000000 ≤ m ∧ m ≤ 9000000000) : sp_d_loadOf (nI c) (jL t) (jL m) I L = jL (ldZ t m c) := by
  have hb := ldin_b hc ht hm
  have hd := divB (a := t * 42500 + m * (2 * (c : Int) - 15)) (b := 680000) (A := 160000000000) hb (by decide)
  have hso : sp_southOf (nI c) = jI (2 * (c : Int) - 15) := by
    unfold sp_southOf
    rw [nI_j, show (2 : Int32) = jI 2 from rfl, show (15 : Int32) = jI 15 from rfl, jI_mul, jI_sub]
  unfold sp_d_loadOf
  rw [hso, jI_64 ⟨by omega, by omega⟩, show (42500 : Int64) = jL 42500 from rfl, show (680000 : Int64) = jL 680000 from rfl, jL_mul, jL_mul, jL_add, floorDiv_j ⟨by omega, by omega⟩ ⟨by decide, by decide⟩ (by decide), show (0 : Int64) = jL 0 from rfl, maxL_j ⟨by decide, by decide⟩ ⟨by omega, by omega⟩]
  rfl
theorem cgiven_j (hc : cTow I X) (hw : cWet I X) (hs : cSum I L X (kn X)) (hT : wfT X) (hB : wfB X) {c D : Nat} (hcc : c < 16) (hD : D < 400) {l : Int} (hl : -1000000000 ≤ l ∧ l ≤ 1000000000) : sp_d_given (nI c) (nI D) (jL (tot X D)) (jL (mom X D l)) I L = jL (dG X c D l) := by
  have htb := tot_b hT hB D
  have hmb := mom_b hT hB D hl
  have hp := prin_b hT hcc hD htb hmb
  have hst := hT.1 c hcc
  have hwk := wkZ_b (f := kn X) hB c D
  have hwb := wat_b hT hD
  unfold sp_d_given
  rw [if_neg (sp_isColumn_nI hcc), if_neg (sp_isDay_nI hD), nI_clamp (by omega), nI_clamp (by omega), hc.1, if_pos (show (1 : Int32) ≤ X 94 c by rw [Int32.le_iff_toInt_le]; exact hst.1), cload_j hcc htb hmb]
  have hwo : sp_wet_on (nI D) I L = jI (watZ X D) := by
    unfold sp_wet_on
    rw [if_neg (sp_isDay_nI hD), nI_clamp (by omega), hw D hD]
    unfold watZ
    rw [jI_self]
  have h10 : ((10 : Int32) * X 94 c).toInt64 = jL (10 * (X 94 c).toInt) := by
    have e : (10 : Int32) * X 94 c = jI (10 * (X 94 c).toInt) := by rw [← jI_mul, jI_self]; rfl
    rw [e, jI_64 ⟨by omega, by omega⟩]
  have h100 : ((100 : Int32) + sp_wet_on (nI D) I L).toInt64 = jL (100 + watZ X D) := by
    rw [hwo, show (100 : Int32) = jI 100 from rfl, jI_add, jI_64 ⟨by omega, by omega⟩]
  rw [h10, h100, jL_mul, jL_divp ⟨by omega, by omega⟩ ⟨by omega, by omega⟩ hp.1 (by omega), (hs D hD).2.2.2 c hcc, jI_64 ⟨by omega, by omega⟩, jL_add]
  rfl
theorem clv_v (hc : cTow I X) (hw : cWet I X) (hs : cSum I L X (kn X)) (hT : wfT X) (hB : wfB X) {D : Nat} (hD : D < 400) {l : Int} (hl : -1000000000 ≤ l ∧ l ≤ 1000000000) {s : Nat → Int} (hsr : ∀ c, c < 16 → L (36 + c) D = jL (s c)) : ∀ k, k ≤ 16 → (it_d_live D (jL (tot X D)) (jL (mom X D l)) 0 I L k).1 = jL (zS (fun c => (2 * (c : Int) - 15) * (s c + dG X c D l)) k) ∧ (∀ c, c < k → (it_d_live D (jL (tot X D)) (jL (mom X D l)) 0 I L k).2 (36 + c) (D + 1) = jL (s c + dG X c D l)) ∧ (∀ j i, (i ≠ D + 1 ∨ j < 36 ∨ 36 + k ≤ j) → (it_d_live D (jL (tot X D)) (jL (mom X D l)) 0 I L k).2 j i = L j i) := by
  intro k
  induction k with
  | zero => intro _; exact ⟨rfl, fun c h => by omega, fun j i _ => rfl⟩
  | succ k ih =>
    intro hk
    obtain ⟨i1, i2, i3⟩ := ih (by omega)
    have e : it_d_live D (jL (tot X D)) (jL (mom X D l)) 0 I L (k + 1) = bd_d_live D (jL (tot X D)) (jL (mom X D l)) (it_d_live D (jL (tot X D)) (jL (mom X D l)) 0 I L k).1 k I (it_d_live D (jL (tot X D)) (jL (mom X D l)) 0 I L k).2 := rfl
    rw [e]
    have hs2 : cSum I (it_d_live D (jL (tot X D)) (jL (mom X D l)) 0 I L k).2 X (kn X) := fun d hd => ⟨(hs d hd).1, by rw [i3 16 d (Or.inr (Or.inl (by omega)))]; exact (hs d hd).2.1, (hs d hd).2.2⟩
    have hgv := cgiven_j (L := (it_d_live D (jL (tot X D)) (jL (mom X D l)) 0 I L k).2) hc hw hs2 hT hB (show k < 16 by omega) hD hl
    have hnow : (it_d_live D (jL (tot X D)) (jL (mom X D l)) 0 I L k).2 (36 + k) D + sp_d_given (nI k) (nI D) (jL (tot X D)) (jL (mom X D l)) I (it_d_live D (jL (tot X D)) (jL (mom X D l)) 0 I L k).2 = jL (s k + dG X k D l) := by
      rw [hgv, i3 _ _ (Or.inl (by omega)), hsr k (by omega), jL_add]
    have hso : (sp_southOf (nI k)).toInt64 = jL (2 * (k : Int) - 15) := by
      have e : sp_southOf (nI k) = jI (2 * (k : Int) - 15) := by
        unfold sp_southOf
        rw [nI_j, show (2 : Int32) = jI 2 from rfl, show (15 : Int32) = jI 15 from rfl, jI_mul, jI_sub]
      rw [e, jI_64 ⟨by omega, by omega⟩]
    unfold bd_d_live
    refine ⟨?_, fun c h => ?_, fun j i h => ?_⟩
    · show _ + _ * (_ + _) = _
      rw [hnow, i1, hso, jL_mul, jL_add]
      rfl
    · show va_up (it_d_live D (jL (tot X D)) (jL (mom X D l)) 0 I L k).2 (36 + k) (vp_updL ((it_d_live D (jL (tot X D)) (jL (mom X D l)) 0 I L k).2 (36 + k)) (D + 1) ((it_d_live D (jL (tot X D)) (jL (mom X D l)) 0 I L k).2 (36 + k) D + sp_d_given (nI k) (nI D) (jL (tot X D)) (jL (mom X D l)) I (it_d_live D (jL (tot X D)) (jL (mom X D l)) 0 I L k).2)) (36 + c) (D + 1) = _
      rw [hnow]
      by_cases e1 : c = k
      · subst e1; rw [va_e1, vu_e]
      · rw [va_n1 (by omega)]; exact i2 c (by omega)
    · show va_up (it_d_live D (jL (tot X D)) (jL (mom X D l)) 0 I L k).2 (36 + k) (vp_updL ((it_d_live D (jL (tot X D)) (jL (mom X D l)) 0 I L k).2 (36 + k)) (D + 1) ((it_d_live D (jL (tot X D)) (jL (mom X D l)) 0 I L k).2 (36 + k) D + sp_d_given (nI k) (nI D) (jL (tot X D)) (jL (mom X D l)) I (it_d_live D (jL (tot X D)) (jL (mom X D l)) 0 I L k).2)) j i = _
      by_cases e1 : j = 36 + k
      · subst e1; rw [va_e1, vu_n (by omega)]; exact i3 _ _ (by omega)
      · rw [va_n1 e1]; exact i3 _ _ (by omega)
theorem clean_j {s : Nat → Int} {B : Int} (hB : B ≤ 30000000000) (hs : ∀ c, c < 16 → -B ≤ s c ∧ s c ≤ B) : sp_leanOf (jL (xs s)) = jI (lz (xs s)) := by
  have hx := xs_b hs
  have hd := divB (a := 1000 * xs s) (b := 1360) (A := 7200000000000000) (by omega) (by decide)
  unfold sp_leanOf
  rw [show (1000 : Int64) = jL 1000 from rfl, show (1360 : Int64) = jL 1360 from rfl, jL_mul, floorDiv_j ⟨by omega, by omega⟩ ⟨by decide, by decide⟩ (by decide), show (-1000000000 : Int64) = jL (-1000000000) from rfl, show (1000000000 : Int64) = jL 1000000000 from rfl, minL_j ⟨by decide, by decide⟩ ⟨by omega, by omega⟩, maxL_j ⟨by decide, by decide⟩ ⟨by omega, by omega⟩, jL_32]
  rfl
/-- a day more -/
theorem live_v (hc : cTow I X) (hw : cWet I X) (hs : cSum I L X (kn X)) (hT : wfT X) (hB : wfB X) {D : Nat} (hD : D < 400) (hr : cRow I L X D) : cRow (sI_d_live D I L) (sL_d_live D I L) X (D + 1) ∧ (∀ j i, i ≠ D + 1 → sI_d_live D I L j i = I j i) ∧ (∀ j, j ≠ 52 → j ≠ 53 → j ≠ 54 → sI_d_live D I L j = I j) ∧ (∀ j i, (i ≠ D + 1 ∨ j < 36 ∨ 52 ≤ j) → sL_d_live D I L j i = L j i) := by
  have hb := pS_b hT hB D (by omega)
  obtain ⟨r1, r2, r3, r4⟩ := hr
  have ht := ctot_j hc hs hB hD
  have hm := cmom_j (l := (pS X D).2) hc hs hT hD hb.2
  have hv := clv_v hc hw hs hT hB hD hb.2 r4 16 (Nat.le_refl _)
  have hm2 : sp_d_momentOn (nI D) (I 52 D) I L = jL (mom X D (pS X D).2) := by rw [r1]; exact hm
  have hL : sL_d_live D I L = (it_d_live D (jL (tot X D)) (jL (mom X D (pS X D).2)) 0 I L 16).2 := by unfold sL_d_live; rw [ht, hm2]
  have hle : sp_leanOf (it_d_live D (jL (tot X D)) (jL (mom X D (pS X D).2)) 0 I L 16).1 = jI (pS X (D + 1)).2 := by
    rw [hv.1]
    refine clean_j (s := fun c => (pS X D).1 c + dG X c D (pS X D).2) (B := 26000000000) (by decide) (fun c hcc => ?_)
    have h1 := hb.1 c hcc
    have h2 := (dG_b hT hB hcc hD hb.2).2
    omega
  obtain ⟨v1, v2, v3⟩ := hv
  have hI : sI_d_live D I L = va_up (va_up (va_up I 52 (upd (I 52) (D + 1) (jI (pS X (D + 1)).2))) 53 (upd (I 53) (D + 1) (sp_maxI (I 53 D) (jI (pS X (D + 1)).2)))) 54 (upd (I 54) (D + 1) (I 54 D + I 17 D)) := by
    unfold sI_d_live
    rw [ht, hm2, hle]
    rfl
  rw [hI, hL]
  have h2 := (pS_b hT hB (D + 1) (by omega)).2
  have h3 := wsZ_b hT hB D (by omega)
  refine ⟨⟨?_, ?_, ?_, fun c hcc => v2 c hcc⟩, fun j i hi => ?_, fun j h1 h2 h3 => ?_, fun j i h => v3 j i (by omega)⟩
  · show upd (I 52) (D + 1) (jI (pS X (D + 1)).2) (D + 1) = _
    exact upd_e
  · show upd (I 53) (D + 1) (sp_maxI (I 53 D) (jI (pS X (D + 1)).2)) (D + 1) = _
    rw [upd_e, r2, maxI_j ⟨by omega, by omega⟩ ⟨by omega, by omega⟩]
    rfl
  · show upd (I 54) (D + 1) (I 54 D + I 17 D) (D + 1) = _
    rw [upd_e, r3, (hs D hD).2.2.1, jI_add]
    rfl
  · by_cases c54 : j = 54
    · subst c54; show upd (I 54) (D + 1) _ i = _; exact upd_n hi
    by_cases c53 : j = 53
    · subst c53; show upd (I 53) (D + 1) _ i = _; exact upd_n hi
    by_cases c52 : j = 52
    · subst c52; show upd (I 52) (D + 1) _ i = _; exact upd_n hi
    rw [va_n1 c54, va_n1 c53, va_n1 c52]
  · rw [va_n1 h3, va_n1 h2, va_n1 h1]
/-- the days up to D stand -/
theorem reach_v (hc : cTow I X) (hw : cWet I X) (hs : cSum I L X (kn X)) (hT : wfT X) (hB : wfB X) (hd : cDay I L X) {D : Nat} (hD : D ≤ 400) : (∀ E, E ≤ D → cRow (sI_d_reach D I L) (sL_d_reach D I L) X E) ∧ cDay (sI_d_reach D I L) (sL_d_reach D I L) X ∧ (∀ j, j ≠ 13 → j ≠ 52 → j ≠ 53 → j ≠ 54 → sI_d_reach D I L j = I j) ∧ (∀ i, i ≠ 11 → sI_d_reach D I L 13 i = I 13 i) ∧ (∀ j, (j < 36 ∨ 52 ≤ j) → sL_d_reach D I L j = L j) ∧ (I 13 11 = nI (I 13 11).toNatClampNeg ∧ (I 13 11).toNatClampNeg ≤ 400) := by
  obtain ⟨R, hR, hR4, hrow⟩ := hd
  have hcl : (I 13 11).toNatClampNeg = R := by rw [hR, nI_clamp (by omega)]
  have key : ∀ k, R + k ≤ 400 → (∀ E, E ≤ R + k → cRow (it_d_reach D R I L k).1 (it_d_reach D R I L k).2 X E) ∧ (it_d_reach D R I L k).1 13 11 = nI (R + k) ∧ (∀ j, j ≠ 13 → j ≠ 52 → j ≠ 53 → j ≠ 54 → (it_d_reach D R I L k).1 j = I j) ∧ (∀ i, i ≠ 11 → (it_d_reach D R I L k).1 13 i = I 13 i) ∧ (∀ j, (j < 36 ∨ 52 ≤ j) → (it_d_reach D R I L k).2 j = L j) := by
    intro k
    induction k with
    | zero => intro _; exact ⟨hrow, hR, fun j _ _ _ _ => rfl, fun i _ => rfl, fun j _ => rfl⟩
    | succ k ih =>
      intro hk
      obtain ⟨i1, i2, i3, i4, i5⟩ := ih (by omega)
      have e : it_d_reach D R I L (k + 1) = bd_d_reach D R k (it_d_reach D R I L k).1 (it_d_reach D R I L k).2 := rfl
      rw [e]
      generalize it_d_reach D R I L k = W at i1 i2 i3 i4 i5
      have hc2 : cTow W.1 X := by
        unfold cTow
        rw [i3 14 (by decide) (by decide) (by decide) (by decide), i3 8 (by decide) (by decide) (by decide) (by decide), i3 9 (by decide) (by decide) (by decide) (by decide), i3 10 (by decide) (by decide) (by decide) (by decide), i3 11 (by decide) (by decide) (by decide) (by decide), i3 12 (by decide) (by decide) (by decide) (by decide)]
        exact hc
      have hw2 : cWet W.1 X := by unfold cWet; rw [i3 2 (by decide) (by decide) (by decide) (by decide)]; exact hw
      have hs2 : cSum W.1 W.2 X (kn X) := by
        intro d hd
        rw [i3 15 (by decide) (by decide) (by decide) (by decide), i3 17 (by decide) (by decide) (by decide) (by decide), i5 16 (by omega)]
        exact ⟨(hs d hd).1, (hs d hd).2.1, (hs d hd).2.2.1, fun c hcc => by rw [i3 (19 + c) (by omega) (by omega) (by omega) (by omega)]; exact (hs d hd).2.2.2 c hcc⟩
      obtain ⟨a1, a2, a3, a4⟩ := live_v (D := R + k) hc2 hw2 hs2 hT hB (by omega) (i1 _ (Nat.le_refl _))
      unfold bd_d_reach
      refine ⟨fun E hE => ?_, ?_, fun j h1 h2 h3 h4 => ?_, fun i hi => ?_, fun j hj => ?_⟩
      · have hrowc : ∀ {I' : Nat → Nat → Int32}, cRow (sI_d_live (R + k) W.1 W.2) (sL_d_live (R + k) W.1 W.2) X E → cRow (va_up (sI_d_live (R + k) W.1 W.2) 13 (upd ((sI_d_live (R + k) W.1 W.2) 13) 11 (nI ((R + k) + 1)))) (sL_d_live (R + k) W.1 W.2) X E := fun h => h
        refine hrowc (I' := I) ?_
        by_cases e1 : E = R + k + 1
        · rw [e1]; exact a1
        · obtain ⟨b1, b2, b3, b4⟩ := i1 E (by omega)
          exact ⟨by rw [a2 _ _ e1]; exact b1, by rw [a2 _ _ e1]; exact b2, by rw [a2 _ _ e1]; exact b3, fun c hcc => by rw [a4 _ _ (Or.inl e1)]; exact b4 c hcc⟩
      · show upd ((sI_d_live (R + k) W.1 W.2) 13) 11 (nI (R + k + 1)) 11 = _
        rw [upd_e]; rfl
      · show va_up _ 13 _ j = _
        rw [va_n1 h1, a3 j h2 h3 h4]; exact i3 j h1 h2 h3 h4
      · show upd ((sI_d_live (R + k) W.1 W.2) 13) 11 (nI (R + k + 1)) i = _
        rw [upd_n hi, a3 13 (by decide) (by decide) (by decide)]; exact i4 i hi
      · show sL_d_live (R + k) W.1 W.2 j = _
        rw [← i5 j hj]
        funext i
        exact a4 j i (by omega)
  obtain ⟨k1, k2, k3, k4, k5⟩ := key (D - R) (by omega)
  have hI : sI_d_reach D I L = (it_d_reach D R I L (D - R)).1 := by unfold sI_d_reach; rw [hcl]
  have hL : sL_d_reach D I L = (it_d_reach D R I L (D - R)).2 := by unfold sL_d_reach; rw [hcl]
  rw [hI, hL, hcl]
  exact ⟨fun E hE => k1 E (by omega), ⟨R + (D - R), k2, by omega, k1⟩, k3, k4, k5, hR, hR4⟩
end C67
