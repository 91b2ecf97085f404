/-! THE JUDGE'S VERDICT -/
def ldF (X : Nat → Nat → Int32) (D c : Nat) : Int64 := if c < 16777216 then jL (ldZ (tot X D) (mom X D (pS X D).2) c) else 0
def fcF (X : Nat → Nat → Int32) (D i : Nat) : Int64 := jL (fcZ X D i)
def vfZ (X : Nat → Nat → Int32) (D : Nat) (cs : List Nat) : Int64 := match pa_evC (ldF X D) (fcF X D) jnC cs [] with
  | some (v :: _) => v
  | _ => 0
def vdZ (X : Nat → Nat → Int32) (M : Nat → List (Nat × Nat × List Nat)) (W : Nat) (much : Int32) (D : Nat) : Int32 := if rN X D (nNow X) = 0 then 1 else vdR (vfZ X D) W much false false false (M (rN X D (nNow X)))
theorem ldg_b {c : Nat} (hc : c < 16777216) {t m : Int} (ht : -300000 ≤ t ∧ t ≤ 300000) (hm : -9000000000 ≤ m ∧ m ≤ 9000000000) : -320000000000000000 ≤ t * 42500 + m * (2 * (c : Int) - 15) ∧ t * 42500 + m * (2 * (c : Int) - 15) ≤ 320000000000000000 := by
  have h := mulB (a := m) (b := 2 * (c : Int) - 15) (A := 9000000000) (B := 33554432) hm ⟨by omega, by omega⟩
  omega
theorem cload_g {I : Nat → Nat → Int32} {L : Nat → Nat → Int64} {c : Nat} (hc : c < 16777216) {t m : Int} (ht : -300000 ≤ t ∧ t ≤ 300000) (hm : -9000000000 ≤ m ∧ m ≤ 9000000000) : sp_d_loadOf (nI c) (jL t) (jL m) I L = jL (ldZ t m c) := by
  have hb := ldg_b hc ht hm
  have hd := divB (a := t * 42500 + m * (2 * (c : Int) - 15)) (b := 680000) (A := 320000000000000000) hb (by decide)
  have hso : sp_southOf (nI c) = jI (2 * (c : Int) - 15) := by
    unfold sp_southOf
    rw [nI_j, show (2 : Int32) = jI 2 from rfl, show (15 : Int32) = jI 15 from rfl, jI_mul, jI_sub]
  unfold sp_d_loadOf
  rw [hso, jI_64 ⟨by omega, by omega⟩, show (42500 : Int64) = jL 42500 from rfl, show (680000 : Int64) = jL 680000 from rfl, jL_mul, jL_mul, jL_add, floorDiv_j ⟨by omega, by omega⟩ ⟨by decide, by decide⟩ (by decide), show (0 : Int64) = jL 0 from rfl, maxL_j ⟨by decide, by decide⟩ ⟨by omega, by omega⟩]
  rfl
theorem ldF_R {X : Nat → Nat → Int32} {D : Nat} (hT : wfT X) (hB : wfB X) (hD : D < 400) (c : Nat) : pa_Rb (ldF X D c) = true := by
  unfold ldF
  by_cases hc : c < 16777216
  · rw [if_pos hc]
    have hb := (pS_b hT hB D (by omega)).2
    have h := ldg_b hc (tot_b hT hB D) (mom_b hT hB D hb)
    apply Rb_j
    unfold ldZ
    have h1 : (tot X D * 42500 + mom X D (pS X D).2 * (2 * (c : Int) - 15)) / 680000 ≤ 480000000000 := by
      apply Int.ediv_le_of_le_mul (by decide)
      omega
    exact ⟨by omega, by omega⟩
  · rw [if_neg hc]; decide
theorem fcF_R {X : Nat → Nat → Int32} {D : Nat} (hT : wfT X) (hB : wfB X) (hD : D < 400) (i : Nat) : pa_Rb (fcF X D i) = true := by
  have hb := (pS_b hT hB D (by omega)).2
  have hb1 := (pS_b hT hB (D - 1) (by omega)).2
  have hg := gT_b (f := kn X) hB D
  have hwb := wat_b hT hD
  have hws := wsZ_b hT hB D (by omega)
  have hdr := drZ_b hB D
  apply Rb_j
  unfold fcZ bT
  repeat' split
  all_goals omega
theorem vfZ_v {X : Nat → Nat → Int32} {D : Nat} (hT : wfT X) (hB : wfB X) (hD : D < 400) {b : Bool} {cs : List Nat} {rs : List (Nat × Nat)} (h : pa_Eq b cs rs) : pa_evC (ldF X D) (fcF X D) jnC cs [] = some [vfZ X D cs] ∧ pa_evR (ldF X D) (fcF X D) twR rs [] = some [vfZ X D cs] ∧ (b = true → vfZ X D cs = 0 ∨ vfZ X D cs = 1) := by
  obtain ⟨v, h1, h2, _, h3⟩ := h (ldF X D) (fcF X D) jnC twR (pa_Ag_real (ldF_R hT hB hD) (fcF_R hT hB hD)) [] (by decide)
  have e : vfZ X D cs = v := by unfold vfZ; rw [h1]
  rw [e]
  exact ⟨h1, h2, h3⟩
/-- the codes of the class's mandates -/
def cCode (n : Nat) (kk : Nat → Nat × Nat) (q : Nat → Nat → Option Nat) (I X : Nat → Nat → Int32) (C : Nat) (ah : Nat → Nat) (M : Nat → List (Nat × Nat × List Nat)) : Prop := ∀ i, i < C → X 107 (i + 1) = 4 → ∃ cod, q (ah i) 6 = some cod ∧ 131 ≤ cod ∧ cod < n ∧ kk cod = (20, (pa_flat (M (i + 1))).length) ∧ (pa_flat (M (i + 1))).length ≤ 800 ∧ (∀ j, j < (pa_flat (M (i + 1))).length → I cod j = nI ((pa_flat (M (i + 1))).getD j 0)) ∧ (M (i + 1)).length ≤ 20 ∧ ∀ t ∈ M (i + 1), t.1 < 6 ∧ t.2.1 < 2147483648 ∧ ∃ rs, pa_Eq (cond (Nat.beq t.1 5) false true) t.2.2 rs
/-- what a verdict may change -/
def jdF (I I' : Nat → Nat → Int32) (L L' : Nat → Nat → Int64) : Prop := (∀ j, j ≠ 60 → I' j = I j) ∧ (∀ k, k ≠ 4 → I' 60 k = I 60 k) ∧ (∀ j, j ≠ 60 → j ≠ 61 → j ≠ 62 → L' j = L j)
theorem wQQ_6 {q : Nat → Nat → Option Nat} {a : Nat} (h : 131 ≤ a) : wQQ q a 6 = q a 6 := congrFun (wQQ_hi h) 6
set_option maxHeartbeats 4000000 in
theorem tv_j_verdict {d n sl : Nat} {kk : Nat → Nat × Nat} {I : Nat → Nat → Int32} {L : Nat → Nat → Int64} {q : Nat → Nat → Option Nat} {X : Nat → Nat → Int32} {C W D : Nat} {much : Int32} {ah : Nat → Nat} {M : Nat → List (Nat × Nat × List Nat)} (hW : W < 3) (hD : D < 400) (hT : wfT X) (hB : wfB X) (hc : cTow I X) (hw : cWet I X) (hb : cBook n kk q I X C ah (kn X)) (hs : cSum I L X (kn X)) (hr : cRow I L X D) (hr1 : 0 < D → cRow I L X (D - 1)) (hM : cCode n kk q I X C ah M) : am_T (d + 6) 49 0 (am_ent 14 [.ref 60, .int (nI W), .int much, .int (nI D)]) [] (n, sl, wKK kk, I, L, wQQ q) (fun rv h' => rv = some (.int (vdZ X M W much D)) ∧ ∃ I' L', h' = (n, sl, wKK kk, I', L', wQQ q) ∧ jdF I I' L L') := by
  obtain ⟨⟨b1, b2, b3⟩, b4, b5, b6, b7, b8⟩ := hb
  have hC2 : C ≤ 200 := by rw [← b4]; exact hB.1.2
  have h2 : I 55 2 = nI C := by rw [b6, hB.1.1, b4]
  have hru := cruling (L := L) hB b4 b5 b8 b6 hD
  have hcl : (I 55 2).toNatClampNeg = C := by rw [h2, nI_clamp (by omega)]
  have hrul : ∀ d, am_Ev (d + 1) 48 0 (am_ent 6 [.ref 60, .int (nI D)]) [] (n, sl, wKK kk, I, L, wQQ q) (some (.int (sp_j_ruling (nI D) ah I L)), (n, sl, wKK kk, I, L, wQQ q)) := fun d => ev_j_ruling (by rw [hcl]; exact b1) (by rw [hcl]; exact h2) (by rw [hcl]; exact hC2)
  rw [hru] at hrul
  by_cases h0 : rN X D (nNow X) = 0
  · rw [if_pos h0] at hrul
    show am_T _ _ 0 [some (.ref 60), some (.int (nI W)), some (.int much), some (.int (nI D)), none, none, none, none, none, none, none, none, none, none] _ _ _
    refine tv_b (pc' := 6) (ls' := [some (.ref 60), some (.int (nI W)), some (.int much), some (.int (nI D)), none, none, none, none, none, none, none, none, none, none]) (st' := [.int (nI D), .ref 60, .ref 55]) (h' := (n, sl, wKK kk, I, L, wQQ q)) 4 rfl ?_
    refine tv_cvE [.int (nI D)] [.ref 55] rfl rfl (by omega) rfl (Nat.le_of_ble_eq_true rfl) (Nat.le_of_ble_eq_true rfl) (Or.inr (Or.inr rfl)) (hrul _) ?_
    refine tv_cvE [.int (-1)] [] rfl rfl (by omega) rfl (Nat.le_of_ble_eq_true rfl) (Nat.le_of_ble_eq_true rfl) (Or.inr (Or.inr rfl)) (ev_b_act0 h2 (Or.inl (by decide))) ?_
    refine tv_b (pc' := 28) (ls' := [some (.ref 60), some (.int (nI W)), some (.int much), some (.int (nI D)), some (.null), none, none, none, none, none, none, none, none, none]) (st' := [.int 1]) (h' := (n, sl, wKK kk, I, L, wQQ q)) 4 rfl ?_
    exact tv_ri rfl ⟨by unfold vdZ; rw [if_pos h0], I, L, rfl, fun _ _ => rfl, fun _ _ => rfl, fun _ _ _ _ => rfl⟩
  · rw [if_neg h0] at hrul
    have his := rN_is (X := X) (D := D) (nNow X) h0
    have hle := rN_le (X := X) (D := D) (nNow X)
    have hnn := (nNow_v hB).2
    have hv : vdZ X M W much D = vdR (vfZ X D) W much false false false (M (rN X D (nNow X))) := if_neg h0
    rw [hv]
    generalize rN X D (nNow X) = r at h0 hrul his hle
    obtain ⟨k, rfl⟩ : ∃ k, r = k + 1 := ⟨r - 1, by omega⟩
    have hk : k < C := by omega
    obtain ⟨cod, q1, q2, q3, q4, q5, q6, q7, q8⟩ := hM k hk his.2.1
    have hq6 : va_rf (wQQ q (ah k) 6) = .ref cod := by rw [wQQ_6 (b1 k hk).2.1, q1]; rfl
    show am_T _ _ 0 [some (.ref 60), some (.int (nI W)), some (.int much), some (.int (nI D)), none, none, none, none, none, none, none, none, none, none] _ _ _
    refine tv_b (pc' := 6) (ls' := [some (.ref 60), some (.int (nI W)), some (.int much), some (.int (nI D)), none, none, none, none, none, none, none, none, none, none]) (st' := [.int (nI D), .ref 60, .ref 55]) (h' := (n, sl, wKK kk, I, L, wQQ q)) 4 rfl ?_
    refine tv_cvE [.int (nI D)] [.ref 55] rfl rfl (by omega) rfl (Nat.le_of_ble_eq_true rfl) (Nat.le_of_ble_eq_true rfl) (Or.inr (Or.inr rfl)) (hrul _) ?_
    refine tv_cvE [.int (nI (k + 1))] [] rfl rfl (by omega) rfl (Nat.le_of_ble_eq_true rfl) (Nat.le_of_ble_eq_true rfl) (Or.inr (Or.inr rfl)) (ev_b_act b1 h2 hC2 hk) ?_
    refine tv_b (pc' := 21) (ls' := [some (.ref 60), some (.int (nI W)), some (.int much), some (.int (nI D)), some (.ref (ah k)), none, none, none, none, none, none, none, none, none]) (st' := [.ref (ah k)]) (h' := (n, sl, wKK kk, I, L, wQQ q)) 4 rfl ?_
    refine tv_gfq rfl (am_acK (b1 k hk).2) (hq6) ?_
    refine tv_b (pc' := 31) (ls' := [some (.ref 60), some (.int (nI W)), some (.int much), some (.int (nI D)), some (.ref (ah k)), none, none, none, none, none, none, none, none, none]) (st' := [.int (nI D), .ref 60]) (h' := (n, sl, wKK kk, I, L, wQQ q)) 3 rfl ?_
    refine tv_cvE [.int (nI D)] [] rfl rfl (by omega) rfl (Nat.le_of_ble_eq_true rfl) (Nat.le_of_ble_eq_true rfl) (Or.inr (Or.inr rfl)) (ev_j_lookAt hD hc hw hs hT hB hr hr1) ?_
    refine tv_b (pc' := 36) (ls' := [some (.ref 60), some (.int (nI W)), some (.int much), some (.int (nI D)), some (.ref (ah k)), none, none, none, none, none, none, none, none, none]) (st' := [.ref (ah k)]) (h' := (n, sl, wKK kk, (lkI I (nI D)), (lkL L (jL (tot X D)) (jL (mom X D (pS X D).2)) (jL (fcZ X D 0)) (jL (fcZ X D 1)) (jL (fcZ X D 2)) (jL (fcZ X D 3)) (jL (fcZ X D 4)) (jL (fcZ X D 5)) (jL (fcZ X D 6))), wQQ q)) 1 rfl ?_
    refine tv_gfq rfl (am_acK (b1 k hk).2) (hq6) ?_
    refine tv_b (pc' := 56) (ls' := [some (.ref 60), some (.int (nI W)), some (.int much), some (.int (nI D)), some (.ref (ah k)), some (.ref cod), some (.int 0), some (.int 0), some (.int 0), some (.int 0), some (.int 0), none, none, none]) (st' := []) (h' := (n, sl, wKK kk, (lkI I (nI D)), (lkL L (jL (tot X D)) (jL (mom X D (pS X D).2)) (jL (fcZ X D 0)) (jL (fcZ X D 1)) (jL (fcZ X D 2)) (jL (fcZ X D 3)) (jL (fcZ X D 4)) (jL (fcZ X D 5)) (jL (fcZ X D 6))), wQQ q)) 11 rfl ?_
    refine tv_hL jvL_self ?_
    have hld2 : ∀ c, c < 16777216 → ldF X D c = sp_d_loadOf (nI c) ((lkL L (jL (tot X D)) (jL (mom X D (pS X D).2)) (jL (fcZ X D 0)) (jL (fcZ X D 1)) (jL (fcZ X D 2)) (jL (fcZ X D 3)) (jL (fcZ X D 4)) (jL (fcZ X D 5)) (jL (fcZ X D 6))) 60 5) ((lkL L (jL (tot X D)) (jL (mom X D (pS X D).2)) (jL (fcZ X D 0)) (jL (fcZ X D 1)) (jL (fcZ X D 2)) (jL (fcZ X D 3)) (jL (fcZ X D 4)) (jL (fcZ X D 5)) (jL (fcZ X D 6))) 60 6) ((lkI I (nI D))) ((lkL L (jL (tot X D)) (jL (mom X D (pS X D).2)) (jL (fcZ X D 0)) (jL (fcZ X D 1)) (jL (fcZ X D 2)) (jL (fcZ X D 3)) (jL (fcZ X D 4)) (jL (fcZ X D 5)) (jL (fcZ X D 6)))) := fun c hc => by
      show _ = sp_d_loadOf (nI c) (jL (tot X D)) (jL (mom X D (pS X D).2)) _ _
      unfold ldF
      rw [if_pos hc]
      exact (cload_g hc (tot_b hT hB D) (mom_b hT hB D (pS_b hT hB D (by omega)).2)).symm
    have hfc2 : ∀ i, i < 7 → fcF X D i = (lkL L (jL (tot X D)) (jL (mom X D (pS X D).2)) (jL (fcZ X D 0)) (jL (fcZ X D 1)) (jL (fcZ X D 2)) (jL (fcZ X D 3)) (jL (fcZ X D 4)) (jL (fcZ X D 5)) (jL (fcZ X D 6))) 61 i := fun i hi => by
      have : i = 0 ∨ i = 1 ∨ i = 2 ∨ i = 3 ∨ i = 4 ∨ i = 5 ∨ i = 6 := by omega
      rcases this with z | z | z | z | z | z | z <;> subst z <;> rfl
    have hcell2 : ∀ j, j < (pa_flat (M (k + 1))).length → (lkI I (nI D)) cod (0 + j) = nI ((pa_flat (M (k + 1))).getD j 0) := fun j hj => by rw [Nat.zero_add, lkI_n (by omega)]; exact q6 j hj
    have hvd := tv_j_vd (d := d + 1) (n := n) (sl := sl) (q := q) (ac := ah k) (much := much) (day := nI D) (vf := vfZ X D) hW ⟨q2, q4⟩ (by omega) hld2 hfc2 (M (k + 1)) 0 0 false false false ((lkL L (jL (tot X D)) (jL (mom X D (pS X D).2)) (jL (fcZ X D 0)) (jL (fcZ X D 1)) (jL (fcZ X D 2)) (jL (fcZ X D 3)) (jL (fcZ X D 4)) (jL (fcZ X D 5)) (jL (fcZ X D 6))) 62) none none none hcell2 (Nat.zero_add _) (by omega) (fun t ht => ⟨(q8 t ht).1, (q8 t ht).2.1, by obtain ⟨rs, hrs⟩ := (q8 t ht).2.2; exact (vfZ_v hT hB hD hrs).1⟩)
    refine tv_w hvd (fun rv h9 ho => ⟨ho.1, ?_⟩)
    obtain ⟨w9, rfl⟩ := ho.2
    exact ⟨_, _, rfl, fun j hj => lkI_n hj, fun k hk => by show cond (Nat.beq k 4) (nI D) (I 60 k) = _; rw [rdI_nb hk]; rfl, fun j j1 j2 j3 => (jvL_n j3).trans (lkL_n j1 j2)⟩
