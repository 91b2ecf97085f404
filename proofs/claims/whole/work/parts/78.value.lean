/-! THE JUDGE'S VALUE -/
theorem jI_divp {a b : Int} (ha : bI a) (hb : bI b) (ha0 : 0 ≤ a) (hb0 : 0 < b) : jI a / jI b = jI (a / b) := by
  have h1 := Int.ediv_nonneg ha0 (show 0 ≤ b by omega)
  have h2 := Int.ediv_le_self b ha0
  have hh : bI (a / b) := by obtain ⟨h3, h4⟩ := ha; exact ⟨by omega, by omega⟩
  apply Int32.toInt_inj.mp
  rw [Int32.toInt_div_of_ne_left, jI_toInt ha, jI_toInt hb, jI_toInt hh, Int.tdiv_eq_ediv_of_nonneg ha0]
  intro e
  have := congrArg Int32.toInt e
  rw [jI_toInt ha] at this
  have e2 : (Int32.minValue).toInt = -2147483648 := by decide
  rw [e2] at this
  omega
theorem nI_div32 {c : Nat} (hc : c < 2147483648) : nI c / 32 = nI (c / 32) := by
  rw [nI_j, nI_j, show (32 : Int32) = jI 32 from rfl, jI_divp ⟨by omega, by omega⟩ ⟨by decide, by decide⟩ (by omega) (by decide)]
  exact congrArg jI (by omega)
theorem nI_rem32 {c : Nat} (hc : c < 2147483648) : nI c - nI c / 32 * 32 = nI (c % 32) := by
  rw [nI_div32 hc, nI_j, nI_j, nI_j, show (32 : Int32) = jI 32 from rfl, jI_mul, jI_sub]
  exact congrArg jI (by omega)
theorem nI_xor32 {c : Nat} (hc : c < 2147483648) : 0 ≤ nI c ^^^ 32 := by
  apply Int32.not_lt.mp
  intro h
  have k : ∀ z : Int32, z < 0 ↔ z.toBitVec.msb = true := by
    intro z
    rw [Int32.lt_iff_toInt_lt, BitVec.msb_eq_toInt]
    show z.toInt < 0 ↔ _
    rw [decide_eq_true_iff]
    rfl
  rw [k, Int32.toBitVec_xor, BitVec.msb_xor] at h
  have h1 : (nI c).toBitVec.msb = false := by
    apply Bool.eq_false_iff.mpr
    intro q
    exact nI_pos hc ((k _).mpr q)
  rw [h1] at h
  revert h
  decide
theorem pa_jnS_t {s : Nat} : pa_jnS s = true ↔ (22 ≤ s ∨ s = 7 ∨ s = 8 ∨ s = 19 ∨ s = 20) := by
  unfold pa_jnS
  have hb : ∀ k, Nat.beq s k = true ↔ s = k := fun k => ⟨Nat.eq_of_beq_eq_true, fun h => by subst h; exact Nat.beq_refl s⟩
  simp only [Bool.or_eq_true, Nat.ble_eq, hb]
  omega
theorem isJ_0 {s : Nat} (hs : s < 32) (h : ¬ (s = 7 ∨ s = 8 ∨ s = 19 ∨ s = 20)) : sp_j_isJoin (nI s) = 0 := by
  unfold sp_j_isJoin
  rw [if_neg (fun q => h (by have := (nI_eqI (a := s) (b := 8) (by omega) (by omega)).mp q; omega)), if_neg (fun q => h (by have := (nI_eqI (a := s) (b := 7) (by omega) (by omega)).mp q; omega)), if_neg (fun q => h (by have := (nI_eqI (a := s) (b := 19) (by omega) (by omega)).mp q; omega)), if_neg (fun q => h (by have := (nI_eqI (a := s) (b := 20) (by omega) (by omega)).mp q; omega))]
theorem isJ_1 {s : Nat} (h : s = 7 ∨ s = 8 ∨ s = 19 ∨ s = 20) : ¬ sp_j_isJoin (nI s) = 0 := by
  rcases h with rfl | rfl | rfl | rfl <;> decide
/-- a row holds a stack -/
def stR (w : Nat → Int64) : List Int64 → Prop
  | [] => True
  | v :: s => w s.length = v ∧ stR w s
theorem stR_up {w : Nat → Int64} {k : Nat} {x : Int64} : ∀ {s : List Int64}, s.length ≤ k → stR w s → stR (vp_updL w k x) s := by
  intro s
  induction s with
  | nil => intro _ _; trivial
  | cons v s ih =>
    intro hk h
    have e : (v :: s).length = s.length + 1 := rfl
    rw [e] at hk
    exact ⟨by rw [vu_n (by omega)]; exact h.1, ih (by omega) h.2⟩
theorem ev_fmod32 {d : Nat} {h : am_H} {c : Nat} (hc : c < 2147483648) : am_Ev d 247 0 (am_ent 3 [.int (nI c), .int 32]) [] h (some (.int (nI (c % 32))), h) := by
  refine tv_ev ?_
  show am_T _ _ 0 [some (.int (nI c)), some (.int 32), none] _ _ _
  refine tv_b (pc' := (if 0 ≤ ((nI c) ^^^ 32) then 18 else 10)) (ls' := [some (.int (nI c)), some (.int 32), some (.int ((nI c) - (nI c) / 32 * 32))]) (st' := []) (h' := h) 8 rfl ?_
  refine tv_t (nI_xor32 hc) ?_
  refine tv_b (pc' := 19) (ls' := [some (.int (nI c)), some (.int 32), some (.int ((nI c) - (nI c) / 32 * 32))]) (st' := [.int ((nI c) - (nI c) / 32 * 32)]) (h' := h) 1 rfl ?_
  exact tv_ri rfl ⟨by rw [nI_rem32 hc], rfl⟩
theorem ev_fdiv32 {d : Nat} {h : am_H} {c : Nat} (hc : c < 2147483648) : am_Ev d 245 0 (am_ent 3 [.int (nI c), .int 32]) [] h (some (.int (nI (c / 32))), h) := by
  refine tv_ev ?_
  show am_T _ _ 0 [some (.int (nI c)), some (.int 32), none] _ _ _
  refine tv_b (pc' := (if 0 ≤ ((nI c) ^^^ 32) then 21 else 10)) (ls' := [some (.int (nI c)), some (.int 32), some (.int ((nI c) / 32))]) (st' := []) (h' := h) 8 rfl ?_
  refine tv_t (nI_xor32 hc) ?_
  refine tv_b (pc' := 22) (ls' := [some (.int (nI c)), some (.int 32), some (.int ((nI c) / 32))]) (st' := [.int ((nI c) / 32)]) (h' := h) 1 rfl ?_
  exact tv_ri rfl ⟨by rw [nI_div32 hc], rfl⟩
def jvL (L : Nat → Nat → Int64) (w : Nat → Int64) (j i : Nat) : Int64 := cond (Nat.beq j 62) (w i) (L j i)
theorem jvL_nb : ∀ {i k : Nat}, ¬ i = k → Nat.beq i k = false := fun h => Bool.eq_false_iff.mpr (fun q => h (Nat.eq_of_beq_eq_true q))
theorem jvL_w_w {L : Nat → Nat → Int64} {w : Nat → Int64} {y : Int64} {k : Nat} : va_up (jvL L w) 62 (vp_updL ((jvL L w) 62) k y) = jvL L (vp_updL w k y) := by
  funext j i
  unfold va_up
  by_cases hj : j = 62
  · subst hj; rfl
  · rw [if_neg hj]; unfold jvL; simp only [jvL_nb hj, cond_false]
theorem jvL_n {L : Nat → Nat → Int64} {w : Nat → Int64} {j : Nat} (h : j ≠ 62) : jvL L w j = L j := by
  funext i
  unfold jvL
  rw [rdI_nb h]
  rfl
theorem jvL_self {L : Nat → Nat → Int64} : L = jvL L (L 62) := by
  funext j i
  unfold jvL
  by_cases h : j = 62
  · subst h; rfl
  · rw [rdI_nb h]; rfl
theorem ev_j_single {d n sl : Nat} {kk : Nat → Nat × Nat} {I : Nat → Nat → Int32} {L : Nat → Nat → Int64} {q : Nat → Nat → Option Nat} {w : Nat → Int64} {ld fc : Nat → Int64} {c : Nat} (hc : c / 32 < 16777216) (hld : ld (c / 32) = sp_d_loadOf (nI (c / 32)) (L 60 5) (L 60 6) I L) (hfc : ∀ i, i < 7 → fc i = L 61 i) (h9 : c % 32 ≠ 9) (hj : ¬ pa_jnS (c % 32) = true) : am_Ev (d + 2) 56 0 (am_ent 4 [.ref 60, .int (nI (c % 32)), .int (nI (c / 32))]) [] (n, sl, wKK kk, I, (jvL L w), wQQ q) (some (.long (pa_vC ld fc c)), (n, sl, wKK kk, I, (jvL L w), wQQ q)) := by
  refine tv_ev ?_
  rw [pa_jnS_t] at hj
  unfold pa_vC
  by_cases c21 : c % 32 = 21
  · rw [if_pos c21]
    show am_T _ _ 0 [some (.ref 60), some (.int (nI (c % 32))), some (.int (nI (c / 32))), none] _ _ _
    refine tv_b (pc' := (if (nI (c % 32)) = 21 then 6 else 9)) (ls' := [some (.ref 60), some (.int (nI (c % 32))), some (.int (nI (c / 32))), none]) (st' := []) (h' := (n, sl, wKK kk, I, (jvL L w), wQQ q)) 3 rfl ?_
    refine tv_t ((nI_eq (a := (c % 32)) (b := 21) (by omega) (by omega)).mpr (by omega)) ?_
    refine tv_b (pc' := 8) (ls' := [some (.ref 60), some (.int (nI (c % 32))), some (.int (nI (c / 32))), none]) (st' := [.long ((nI (c / 32)).toInt64)]) (h' := (n, sl, wKK kk, I, (jvL L w), wQQ q)) 2 rfl ?_
    exact tv_rl rfl ⟨by rw [nI_j, jI_64 ⟨by omega, by omega⟩, ← lN_j]; rfl, rfl⟩
  · rw [if_neg c21]
    by_cases c18 : c % 32 = 18
    · rw [if_pos c18]
      show am_T _ _ 0 [some (.ref 60), some (.int (nI (c % 32))), some (.int (nI (c / 32))), none] _ _ _
      refine tv_b (pc' := (if (nI (c % 32)) = 21 then 6 else 9)) (ls' := [some (.ref 60), some (.int (nI (c % 32))), some (.int (nI (c / 32))), none]) (st' := []) (h' := (n, sl, wKK kk, I, (jvL L w), wQQ q)) 3 rfl ?_
      refine tv_f (fun hq => absurd ((nI_eq (a := (c % 32)) (b := 21) (by omega) (by omega)).mp hq) (by omega)) ?_
      refine tv_b (pc' := (if (nI (c % 32)) = 18 then 15 else 32)) (ls' := [some (.ref 60), some (.int (nI (c % 32))), some (.int (nI (c / 32))), none]) (st' := []) (h' := (n, sl, wKK kk, I, (jvL L w), wQQ q)) 3 rfl ?_
      refine tv_t ((nI_eq (a := (c % 32)) (b := 18) (by omega) (by omega)).mpr (by omega)) ?_
      refine tv_b (pc' := 28) (ls' := [some (.ref 60), some (.int (nI (c % 32))), some (.int (nI (c / 32))), none]) (st' := [.long (L 60 6), .long (L 60 5), .int (nI (c / 32)), .ref 13]) (h' := (n, sl, wKK kk, I, (jvL L w), wQQ q)) 7 rfl ?_
      refine tv_cvE [.int (nI (c / 32)), .long (L 60 5), .long (L 60 6)] [] rfl rfl (by omega) rfl (Nat.le_of_ble_eq_true rfl) (Nat.le_of_ble_eq_true rfl) (Or.inr (Or.inr rfl)) (ev_d_loadOf) ?_
      exact tv_rl rfl ⟨by rw [hld]; rfl, rfl⟩
    · rw [if_neg c18]
      by_cases cf : 11 ≤ c % 32 ∧ c % 32 ≤ 17
      · rw [if_pos cf]
        show am_T _ _ 0 [some (.ref 60), some (.int (nI (c % 32))), some (.int (nI (c / 32))), none] _ _ _
        refine tv_b (pc' := (if (nI (c % 32)) = 21 then 6 else 9)) (ls' := [some (.ref 60), some (.int (nI (c % 32))), some (.int (nI (c / 32))), none]) (st' := []) (h' := (n, sl, wKK kk, I, (jvL L w), wQQ q)) 3 rfl ?_
        refine tv_f (fun hq => absurd ((nI_eq (a := (c % 32)) (b := 21) (by omega) (by omega)).mp hq) (by omega)) ?_
        refine tv_b (pc' := (if (nI (c % 32)) = 18 then 15 else 32)) (ls' := [some (.ref 60), some (.int (nI (c % 32))), some (.int (nI (c / 32))), none]) (st' := []) (h' := (n, sl, wKK kk, I, (jvL L w), wQQ q)) 3 rfl ?_
        refine tv_f (fun hq => absurd ((nI_eq (a := (c % 32)) (b := 18) (by omega) (by omega)).mp hq) (by omega)) ?_
        refine tv_b (pc' := 35) (ls' := [some (.ref 60), some (.int (nI (c % 32))), some (.int (nI (c / 32))), none]) (st' := [.int 11, .int (nI (c % 32))]) (h' := (n, sl, wKK kk, I, (jvL L w), wQQ q)) 2 rfl ?_
        refine tv_b (pc' := 36) (ls' := [some (.ref 60), some (.int (nI (c % 32))), some (.int (nI (c / 32))), none]) (st' := [.int ((nI (c % 32)) - 11)]) (h' := (n, sl, wKK kk, I, (jvL L w), wQQ q)) 1 rfl ?_
        refine tv_top (show (nI (c % 32)) - 11 = nI ((c % 32) - 11) from nI_sub (a := (c % 32)) (b := 11) (by omega)) ?_
        refine tv_b (pc' := (if (nI ((c % 32) - 11)) < 0 then 59 else 41)) (ls' := [some (.ref 60), some (.int (nI (c % 32))), some (.int (nI (c / 32))), some (.int (nI ((c % 32) - 11)))]) (st' := []) (h' := (n, sl, wKK kk, I, (jvL L w), wQQ q)) 3 rfl ?_
        refine tv_f (fun hq => absurd ((nI_ltI (a := (c % 32) - 11) (b := 0) (by omega) (by omega)).mp hq) (by omega)) ?_
        refine tv_b (pc' := (if 7 ≤ (nI ((c % 32) - 11)) then 59 else 50)) (ls' := [some (.ref 60), some (.int (nI (c % 32))), some (.int (nI (c / 32))), some (.int (nI ((c % 32) - 11)))]) (st' := []) (h' := (n, sl, wKK kk, I, (jvL L w), wQQ q)) 5 rfl ?_
        refine tv_f (fun hq => absurd ((nI_leI (a := 7) (b := (c % 32) - 11) (by omega) (by omega)).mp hq) (by omega)) ?_
        refine tv_b (pc' := 55) (ls' := [some (.ref 60), some (.int (nI (c % 32))), some (.int (nI (c / 32))), some (.int (nI ((c % 32) - 11)))]) (st' := [.int (nI ((c % 32) - 11)), .ref 61]) (h' := (n, sl, wKK kk, I, (jvL L w), wQQ q)) 3 rfl ?_
        refine tv_lalN (k := ((c % 32) - 11)) rfl (rfl) (⟨by omega, by omega⟩) ?_
        refine tv_b (pc' := 60) (ls' := [some (.ref 60), some (.int (nI (c % 32))), some (.int (nI (c / 32))), some (.int (nI ((c % 32) - 11)))]) (st' := [.long (L 61 ((c % 32) - 11))]) (h' := (n, sl, wKK kk, I, (jvL L w), wQQ q)) 1 rfl ?_
        exact tv_rl rfl ⟨by rw [hfc _ (by omega)], rfl⟩
      · rw [if_neg cf]
        have hlt : nI (c % 32) - 11 < 0 := by
          generalize hz : c % 32 = z at *
          have : z = 0 ∨ z = 1 ∨ z = 2 ∨ z = 3 ∨ z = 4 ∨ z = 5 ∨ z = 6 ∨ z = 10 := by omega
          rcases this with rfl | rfl | rfl | rfl | rfl | rfl | rfl | rfl <;> decide
        show am_T _ _ 0 [some (.ref 60), some (.int (nI (c % 32))), some (.int (nI (c / 32))), none] _ _ _
        refine tv_b (pc' := (if (nI (c % 32)) = 21 then 6 else 9)) (ls' := [some (.ref 60), some (.int (nI (c % 32))), some (.int (nI (c / 32))), none]) (st' := []) (h' := (n, sl, wKK kk, I, (jvL L w), wQQ q)) 3 rfl ?_
        refine tv_f (fun hq => absurd ((nI_eq (a := (c % 32)) (b := 21) (by omega) (by omega)).mp hq) (by omega)) ?_
        refine tv_b (pc' := (if (nI (c % 32)) = 18 then 15 else 32)) (ls' := [some (.ref 60), some (.int (nI (c % 32))), some (.int (nI (c / 32))), none]) (st' := []) (h' := (n, sl, wKK kk, I, (jvL L w), wQQ q)) 3 rfl ?_
        refine tv_f (fun hq => absurd ((nI_eq (a := (c % 32)) (b := 18) (by omega) (by omega)).mp hq) (by omega)) ?_
        refine tv_b (pc' := (if ((nI (c % 32)) - 11) < 0 then 59 else 41)) (ls' := [some (.ref 60), some (.int (nI (c % 32))), some (.int (nI (c / 32))), some (.int ((nI (c % 32)) - 11))]) (st' := []) (h' := (n, sl, wKK kk, I, (jvL L w), wQQ q)) 6 rfl ?_
        refine tv_t (hlt) ?_
        refine tv_b (pc' := 60) (ls' := [some (.ref 60), some (.int (nI (c % 32))), some (.int (nI (c / 32))), some (.int ((nI (c % 32)) - 11))]) (st' := [.long 1]) (h' := (n, sl, wKK kk, I, (jvL L w), wQQ q)) 1 rfl ?_
        exact tv_rl rfl ⟨rfl, rfl⟩
theorem ev_j_join1 {d n sl : Nat} {kk : Nat → Nat × Nat} {I : Nat → Nat → Int32} {L : Nat → Nat → Int64} {q : Nat → Nat → Option Nat} {w : Nat → Int64} {k : Nat} (hk : k < 64) : am_Ev (d + 3) 57 0 (am_ent 3 [.ref 60, .int 9, .int (nI (k + 1))]) [] (n, sl, wKK kk, I, (jvL L w), wQQ q) (some (.int (nI (k + 1))), (n, sl, wKK kk, I, (jvL L (vp_updL w k (1 - w k))), wQQ q)) := by
  refine tv_ev ?_
  show am_T _ _ 0 [some (.ref 60), some (.int 9), some (.int (nI (k + 1)))] _ _ _
  refine tv_b (pc' := (if (nI (k + 1)) < 1 then 14 else 5)) (ls' := [some (.ref 60), some (.int 9), some (.int (nI (k + 1)))]) (st' := []) (h' := (n, sl, wKK kk, I, (jvL L w), wQQ q)) 3 rfl ?_
  refine tv_f (fun hq => absurd ((nI_ltI (a := (k + 1)) (b := 1) (by omega) (by omega)).mp hq) (by omega)) ?_
  refine tv_b (pc' := (if (nI (k + 1)) ≤ 64 then 16 else 14)) (ls' := [some (.ref 60), some (.int 9), some (.int (nI (k + 1)))]) (st' := []) (h' := (n, sl, wKK kk, I, (jvL L w), wQQ q)) 5 rfl ?_
  refine tv_t ((nI_leI (a := (k + 1)) (b := 64) (by omega) (by omega)).mpr (by omega)) ?_
  refine tv_b (pc' := 28) (ls' := [some (.ref 60), some (.int 9), some (.int (nI (k + 1)))]) (st' := [.int 1, .int (nI (k + 1)), .ref 62]) (h' := (n, sl, wKK kk, I, (jvL L w), wQQ q)) 7 rfl ?_
  refine tv_b (pc' := 29) (ls' := [some (.ref 60), some (.int 9), some (.int (nI (k + 1)))]) (st' := [.int ((nI (k + 1)) - 1), .ref 62]) (h' := (n, sl, wKK kk, I, (jvL L w), wQQ q)) 1 rfl ?_
  refine tv_top (show (nI (k + 1)) - 1 = nI k from nI_sub (a := (k + 1)) (b := 1) (by omega)) ?_
  refine tv_b (pc' := 36) (ls' := [some (.ref 60), some (.int 9), some (.int (nI (k + 1)))]) (st' := [.int 1, .int (nI (k + 1)), .ref 62, .long 1, .int (nI k), .ref 62]) (h' := (n, sl, wKK kk, I, (jvL L w), wQQ q)) 5 rfl ?_
  refine tv_b (pc' := 37) (ls' := [some (.ref 60), some (.int 9), some (.int (nI (k + 1)))]) (st' := [.int ((nI (k + 1)) - 1), .ref 62, .long 1, .int (nI k), .ref 62]) (h' := (n, sl, wKK kk, I, (jvL L w), wQQ q)) 1 rfl ?_
  refine tv_top (show (nI (k + 1)) - 1 = nI k from nI_sub (a := (k + 1)) (b := 1) (by omega)) ?_
  refine tv_lalN (k := k) rfl (rfl) (⟨by omega, by omega⟩) ?_
  refine tv_b (pc' := 39) (ls' := [some (.ref 60), some (.int 9), some (.int (nI (k + 1)))]) (st' := [.long (1 - (w k)), .int (nI k), .ref 62]) (h' := (n, sl, wKK kk, I, (jvL L w), wQQ q)) 1 rfl ?_
  refine tv_lasN (k := k) rfl (rfl) (⟨by omega, by omega⟩) ?_
  refine tv_hL jvL_w_w ?_
  refine tv_b (pc' := 41) (ls' := [some (.ref 60), some (.int 9), some (.int (nI (k + 1)))]) (st' := [.int (nI (k + 1))]) (h' := (n, sl, wKK kk, I, (jvL L (vp_updL w k (1 - (w k)))), wQQ q)) 1 rfl ?_
  exact tv_ri rfl ⟨rfl, rfl⟩
theorem ev_j_join2 {d n sl : Nat} {kk : Nat → Nat × Nat} {I : Nat → Nat → Int32} {L : Nat → Nat → Int64} {q : Nat → Nat → Option Nat} {w : Nat → Int64} {k t : Nat} (hk : k + 1 < 64) (ht9 : t ≠ 9) (ht32 : t < 32) (hj : pa_jnS t = true) : am_Ev (d + 3) 57 0 (am_ent 3 [.ref 60, .int (nI t), .int (nI (k + 2))]) [] (n, sl, wKK kk, I, (jvL L w), wQQ q) (some (.int (nI (k + 1))), (n, sl, wKK kk, I, (jvL L (vp_updL w k (jnC t (w k) (w (k + 1))))), wQQ q)) := by
  refine tv_ev ?_
  rw [pa_jnS_t] at hj
  show am_T _ _ 0 [some (.ref 60), some (.int (nI t)), some (.int (nI (k + 2)))] _ _ _
  refine tv_b (pc' := (if (nI (k + 2)) < 1 then 14 else 5)) (ls' := [some (.ref 60), some (.int (nI t)), some (.int (nI (k + 2)))]) (st' := []) (h' := (n, sl, wKK kk, I, (jvL L w), wQQ q)) 3 rfl ?_
  refine tv_f (fun hq => absurd ((nI_ltI (a := (k + 2)) (b := 1) (by omega) (by omega)).mp hq) (by omega)) ?_
  refine tv_b (pc' := (if (nI (k + 2)) ≤ 64 then 16 else 14)) (ls' := [some (.ref 60), some (.int (nI t)), some (.int (nI (k + 2)))]) (st' := []) (h' := (n, sl, wKK kk, I, (jvL L w), wQQ q)) 5 rfl ?_
  refine tv_t ((nI_leI (a := (k + 2)) (b := 64) (by omega) (by omega)).mpr (by omega)) ?_
  refine tv_b (pc' := (if (nI t) = 9 then 22 else 42)) (ls' := [some (.ref 60), some (.int (nI t)), some (.int (nI (k + 2)))]) (st' := []) (h' := (n, sl, wKK kk, I, (jvL L w), wQQ q)) 3 rfl ?_
  refine tv_f (fun hq => absurd ((nI_eq (a := t) (b := 9) (by omega) (by omega)).mp hq) (by omega)) ?_
  refine tv_b (pc' := (if 2 ≤ (nI (k + 2)) then 49 else 47)) (ls' := [some (.ref 60), some (.int (nI t)), some (.int (nI (k + 2)))]) (st' := []) (h' := (n, sl, wKK kk, I, (jvL L w), wQQ q)) 3 rfl ?_
  refine tv_t ((nI_leI (a := 2) (b := (k + 2)) (by omega) (by omega)).mpr (by omega)) ?_
  refine tv_b (pc' := 55) (ls' := [some (.ref 60), some (.int (nI t)), some (.int (nI (k + 2)))]) (st' := [.int 2, .int (nI (k + 2)), .ref 62]) (h' := (n, sl, wKK kk, I, (jvL L w), wQQ q)) 4 rfl ?_
  refine tv_b (pc' := 56) (ls' := [some (.ref 60), some (.int (nI t)), some (.int (nI (k + 2)))]) (st' := [.int ((nI (k + 2)) - 2), .ref 62]) (h' := (n, sl, wKK kk, I, (jvL L w), wQQ q)) 1 rfl ?_
  refine tv_top (show (nI (k + 2)) - 2 = nI k from nI_sub (a := (k + 2)) (b := 2) (by omega)) ?_
  refine tv_b (pc' := 63) (ls' := [some (.ref 60), some (.int (nI t)), some (.int (nI (k + 2)))]) (st' := [.int 2, .int (nI (k + 2)), .ref 62, .int (nI t), .int (nI k), .ref 62]) (h' := (n, sl, wKK kk, I, (jvL L w), wQQ q)) 5 rfl ?_
  refine tv_b (pc' := 64) (ls' := [some (.ref 60), some (.int (nI t)), some (.int (nI (k + 2)))]) (st' := [.int ((nI (k + 2)) - 2), .ref 62, .int (nI t), .int (nI k), .ref 62]) (h' := (n, sl, wKK kk, I, (jvL L w), wQQ q)) 1 rfl ?_
  refine tv_top (show (nI (k + 2)) - 2 = nI k from nI_sub (a := (k + 2)) (b := 2) (by omega)) ?_
  refine tv_lalN (k := k) rfl (rfl) (⟨by omega, by omega⟩) ?_
  refine tv_b (pc' := 71) (ls' := [some (.ref 60), some (.int (nI t)), some (.int (nI (k + 2)))]) (st' := [.int 1, .int (nI (k + 2)), .ref 62, .long (w k), .int (nI t), .int (nI k), .ref 62]) (h' := (n, sl, wKK kk, I, (jvL L w), wQQ q)) 4 rfl ?_
  refine tv_b (pc' := 72) (ls' := [some (.ref 60), some (.int (nI t)), some (.int (nI (k + 2)))]) (st' := [.int ((nI (k + 2)) - 1), .ref 62, .long (w k), .int (nI t), .int (nI k), .ref 62]) (h' := (n, sl, wKK kk, I, (jvL L w), wQQ q)) 1 rfl ?_
  refine tv_top (show (nI (k + 2)) - 1 = nI ((k + 2) - 1) from nI_sub (a := (k + 2)) (b := 1) (by omega)) ?_
  refine tv_lalN (k := ((k + 2) - 1)) rfl (rfl) (⟨by omega, by omega⟩) ?_
  refine tv_csE [.int (nI t), .long (w k), .long (w ((k + 2) - 1))] [.int (nI k), .ref 62] rfl rfl (by omega) rfl (Nat.le_of_ble_eq_true rfl) (Nat.le_of_ble_eq_true rfl) (ev_j_joined (by omega)) ?_
  refine tv_lasN (k := k) rfl (rfl) (⟨by omega, by omega⟩) ?_
  refine tv_hL jvL_w_w ?_
  refine tv_b (pc' := 79) (ls' := [some (.ref 60), some (.int (nI t)), some (.int (nI (k + 2)))]) (st' := [.int 1, .int (nI (k + 2))]) (h' := (n, sl, wKK kk, I, (jvL L (vp_updL w k (jnC t (w k) (w ((k + 2) - 1))))), wQQ q)) 2 rfl ?_
  refine tv_b (pc' := 80) (ls' := [some (.ref 60), some (.int (nI t)), some (.int (nI (k + 2)))]) (st' := [.int ((nI (k + 2)) - 1)]) (h' := (n, sl, wKK kk, I, (jvL L (vp_updL w k (jnC t (w k) (w ((k + 2) - 1))))), wQQ q)) 1 rfl ?_
  refine tv_top (show (nI (k + 2)) - 1 = nI ((k + 2) - 1) from nI_sub (a := (k + 2)) (b := 1) (by omega)) ?_
  exact tv_ri rfl ⟨rfl, rfl⟩
theorem tv_j_vl {d n sl : Nat} {kk : Nat → Nat × Nat} {I : Nat → Nat → Int32} {L : Nat → Nat → Int64} {q : Nat → Nat → Option Nat} {cod len F TO : Nat} {ld fc : Nat → Int64} {v : Int64} (hcod : 131 ≤ cod ∧ kk cod = (20, len)) (hlen : len ≤ 200000) (hTO : TO ≤ len) (hld : ∀ c, c < 16777216 → ld c = sp_d_loadOf (nI c) (L 60 5) (L 60 6) I L) (hfc : ∀ i, i < 7 → fc i = L 61 i) : ∀ (cs : List Nat) (i : Nat) (st : List Int64) (w : Nat → Int64) (o6 : Option Value), (∀ j, j < cs.length → I cod (i + j) = nI (cs.getD j 0)) → i + cs.length = TO → st.length ≤ 64 → pa_evC ld fc jnC cs st = some [v] → stR w st → am_T (d + 4) 54 10 [some (.ref 60), some (.ref cod), some (.int (nI F)), some (.int (nI TO)), some (.int (nI st.length)), some (.int (nI i)), o6] [] (n, sl, wKK kk, I, (jvL L w), wQQ q) (fun rv h' => rv = some (.long v) ∧ ∃ w', h' = (n, sl, wKK kk, I, (jvL L w'), wQQ q)) := by
  have hKc : wKK kk cod = (20, len) := (wKK_hi hcod.1).trans hcod.2
  intro cs
  induction cs with
  | nil =>
    intro i st w o6 hcell hi h64 hev hst
    have hi2 : i = TO := by have : ([] : List Nat).length = 0 := rfl; omega
    have hst2 : st = [v] := Option.some.inj hev
    subst hst2
    have hv : w 0 = v := hst.1
    show am_T _ _ 10 [some (.ref 60), some (.ref cod), some (.int (nI F)), some (.int (nI TO)), some (.int (nI 1)), some (.int (nI i)), o6] _ _ _
    refine tv_b (pc' := (if (nI TO) ≤ (nI i) then 110 else 16)) (ls' := [some (.ref 60), some (.ref cod), some (.int (nI F)), some (.int (nI TO)), some (.int (nI 1)), some (.int (nI i)), o6]) (st' := []) (h' := (n, sl, wKK kk, I, (jvL L w), wQQ q)) 3 rfl ?_
    refine tv_t ((nI_leI (a := TO) (b := i) (by omega) (by omega)).mpr (by omega)) ?_
    refine tv_b (pc' := (if (nI 1) ≤ 0 then 124 else 115)) (ls' := [some (.ref 60), some (.ref cod), some (.int (nI F)), some (.int (nI TO)), some (.int (nI 1)), some (.int (nI i)), o6]) (st' := []) (h' := (n, sl, wKK kk, I, (jvL L w), wQQ q)) 2 rfl ?_
    refine tv_f (fun hq => absurd ((nI_leI (a := 1) (b := 0) (by omega) (by omega)).mp hq) (by omega)) ?_
    refine tv_b (pc' := 125) (ls' := [some (.ref 60), some (.ref cod), some (.int (nI F)), some (.int (nI TO)), some (.int (nI 1)), some (.int (nI i)), o6]) (st' := [.long (w 0)]) (h' := (n, sl, wKK kk, I, (jvL L w), wQQ q)) 5 rfl ?_
    exact tv_rl rfl ⟨by rw [hv], w, rfl⟩
  | cons c cs ih =>
    intro i st w o6 hcell hi h64 hev hst
    have el : (c :: cs).length = cs.length + 1 := rfl
    rw [el] at hi
    have hc : I cod i = nI c := hcell 0 (by omega)
    have hcell2 : ∀ j, j < cs.length → I cod (i + 1 + j) = nI (cs.getD j 0) := fun j hj => by rw [show i + 1 + j = i + (j + 1) by omega]; exact hcell (j + 1) (by omega)
    have hev2 : (match pa_c1 ld fc jnC c st with
      | some st' => pa_evC ld fc jnC cs st'
      | none => none) = some [v] := hev
    unfold pa_c1 at hev2
    by_cases hcg : c / 32 < 16777216
    · rw [if_pos hcg] at hev2
      by_cases h9 : c % 32 = 9
      · rw [if_pos h9] at hev2
        cases st with
        | nil => cases hev2
        | cons x r =>
          simp only at hev2
          by_cases hx : x = 0 ∨ x = 1
          · rw [if_pos hx] at hev2
            simp only at hev2
            have hl1 : (x :: r).length = r.length + 1 := rfl
            rw [hl1] at h64 ⊢
            have ih2 := fun o6 => ih (i + 1) ((1 - x) :: r) (vp_updL w r.length (1 - w r.length)) o6 hcell2 (by omega) (by rw [show ((1 - x) :: r).length = r.length + 1 from rfl]; omega) hev2 ⟨by rw [vu_e, hst.1], stR_up (Nat.le_refl _) hst.2⟩
            refine tv_b (pc' := (if (nI TO) ≤ (nI i) then 110 else 16)) (ls' := [some (.ref 60), some (.ref cod), some (.int (nI F)), some (.int (nI TO)), some (.int (nI (r.length + 1))), some (.int (nI i)), o6]) (st' := []) (h' := (n, sl, wKK kk, I, (jvL L w), wQQ q)) 3 rfl ?_
            refine tv_f (fun hq => absurd ((nI_leI (a := TO) (b := i) (by omega) (by omega)).mp hq) (by omega)) ?_
            refine tv_b (pc' := 19) (ls' := [some (.ref 60), some (.ref cod), some (.int (nI F)), some (.int (nI TO)), some (.int (nI (r.length + 1))), some (.int (nI i)), o6]) (st' := [.ref cod, .int (nI i)]) (h' := (n, sl, wKK kk, I, (jvL L w), wQQ q)) 2 rfl ?_
            refine tv_len rfl hKc (by decide) ?_
            refine tv_b (pc' := (if (nI len) ≤ (nI i) then 110 else 23)) (ls' := [some (.ref 60), some (.ref cod), some (.int (nI F)), some (.int (nI TO)), some (.int (nI (r.length + 1))), some (.int (nI i)), o6]) (st' := []) (h' := (n, sl, wKK kk, I, (jvL L w), wQQ q)) 1 rfl ?_
            refine tv_f (fun hq => absurd ((nI_leI (a := len) (b := i) (by omega) (by omega)).mp hq) (by omega)) ?_
            refine tv_b (pc' := 26) (ls' := [some (.ref 60), some (.ref cod), some (.int (nI F)), some (.int (nI TO)), some (.int (nI (r.length + 1))), some (.int (nI i)), o6]) (st' := [.int (nI i), .ref cod]) (h' := (n, sl, wKK kk, I, (jvL L w), wQQ q)) 2 rfl ?_
            refine tv_ialN (k := i) rfl (hKc) (⟨by omega, by omega⟩) ?_
            refine tv_top (hc) ?_
            refine tv_b (pc' := 29) (ls' := [some (.ref 60), some (.ref cod), some (.int (nI F)), some (.int (nI TO)), some (.int (nI (r.length + 1))), some (.int (nI i)), o6]) (st' := [.int 32, .int (nI c)]) (h' := (n, sl, wKK kk, I, (jvL L w), wQQ q)) 1 rfl ?_
            refine tv_csE [.int (nI c), .int 32] [] rfl rfl (by omega) rfl (Nat.le_of_ble_eq_true rfl) (Nat.le_of_ble_eq_true rfl) (ev_fmod32 (by omega)) ?_
            refine tv_b (pc' := (if (nI (c % 32)) = 9 then 56 else 41)) (ls' := [some (.ref 60), some (.ref cod), some (.int (nI F)), some (.int (nI TO)), some (.int (nI (r.length + 1))), some (.int (nI i)), some (.int (nI (c % 32)))]) (st' := []) (h' := (n, sl, wKK kk, I, (jvL L w), wQQ q)) 4 rfl ?_
            refine tv_t ((nI_eq (a := (c % 32)) (b := 9) (by omega) (by omega)).mpr (by omega)) ?_
            refine tv_b (pc' := 61) (ls' := [some (.ref 60), some (.ref cod), some (.int (nI F)), some (.int (nI TO)), some (.int (nI (r.length + 1))), some (.int (nI i)), some (.int (nI (c % 32)))]) (st' := [.int (nI (r.length + 1)), .int (nI (c % 32)), .ref 60]) (h' := (n, sl, wKK kk, I, (jvL L w), wQQ q)) 3 rfl ?_
            refine tv_cvE [.int (nI (c % 32)), .int (nI (r.length + 1))] [] rfl rfl (by omega) rfl (Nat.le_of_ble_eq_true rfl) (Nat.le_of_ble_eq_true rfl) (Or.inr (Or.inr rfl)) ((by rw [h9]; exact ev_j_join1 (by omega))) ?_
            refine tv_b (pc' := 104) (ls' := [some (.ref 60), some (.ref cod), some (.int (nI F)), some (.int (nI TO)), some (.int (nI (r.length + 1))), some (.int (nI i)), some (.int (nI (c % 32)))]) (st' := []) (h' := (n, sl, wKK kk, I, (jvL L (vp_updL w r.length (1 - w r.length))), wQQ q)) 2 rfl ?_
            refine tv_iincN (k := i) (ls' := [some (.ref 60), some (.ref cod), some (.int (nI F)), some (.int (nI TO)), some (.int (nI (r.length + 1))), some (.int (nI (i + 1))), some (.int (nI (c % 32)))]) rfl rfl rfl ?_
            refine tv_b (pc' := 10) (ls' := [some (.ref 60), some (.ref cod), some (.int (nI F)), some (.int (nI TO)), some (.int (nI (r.length + 1))), some (.int (nI (i + 1))), some (.int (nI (c % 32)))]) (st' := []) (h' := (n, sl, wKK kk, I, (jvL L (vp_updL w r.length (1 - w r.length))), wQQ q)) 1 rfl ?_
            exact ih2 _
          · rw [if_neg hx] at hev2; cases hev2
      · rw [if_neg h9] at hev2
        by_cases hj : pa_jnS (c % 32) = true
        · rw [if_pos hj] at hev2
          cases st with
          | nil => cases hev2
          | cons y st =>
            cases st with
            | nil => cases hev2
            | cons x r =>
              simp only at hev2
              by_cases hx : pa_ok (c % 32) x y = true
              · rw [if_pos hx] at hev2
                simp only at hev2
                have hl1 : (y :: x :: r).length = r.length + 2 := rfl
                rw [hl1] at h64 ⊢
                have hx1 : w r.length = x := hst.2.1
                have hy1 : w (r.length + 1) = y := hst.1
                have ih2 := fun o6 => ih (i + 1) (jnC (c % 32) x y :: r) (vp_updL w r.length (jnC (c % 32) (w r.length) (w (r.length + 1)))) o6 hcell2 (by omega) (by rw [show (jnC (c % 32) x y :: r).length = r.length + 1 from rfl]; omega) hev2 ⟨by rw [vu_e, hx1, hy1], stR_up (Nat.le_refl _) hst.2.2⟩
                have hj2 := pa_jnS_t.mp hj
                refine tv_b (pc' := (if (nI TO) ≤ (nI i) then 110 else 16)) (ls' := [some (.ref 60), some (.ref cod), some (.int (nI F)), some (.int (nI TO)), some (.int (nI (r.length + 2))), some (.int (nI i)), o6]) (st' := []) (h' := (n, sl, wKK kk, I, (jvL L w), wQQ q)) 3 rfl ?_
                refine tv_f (fun hq => absurd ((nI_leI (a := TO) (b := i) (by omega) (by omega)).mp hq) (by omega)) ?_
                refine tv_b (pc' := 19) (ls' := [some (.ref 60), some (.ref cod), some (.int (nI F)), some (.int (nI TO)), some (.int (nI (r.length + 2))), some (.int (nI i)), o6]) (st' := [.ref cod, .int (nI i)]) (h' := (n, sl, wKK kk, I, (jvL L w), wQQ q)) 2 rfl ?_
                refine tv_len rfl hKc (by decide) ?_
                refine tv_b (pc' := (if (nI len) ≤ (nI i) then 110 else 23)) (ls' := [some (.ref 60), some (.ref cod), some (.int (nI F)), some (.int (nI TO)), some (.int (nI (r.length + 2))), some (.int (nI i)), o6]) (st' := []) (h' := (n, sl, wKK kk, I, (jvL L w), wQQ q)) 1 rfl ?_
                refine tv_f (fun hq => absurd ((nI_leI (a := len) (b := i) (by omega) (by omega)).mp hq) (by omega)) ?_
                refine tv_b (pc' := 26) (ls' := [some (.ref 60), some (.ref cod), some (.int (nI F)), some (.int (nI TO)), some (.int (nI (r.length + 2))), some (.int (nI i)), o6]) (st' := [.int (nI i), .ref cod]) (h' := (n, sl, wKK kk, I, (jvL L w), wQQ q)) 2 rfl ?_
                refine tv_ialN (k := i) rfl (hKc) (⟨by omega, by omega⟩) ?_
                refine tv_top (hc) ?_
                refine tv_b (pc' := 29) (ls' := [some (.ref 60), some (.ref cod), some (.int (nI F)), some (.int (nI TO)), some (.int (nI (r.length + 2))), some (.int (nI i)), o6]) (st' := [.int 32, .int (nI c)]) (h' := (n, sl, wKK kk, I, (jvL L w), wQQ q)) 1 rfl ?_
                refine tv_csE [.int (nI c), .int 32] [] rfl rfl (by omega) rfl (Nat.le_of_ble_eq_true rfl) (Nat.le_of_ble_eq_true rfl) (ev_fmod32 (by omega)) ?_
                refine tv_b (pc' := (if (nI (c % 32)) = 9 then 56 else 41)) (ls' := [some (.ref 60), some (.ref cod), some (.int (nI F)), some (.int (nI TO)), some (.int (nI (r.length + 2))), some (.int (nI i)), some (.int (nI (c % 32)))]) (st' := []) (h' := (n, sl, wKK kk, I, (jvL L w), wQQ q)) 4 rfl ?_
                refine tv_f (fun hq => absurd ((nI_eq (a := (c % 32)) (b := 9) (by omega) (by omega)).mp hq) (by omega)) ?_
                refine tv_b (pc' := (if 22 ≤ (nI (c % 32)) then 56 else 48)) (ls' := [some (.ref 60), some (.ref cod), some (.int (nI F)), some (.int (nI TO)), some (.int (nI (r.length + 2))), some (.int (nI i)), some (.int (nI (c % 32)))]) (st' := []) (h' := (n, sl, wKK kk, I, (jvL L w), wQQ q)) 3 rfl ?_
                refine tv_ifq (nI_leI (a := 22) (b := (c % 32)) (by omega) (by omega)) (fun c45 => ?_) (fun c45 => ?_)
                · refine tv_b (pc' := 61) (ls' := [some (.ref 60), some (.ref cod), some (.int (nI F)), some (.int (nI TO)), some (.int (nI (r.length + 2))), some (.int (nI i)), some (.int (nI (c % 32)))]) (st' := [.int (nI (r.length + 2)), .int (nI (c % 32)), .ref 60]) (h' := (n, sl, wKK kk, I, (jvL L w), wQQ q)) 3 rfl ?_
                  refine tv_cvE [.int (nI (c % 32)), .int (nI (r.length + 2))] [] rfl rfl (by omega) rfl (Nat.le_of_ble_eq_true rfl) (Nat.le_of_ble_eq_true rfl) (Or.inr (Or.inr rfl)) (ev_j_join2 (by omega) h9 (by omega) hj) ?_
                  refine tv_b (pc' := 104) (ls' := [some (.ref 60), some (.ref cod), some (.int (nI F)), some (.int (nI TO)), some (.int (nI (r.length + 1))), some (.int (nI i)), some (.int (nI (c % 32)))]) (st' := []) (h' := (n, sl, wKK kk, I, (jvL L (vp_updL w r.length (jnC (c % 32) (w r.length) (w (r.length + 1))))), wQQ q)) 2 rfl ?_
                  refine tv_iincN (k := i) (ls' := [some (.ref 60), some (.ref cod), some (.int (nI F)), some (.int (nI TO)), some (.int (nI (r.length + 1))), some (.int (nI (i + 1))), some (.int (nI (c % 32)))]) rfl rfl rfl ?_
                  refine tv_b (pc' := 10) (ls' := [some (.ref 60), some (.ref cod), some (.int (nI F)), some (.int (nI TO)), some (.int (nI (r.length + 1))), some (.int (nI (i + 1))), some (.int (nI (c % 32)))]) (st' := []) (h' := (n, sl, wKK kk, I, (jvL L (vp_updL w r.length (jnC (c % 32) (w r.length) (w (r.length + 1))))), wQQ q)) 1 rfl ?_
                  exact ih2 _
                · refine tv_b (pc' := 50) (ls' := [some (.ref 60), some (.ref cod), some (.int (nI F)), some (.int (nI TO)), some (.int (nI (r.length + 2))), some (.int (nI i)), some (.int (nI (c % 32)))]) (st' := [.int (nI (c % 32))]) (h' := (n, sl, wKK kk, I, (jvL L w), wQQ q)) 1 rfl ?_
                  refine tv_csE [.int (nI (c % 32))] [] rfl rfl (by omega) rfl (Nat.le_of_ble_eq_true rfl) (Nat.le_of_ble_eq_true rfl) (ev_j_isJoin) ?_
                  refine tv_b (pc' := (if (sp_j_isJoin (nI (c % 32))) = 0 then 69 else 56)) (ls' := [some (.ref 60), some (.ref cod), some (.int (nI F)), some (.int (nI TO)), some (.int (nI (r.length + 2))), some (.int (nI i)), some (.int (nI (c % 32)))]) (st' := []) (h' := (n, sl, wKK kk, I, (jvL L w), wQQ q)) 1 rfl ?_
                  refine tv_f (isJ_1 (by omega)) ?_
                  refine tv_b (pc' := 61) (ls' := [some (.ref 60), some (.ref cod), some (.int (nI F)), some (.int (nI TO)), some (.int (nI (r.length + 2))), some (.int (nI i)), some (.int (nI (c % 32)))]) (st' := [.int (nI (r.length + 2)), .int (nI (c % 32)), .ref 60]) (h' := (n, sl, wKK kk, I, (jvL L w), wQQ q)) 3 rfl ?_
                  refine tv_cvE [.int (nI (c % 32)), .int (nI (r.length + 2))] [] rfl rfl (by omega) rfl (Nat.le_of_ble_eq_true rfl) (Nat.le_of_ble_eq_true rfl) (Or.inr (Or.inr rfl)) (ev_j_join2 (by omega) h9 (by omega) hj) ?_
                  refine tv_b (pc' := 104) (ls' := [some (.ref 60), some (.ref cod), some (.int (nI F)), some (.int (nI TO)), some (.int (nI (r.length + 1))), some (.int (nI i)), some (.int (nI (c % 32)))]) (st' := []) (h' := (n, sl, wKK kk, I, (jvL L (vp_updL w r.length (jnC (c % 32) (w r.length) (w (r.length + 1))))), wQQ q)) 2 rfl ?_
                  refine tv_iincN (k := i) (ls' := [some (.ref 60), some (.ref cod), some (.int (nI F)), some (.int (nI TO)), some (.int (nI (r.length + 1))), some (.int (nI (i + 1))), some (.int (nI (c % 32)))]) rfl rfl rfl ?_
                  refine tv_b (pc' := 10) (ls' := [some (.ref 60), some (.ref cod), some (.int (nI F)), some (.int (nI TO)), some (.int (nI (r.length + 1))), some (.int (nI (i + 1))), some (.int (nI (c % 32)))]) (st' := []) (h' := (n, sl, wKK kk, I, (jvL L (vp_updL w r.length (jnC (c % 32) (w r.length) (w (r.length + 1))))), wQQ q)) 1 rfl ?_
                  exact ih2 _
              · rw [if_neg hx] at hev2; cases hev2
        · rw [if_neg hj] at hev2
          by_cases h6 : st.length < 64
          · rw [if_pos h6] at hev2
            simp only at hev2
            have ih2 := fun o6 => ih (i + 1) (pa_vC ld fc c :: st) (vp_updL w st.length (pa_vC ld fc c)) o6 hcell2 (by omega) (by rw [show (pa_vC ld fc c :: st).length = st.length + 1 from rfl]; omega) hev2 ⟨by rw [vu_e], stR_up (Nat.le_refl _) hst⟩
            have hj2 : ¬ (22 ≤ c % 32 ∨ c % 32 = 7 ∨ c % 32 = 8 ∨ c % 32 = 19 ∨ c % 32 = 20) := fun q => hj (pa_jnS_t.mpr q)
            refine tv_b (pc' := (if (nI TO) ≤ (nI i) then 110 else 16)) (ls' := [some (.ref 60), some (.ref cod), some (.int (nI F)), some (.int (nI TO)), some (.int (nI st.length)), some (.int (nI i)), o6]) (st' := []) (h' := (n, sl, wKK kk, I, (jvL L w), wQQ q)) 3 rfl ?_
            refine tv_f (fun hq => absurd ((nI_leI (a := TO) (b := i) (by omega) (by omega)).mp hq) (by omega)) ?_
            refine tv_b (pc' := 19) (ls' := [some (.ref 60), some (.ref cod), some (.int (nI F)), some (.int (nI TO)), some (.int (nI st.length)), some (.int (nI i)), o6]) (st' := [.ref cod, .int (nI i)]) (h' := (n, sl, wKK kk, I, (jvL L w), wQQ q)) 2 rfl ?_
            refine tv_len rfl hKc (by decide) ?_
            refine tv_b (pc' := (if (nI len) ≤ (nI i) then 110 else 23)) (ls' := [some (.ref 60), some (.ref cod), some (.int (nI F)), some (.int (nI TO)), some (.int (nI st.length)), some (.int (nI i)), o6]) (st' := []) (h' := (n, sl, wKK kk, I, (jvL L w), wQQ q)) 1 rfl ?_
            refine tv_f (fun hq => absurd ((nI_leI (a := len) (b := i) (by omega) (by omega)).mp hq) (by omega)) ?_
            refine tv_b (pc' := 26) (ls' := [some (.ref 60), some (.ref cod), some (.int (nI F)), some (.int (nI TO)), some (.int (nI st.length)), some (.int (nI i)), o6]) (st' := [.int (nI i), .ref cod]) (h' := (n, sl, wKK kk, I, (jvL L w), wQQ q)) 2 rfl ?_
            refine tv_ialN (k := i) rfl (hKc) (⟨by omega, by omega⟩) ?_
            refine tv_top (hc) ?_
            refine tv_b (pc' := 29) (ls' := [some (.ref 60), some (.ref cod), some (.int (nI F)), some (.int (nI TO)), some (.int (nI st.length)), some (.int (nI i)), o6]) (st' := [.int 32, .int (nI c)]) (h' := (n, sl, wKK kk, I, (jvL L w), wQQ q)) 1 rfl ?_
            refine tv_csE [.int (nI c), .int 32] [] rfl rfl (by omega) rfl (Nat.le_of_ble_eq_true rfl) (Nat.le_of_ble_eq_true rfl) (ev_fmod32 (by omega)) ?_
            refine tv_b (pc' := (if (nI (c % 32)) = 9 then 56 else 41)) (ls' := [some (.ref 60), some (.ref cod), some (.int (nI F)), some (.int (nI TO)), some (.int (nI st.length)), some (.int (nI i)), some (.int (nI (c % 32)))]) (st' := []) (h' := (n, sl, wKK kk, I, (jvL L w), wQQ q)) 4 rfl ?_
            refine tv_f (fun hq => absurd ((nI_eq (a := (c % 32)) (b := 9) (by omega) (by omega)).mp hq) (by omega)) ?_
            refine tv_b (pc' := (if 22 ≤ (nI (c % 32)) then 56 else 48)) (ls' := [some (.ref 60), some (.ref cod), some (.int (nI F)), some (.int (nI TO)), some (.int (nI st.length)), some (.int (nI i)), some (.int (nI (c % 32)))]) (st' := []) (h' := (n, sl, wKK kk, I, (jvL L w), wQQ q)) 3 rfl ?_
            refine tv_f (fun hq => absurd ((nI_leI (a := 22) (b := (c % 32)) (by omega) (by omega)).mp hq) (by omega)) ?_
            refine tv_b (pc' := 50) (ls' := [some (.ref 60), some (.ref cod), some (.int (nI F)), some (.int (nI TO)), some (.int (nI st.length)), some (.int (nI i)), some (.int (nI (c % 32)))]) (st' := [.int (nI (c % 32))]) (h' := (n, sl, wKK kk, I, (jvL L w), wQQ q)) 1 rfl ?_
            refine tv_csE [.int (nI (c % 32))] [] rfl rfl (by omega) rfl (Nat.le_of_ble_eq_true rfl) (Nat.le_of_ble_eq_true rfl) (ev_j_isJoin) ?_
            refine tv_b (pc' := (if (sp_j_isJoin (nI (c % 32))) = 0 then 69 else 56)) (ls' := [some (.ref 60), some (.ref cod), some (.int (nI F)), some (.int (nI TO)), some (.int (nI st.length)), some (.int (nI i)), some (.int (nI (c % 32)))]) (st' := []) (h' := (n, sl, wKK kk, I, (jvL L w), wQQ q)) 1 rfl ?_
            refine tv_t (isJ_0 (by omega) (by omega)) ?_
            refine tv_b (pc' := (if 64 ≤ (nI st.length) then 104 else 79)) (ls' := [some (.ref 60), some (.ref cod), some (.int (nI F)), some (.int (nI TO)), some (.int (nI st.length)), some (.int (nI i)), some (.int (nI (c % 32)))]) (st' := []) (h' := (n, sl, wKK kk, I, (jvL L w), wQQ q)) 5 rfl ?_
            refine tv_f (fun hq => absurd ((nI_leI (a := 64) (b := st.length) (by omega) (by omega)).mp hq) (by omega)) ?_
            refine tv_b (pc' := 91) (ls' := [some (.ref 60), some (.ref cod), some (.int (nI F)), some (.int (nI TO)), some (.int (nI st.length)), some (.int (nI i)), some (.int (nI (c % 32)))]) (st' := [.int (nI i), .ref cod, .int (nI (c % 32)), .ref 60, .int (nI st.length), .ref 62]) (h' := (n, sl, wKK kk, I, (jvL L w), wQQ q)) 7 rfl ?_
            refine tv_ialN (k := i) rfl (hKc) (⟨by omega, by omega⟩) ?_
            refine tv_top (hc) ?_
            refine tv_b (pc' := 94) (ls' := [some (.ref 60), some (.ref cod), some (.int (nI F)), some (.int (nI TO)), some (.int (nI st.length)), some (.int (nI i)), some (.int (nI (c % 32)))]) (st' := [.int 32, .int (nI c), .int (nI (c % 32)), .ref 60, .int (nI st.length), .ref 62]) (h' := (n, sl, wKK kk, I, (jvL L w), wQQ q)) 1 rfl ?_
            refine tv_csE [.int (nI c), .int 32] [.int (nI (c % 32)), .ref 60, .int (nI st.length), .ref 62] rfl rfl (by omega) rfl (Nat.le_of_ble_eq_true rfl) (Nat.le_of_ble_eq_true rfl) (ev_fdiv32 (by omega)) ?_
            refine tv_cvE [.int (nI (c % 32)), .int (nI (c / 32))] [.int (nI st.length), .ref 62] rfl rfl (by omega) rfl (Nat.le_of_ble_eq_true rfl) (Nat.le_of_ble_eq_true rfl) (Or.inr (Or.inr rfl)) (ev_j_single hcg (hld _ hcg) hfc h9 hj) ?_
            refine tv_lasN (k := st.length) rfl (rfl) (⟨by omega, by omega⟩) ?_
            refine tv_hL jvL_w_w ?_
            refine tv_iincN (k := st.length) (ls' := [some (.ref 60), some (.ref cod), some (.int (nI F)), some (.int (nI TO)), some (.int (nI (st.length + 1))), some (.int (nI i)), some (.int (nI (c % 32)))]) rfl rfl rfl ?_
            refine tv_iincN (k := i) (ls' := [some (.ref 60), some (.ref cod), some (.int (nI F)), some (.int (nI TO)), some (.int (nI (st.length + 1))), some (.int (nI (i + 1))), some (.int (nI (c % 32)))]) rfl rfl rfl ?_
            refine tv_b (pc' := 10) (ls' := [some (.ref 60), some (.ref cod), some (.int (nI F)), some (.int (nI TO)), some (.int (nI (st.length + 1))), some (.int (nI (i + 1))), some (.int (nI (c % 32)))]) (st' := []) (h' := (n, sl, wKK kk, I, (jvL L (vp_updL w st.length (pa_vC ld fc c))), wQQ q)) 1 rfl ?_
            exact ih2 _
          · rw [if_neg h6] at hev2; cases hev2
    · rw [if_neg hcg] at hev2; cases hev2
theorem tv_j_value {d n sl : Nat} {kk : Nat → Nat × Nat} {I : Nat → Nat → Int32} {L : Nat → Nat → Int64} {w : Nat → Int64} {q : Nat → Nat → Option Nat} {cod len F TO : Nat} {ld fc : Nat → Int64} {v : Int64} (hcod : 131 ≤ cod ∧ kk cod = (20, len)) (hlen : len ≤ 200000) (hTO : TO ≤ len) (hld : ∀ c, c < 16777216 → ld c = sp_d_loadOf (nI c) (L 60 5) (L 60 6) I L) (hfc : ∀ i, i < 7 → fc i = L 61 i) {cs : List Nat} (hcell : ∀ j, j < cs.length → I cod (F + j) = nI (cs.getD j 0)) (hF : F + cs.length = TO) (hev : pa_evC ld fc jnC cs [] = some [v]) : am_T (d + 4) 54 0 (am_ent 7 [.ref 60, .ref cod, .int (nI F), .int (nI TO)]) [] (n, sl, wKK kk, I, (jvL L w), wQQ q) (fun rv h' => rv = some (.long v) ∧ ∃ w', h' = (n, sl, wKK kk, I, (jvL L w'), wQQ q)) := by
  show am_T _ _ 0 [some (.ref 60), some (.ref cod), some (.int (nI F)), some (.int (nI TO)), none, none, none] _ _ _
  refine tv_b (pc' := 5) (ls' := [some (.ref 60), some (.ref cod), some (.int (nI F)), some (.int (nI TO)), some (.int 0), none, none]) (st' := [.int (nI F), .int 0]) (h' := (n, sl, wKK kk, I, (jvL L w), wQQ q)) 4 rfl ?_
  refine tv_csE [.int 0, .int (nI F)] [] rfl rfl (by omega) rfl (Nat.le_of_ble_eq_true rfl) (Nat.le_of_ble_eq_true rfl) (ev_max0 (by omega)) ?_
  refine tv_b (pc' := 10) (ls' := [some (.ref 60), some (.ref cod), some (.int (nI F)), some (.int (nI TO)), some (.int 0), some (.int (nI F)), none]) (st' := []) (h' := (n, sl, wKK kk, I, (jvL L w), wQQ q)) 1 rfl ?_
  exact tv_j_vl hcod hlen hTO hld hfc cs F [] w none hcell hF (by decide) hev trivial
