/-! THE REFERENCE'S RUN OF A CODE -/
theorem nI_shr24 {m : Nat} (h : m < 2147483648) : nI m >>> ((24 : Int32) &&& 31) = nI (m / 16777216) := by
  have e : (24 : Int32) &&& 31 = 24 := by decide
  rw [e]
  apply Int32.toBitVec_inj.mp
  have e2 : (nI m).toBitVec = BitVec.ofNat 32 m := rfl
  rw [Int32.toBitVec_shiftRight, e2]
  have e3 : (BitVec.smod (24 : Int32).toBitVec 32) = 24#32 := by decide
  rw [e3]
  show BitVec.sshiftRight (BitVec.ofNat 32 m) 24 = BitVec.ofNat 32 (m / 16777216)
  have hm : (BitVec.ofNat 32 m).msb = false := by
    rw [BitVec.msb_eq_false_iff_two_mul_lt, BitVec.toNat_ofNat]
    omega
  rw [BitVec.sshiftRight_eq_of_msb_false hm]
  apply BitVec.eq_of_toNat_eq
  rw [BitVec.toNat_ushiftRight, BitVec.toNat_ofNat, BitVec.toNat_ofNat, Nat.shiftRight_eq_div_pow]
  omega
theorem nI_and24 {m : Nat} (h : m < 2147483648) : nI m &&& 16777215 = nI (m % 16777216) := by
  apply Int32.toBitVec_inj.mp
  rw [Int32.toBitVec_and]
  apply BitVec.eq_of_toNat_eq
  rw [BitVec.toNat_and]
  show (BitVec.ofNat 32 m).toNat &&& (BitVec.ofNat 32 16777215).toNat = (BitVec.ofNat 32 (m % 16777216)).toNat
  rw [BitVec.toNat_ofNat, BitVec.toNat_ofNat, BitVec.toNat_ofNat]
  have e : 16777215 % 2 ^ 32 = 2 ^ 24 - 1 := by decide
  rw [e, Nat.and_two_pow_sub_one_eq_mod]
  omega
theorem nI_shrM {c : Nat × Nat} (h : c.2 < 16777216 ∧ c.1 ≤ 26) : nI (menc c) >>> ((24 : Int32) &&& 31) = nI c.1 := by
  unfold menc
  rw [nI_shr24 (by omega)]
  exact congrArg nI (by omega)
theorem nI_andM {c : Nat × Nat} (h : c.2 < 16777216 ∧ c.1 ≤ 26) : nI (menc c) &&& 16777215 = nI c.2 := by
  unfold menc
  rw [nI_and24 (by omega)]
  exact congrArg nI (by omega)
def ruL (L : Nat → Nat → Int64) (w : Nat → Int64) (j i : Nat) : Int64 := cond (Nat.beq j 119) (w i) (L j i)
theorem ruL_nb : ∀ {i k : Nat}, ¬ i = k → Nat.beq i k = false := fun h => Bool.eq_false_iff.mpr (fun q => h (Nat.eq_of_beq_eq_true q))
theorem ruL_w_w {L : Nat → Nat → Int64} {w : Nat → Int64} {y : Int64} {k : Nat} : va_up (ruL L w) 119 (vp_updL ((ruL L w) 119) k y) = ruL L (vp_updL w k y) := by
  funext j i
  unfold va_up
  by_cases hj : j = 119
  · subst hj; rfl
  · rw [if_neg hj]; unfold ruL; simp only [ruL_nb hj, cond_false]
theorem ruL_n {L : Nat → Nat → Int64} {w : Nat → Int64} {j : Nat} (h : j ≠ 119) : ruL L w j = L j := by
  funext i
  unfold ruL
  rw [rdI_nb h]
  rfl
theorem ruL_self {L : Nat → Nat → Int64} : L = ruL L (L 119) := by
  funext j i
  unfold ruL
  by_cases h : j = 119
  · subst h; rfl
  · rw [rdI_nb h]; rfl
set_option maxHeartbeats 4000000 in
theorem tv_m_rl {d n sl : Nat} {kk : Nat → Nat × Nat} {I : Nat → Nat → Int32} {L : Nat → Nat → Int64} {q : Nat → Nat → Option Nat} {N k TO : Nat} {ld fc : Nat → Int64} {v : Int64} (hN : N ≤ 200) (hk : k < 20) (hTO : TO ≤ 800) (h86 : I 86 (20 * N + k) = nI TO) (hld : ∀ c, c < 16777216 → ld c = sp_m_loadOf (nI c) I L) (hfc : ∀ i, i < 7 → fc i = L 120 (i + 1)) : ∀ (rs : List (Nat × Nat)) (i : Nat) (st : List Int64) (w : Nat → Int64) (o6 o7 : Option Value), (∀ j, j < rs.length → I 87 (800 * N + (i + j)) = nI (menc (rs.getD j (0, 0)))) → i + rs.length = TO → st.length ≤ 64 → pa_evR ld fc twR rs st = some [v] → stR w st → am_T (d + 4) 219 18 [some (.ref 80), some (.int (nI N)), some (.int (nI k)), some (.int (nI (20 * N + k))), some (.int (nI st.length)), some (.int (nI i)), o6, o7] [] (n, sl, wKK kk, I, (ruL L w), wQQ q) (fun rv h' => rv = some (.long v) ∧ ∃ w', h' = (n, sl, wKK kk, I, (ruL L w'), wQQ q)) := by
  intro rs
  induction rs with
  | nil =>
    intro i st w o6 o7 hcell hi h64 hev hst
    have hi2 : i = TO := by have : ([] : List (Nat × Nat)).length = 0 := rfl; omega
    have hst2 : st = [v] := Option.some.inj hev
    subst hst2
    have hv : w 0 = v := hst.1
    show am_T _ _ 18 [some (.ref 80), some (.int (nI N)), some (.int (nI k)), some (.int (nI (20 * N + k))), some (.int (nI 1)), some (.int (nI i)), o6, o7] _ _ _
    refine tv_b (pc' := 25) (ls' := [some (.ref 80), some (.int (nI N)), some (.int (nI k)), some (.int (nI (20 * N + k))), some (.int (nI 1)), some (.int (nI i)), o6, o7]) (st' := [.int (nI (20 * N + k)), .ref 86, .int (nI i)]) (h' := (n, sl, wKK kk, I, (ruL L w), wQQ q)) 4 rfl ?_
    refine tv_ialN (k := (20 * N + k)) rfl (rfl) (⟨by omega, by omega⟩) ?_
    refine tv_top (h86) ?_
    refine tv_b (pc' := (if (nI TO) ≤ (nI i) then 200 else 29)) (ls' := [some (.ref 80), some (.int (nI N)), some (.int (nI k)), some (.int (nI (20 * N + k))), some (.int (nI 1)), some (.int (nI i)), o6, o7]) (st' := []) (h' := (n, sl, wKK kk, I, (ruL L w), wQQ q)) 1 rfl ?_
    refine tv_t ((nI_leI (a := TO) (b := i) (by omega) (by omega)).mpr (by omega)) ?_
    refine tv_b (pc' := 206) (ls' := [some (.ref 80), some (.int (nI N)), some (.int (nI k)), some (.int (nI (20 * N + k))), some (.int (nI 1)), some (.int (nI i)), o6, o7]) (st' := [.long (w 0)]) (h' := (n, sl, wKK kk, I, (ruL L w), wQQ q)) 4 rfl ?_
    exact tv_rl rfl ⟨by rw [hv], w, rfl⟩
  | cons c rs ih =>
    intro i st w o6 o7 hcell hi h64 hev hst
    have el : (c :: rs).length = rs.length + 1 := rfl
    rw [el] at hi
    have hc : I 87 (800 * N + i) = nI (menc c) := hcell 0 (by omega)
    have hcell2 : ∀ j, j < rs.length → I 87 (800 * N + (i + 1 + j)) = nI (menc (rs.getD j (0, 0))) := fun j hj => by rw [show i + 1 + j = i + (j + 1) by omega]; exact hcell (j + 1) (by omega)
    have hev2 : (match pa_r1 ld fc twR c st with
      | some st' => pa_evR ld fc twR rs st'
      | none => none) = some [v] := hev
    unfold pa_r1 at hev2
    by_cases hcg : c.2 < 16777216 ∧ c.1 ≤ 26
    · rw [if_pos hcg] at hev2
      by_cases h9 : c.1 ≤ 9
      · rw [if_pos h9] at hev2
        by_cases h6 : st.length < 64
        · rw [if_pos h6] at hev2
          simp only at hev2
          have ih2 := fun o6 o7 => ih (i + 1) (pa_vR ld fc c.1 c.2 :: st) (vp_updL w st.length (pa_vR ld fc c.1 c.2)) o6 o7 hcell2 (by omega) (by rw [show (pa_vR ld fc c.1 c.2 :: st).length = st.length + 1 from rfl]; omega) hev2 ⟨by rw [vu_e], stR_up (Nat.le_refl _) hst⟩
          refine tv_b (pc' := 25) (ls' := [some (.ref 80), some (.int (nI N)), some (.int (nI k)), some (.int (nI (20 * N + k))), some (.int (nI st.length)), some (.int (nI i)), o6, o7]) (st' := [.int (nI (20 * N + k)), .ref 86, .int (nI i)]) (h' := (n, sl, wKK kk, I, (ruL L w), wQQ q)) 4 rfl ?_
          refine tv_ialN (k := (20 * N + k)) rfl (rfl) (⟨by omega, by omega⟩) ?_
          refine tv_top (h86) ?_
          refine tv_b (pc' := (if (nI TO) ≤ (nI i) then 200 else 29)) (ls' := [some (.ref 80), some (.int (nI N)), some (.int (nI k)), some (.int (nI (20 * N + k))), some (.int (nI st.length)), some (.int (nI i)), o6, o7]) (st' := []) (h' := (n, sl, wKK kk, I, (ruL L w), wQQ q)) 1 rfl ?_
          refine tv_f (fun hq => absurd ((nI_leI (a := TO) (b := i) (by omega) (by omega)).mp hq) (by omega)) ?_
          refine tv_b (pc' := 37) (ls' := [some (.ref 80), some (.int (nI N)), some (.int (nI k)), some (.int (nI (20 * N + k))), some (.int (nI st.length)), some (.int (nI i)), o6, o7]) (st' := [.int (nI N), .int 800, .ref 87]) (h' := (n, sl, wKK kk, I, (ruL L w), wQQ q)) 4 rfl ?_
          refine tv_b (pc' := 38) (ls' := [some (.ref 80), some (.int (nI N)), some (.int (nI k)), some (.int (nI (20 * N + k))), some (.int (nI st.length)), some (.int (nI i)), o6, o7]) (st' := [.int (800 * (nI N)), .ref 87]) (h' := (n, sl, wKK kk, I, (ruL L w), wQQ q)) 1 rfl ?_
          refine tv_top (show 800 * (nI N) = nI (800 * N) from nI_mul 800 N) ?_
          refine tv_b (pc' := 40) (ls' := [some (.ref 80), some (.int (nI N)), some (.int (nI k)), some (.int (nI (20 * N + k))), some (.int (nI st.length)), some (.int (nI i)), o6, o7]) (st' := [.int (nI i), .int (nI (800 * N)), .ref 87]) (h' := (n, sl, wKK kk, I, (ruL L w), wQQ q)) 1 rfl ?_
          refine tv_b (pc' := 41) (ls' := [some (.ref 80), some (.int (nI N)), some (.int (nI k)), some (.int (nI (20 * N + k))), some (.int (nI st.length)), some (.int (nI i)), o6, o7]) (st' := [.int ((nI (800 * N)) + (nI i)), .ref 87]) (h' := (n, sl, wKK kk, I, (ruL L w), wQQ q)) 1 rfl ?_
          refine tv_top (show (nI (800 * N)) + (nI i) = nI ((800 * N) + i) from nI_add (800 * N) i) ?_
          refine tv_ialN (k := ((800 * N) + i)) rfl (rfl) (⟨by omega, by omega⟩) ?_
          refine tv_top (hc) ?_
          refine tv_b (pc' := 45) (ls' := [some (.ref 80), some (.int (nI N)), some (.int (nI k)), some (.int (nI (20 * N + k))), some (.int (nI st.length)), some (.int (nI i)), o6, o7]) (st' := [.int ((nI (menc c)) >>> (24 &&& 31))]) (h' := (n, sl, wKK kk, I, (ruL L w), wQQ q)) 2 rfl ?_
          refine tv_top (nI_shrM hcg) ?_
          refine tv_b (pc' := 55) (ls' := [some (.ref 80), some (.int (nI N)), some (.int (nI k)), some (.int (nI (20 * N + k))), some (.int (nI st.length)), some (.int (nI i)), some (.int (nI c.1)), o7]) (st' := [.int (nI N), .int 800, .ref 87]) (h' := (n, sl, wKK kk, I, (ruL L w), wQQ q)) 5 rfl ?_
          refine tv_b (pc' := 56) (ls' := [some (.ref 80), some (.int (nI N)), some (.int (nI k)), some (.int (nI (20 * N + k))), some (.int (nI st.length)), some (.int (nI i)), some (.int (nI c.1)), o7]) (st' := [.int (800 * (nI N)), .ref 87]) (h' := (n, sl, wKK kk, I, (ruL L w), wQQ q)) 1 rfl ?_
          refine tv_top (show 800 * (nI N) = nI (800 * N) from nI_mul 800 N) ?_
          refine tv_b (pc' := 58) (ls' := [some (.ref 80), some (.int (nI N)), some (.int (nI k)), some (.int (nI (20 * N + k))), some (.int (nI st.length)), some (.int (nI i)), some (.int (nI c.1)), o7]) (st' := [.int (nI i), .int (nI (800 * N)), .ref 87]) (h' := (n, sl, wKK kk, I, (ruL L w), wQQ q)) 1 rfl ?_
          refine tv_b (pc' := 59) (ls' := [some (.ref 80), some (.int (nI N)), some (.int (nI k)), some (.int (nI (20 * N + k))), some (.int (nI st.length)), some (.int (nI i)), some (.int (nI c.1)), o7]) (st' := [.int ((nI (800 * N)) + (nI i)), .ref 87]) (h' := (n, sl, wKK kk, I, (ruL L w), wQQ q)) 1 rfl ?_
          refine tv_top (show (nI (800 * N)) + (nI i) = nI ((800 * N) + i) from nI_add (800 * N) i) ?_
          refine tv_ialN (k := ((800 * N) + i)) rfl (rfl) (⟨by omega, by omega⟩) ?_
          refine tv_top (hc) ?_
          refine tv_b (pc' := 64) (ls' := [some (.ref 80), some (.int (nI N)), some (.int (nI k)), some (.int (nI (20 * N + k))), some (.int (nI st.length)), some (.int (nI i)), some (.int (nI c.1)), o7]) (st' := [.int ((nI (menc c)) &&& 16777215)]) (h' := (n, sl, wKK kk, I, (ruL L w), wQQ q)) 2 rfl ?_
          refine tv_top (nI_andM hcg) ?_
          refine tv_b (pc' := (if 9 < (nI c.1) then 131 else 73)) (ls' := [some (.ref 80), some (.int (nI N)), some (.int (nI k)), some (.int (nI (20 * N + k))), some (.int (nI st.length)), some (.int (nI i)), some (.int (nI c.1)), some (.int (nI c.2))]) (st' := []) (h' := (n, sl, wKK kk, I, (ruL L w), wQQ q)) 4 rfl ?_
          refine tv_f (fun hq => absurd ((nI_ltI (a := 9) (b := c.1) (by omega) (by omega)).mp hq) (by omega)) ?_
          refine tv_b (pc' := (if (nI c.1) = 0 then 84 else 90)) (ls' := [some (.ref 80), some (.int (nI N)), some (.int (nI k)), some (.int (nI (20 * N + k))), some (.int (nI st.length)), some (.int (nI i)), some (.int (nI c.1)), some (.int (nI c.2))]) (st' := [.int (nI st.length), .ref 119]) (h' := (n, sl, wKK kk, I, (ruL L w), wQQ q)) 5 rfl ?_
          refine tv_ifq (nI_eq (a := c.1) (b := 0) (by omega) (by omega)) (fun c81 => ?_) (fun c81 => ?_)
          · refine tv_b (pc' := 124) (ls' := [some (.ref 80), some (.int (nI N)), some (.int (nI k)), some (.int (nI (20 * N + k))), some (.int (nI st.length)), some (.int (nI i)), some (.int (nI c.1)), some (.int (nI c.2))]) (st' := [.long ((nI c.2).toInt64), .int (nI st.length), .ref 119]) (h' := (n, sl, wKK kk, I, (ruL L w), wQQ q)) 3 rfl ?_
            refine tv_topJ (y := pa_vR ld fc c.1 c.2) (by unfold pa_vR; rw [if_pos c81, nI_j, jI_64 ⟨by omega, by omega⟩, ← lN_j]; rfl) ?_
            refine tv_lasN (k := st.length) rfl (rfl) (⟨by omega, by omega⟩) ?_
            refine tv_hL ruL_w_w ?_
            refine tv_iincN (k := st.length) (ls' := [some (.ref 80), some (.int (nI N)), some (.int (nI k)), some (.int (nI (20 * N + k))), some (.int (nI (st.length + 1))), some (.int (nI i)), some (.int (nI c.1)), some (.int (nI c.2))]) rfl rfl rfl ?_
            refine tv_b (pc' := 194) (ls' := [some (.ref 80), some (.int (nI N)), some (.int (nI k)), some (.int (nI (20 * N + k))), some (.int (nI (st.length + 1))), some (.int (nI i)), some (.int (nI c.1)), some (.int (nI c.2))]) (st' := []) (h' := (n, sl, wKK kk, I, (ruL L (vp_updL w st.length (pa_vR ld fc c.1 c.2))), wQQ q)) 1 rfl ?_
            refine tv_iincN (k := i) (ls' := [some (.ref 80), some (.int (nI N)), some (.int (nI k)), some (.int (nI (20 * N + k))), some (.int (nI (st.length + 1))), some (.int (nI (i + 1))), some (.int (nI c.1)), some (.int (nI c.2))]) rfl rfl rfl ?_
            refine tv_b (pc' := 18) (ls' := [some (.ref 80), some (.int (nI N)), some (.int (nI k)), some (.int (nI (20 * N + k))), some (.int (nI (st.length + 1))), some (.int (nI (i + 1))), some (.int (nI c.1)), some (.int (nI c.2))]) (st' := []) (h' := (n, sl, wKK kk, I, (ruL L (vp_updL w st.length (pa_vR ld fc c.1 c.2))), wQQ q)) 1 rfl ?_
            exact ih2 _ _
          · refine tv_b (pc' := (if (nI c.1) = 9 then 97 else 101)) (ls' := [some (.ref 80), some (.int (nI N)), some (.int (nI k)), some (.int (nI (20 * N + k))), some (.int (nI st.length)), some (.int (nI i)), some (.int (nI c.1)), some (.int (nI c.2))]) (st' := [.int (nI st.length), .ref 119]) (h' := (n, sl, wKK kk, I, (ruL L w), wQQ q)) 3 rfl ?_
            refine tv_ifq (nI_eq (a := c.1) (b := 9) (by omega) (by omega)) (fun c94 => ?_) (fun c94 => ?_)
            · refine tv_b (pc' := 124) (ls' := [some (.ref 80), some (.int (nI N)), some (.int (nI k)), some (.int (nI (20 * N + k))), some (.int (nI st.length)), some (.int (nI i)), some (.int (nI c.1)), some (.int (nI c.2))]) (st' := [.long 1, .int (nI st.length), .ref 119]) (h' := (n, sl, wKK kk, I, (ruL L w), wQQ q)) 2 rfl ?_
              refine tv_topJ (y := pa_vR ld fc c.1 c.2) (by unfold pa_vR; rw [if_neg c81, if_neg (by omega), if_pos c94]) ?_
              refine tv_lasN (k := st.length) rfl (rfl) (⟨by omega, by omega⟩) ?_
              refine tv_hL ruL_w_w ?_
              refine tv_iincN (k := st.length) (ls' := [some (.ref 80), some (.int (nI N)), some (.int (nI k)), some (.int (nI (20 * N + k))), some (.int (nI (st.length + 1))), some (.int (nI i)), some (.int (nI c.1)), some (.int (nI c.2))]) rfl rfl rfl ?_
              refine tv_b (pc' := 194) (ls' := [some (.ref 80), some (.int (nI N)), some (.int (nI k)), some (.int (nI (20 * N + k))), some (.int (nI (st.length + 1))), some (.int (nI i)), some (.int (nI c.1)), some (.int (nI c.2))]) (st' := []) (h' := (n, sl, wKK kk, I, (ruL L (vp_updL w st.length (pa_vR ld fc c.1 c.2))), wQQ q)) 1 rfl ?_
              refine tv_iincN (k := i) (ls' := [some (.ref 80), some (.int (nI N)), some (.int (nI k)), some (.int (nI (20 * N + k))), some (.int (nI (st.length + 1))), some (.int (nI (i + 1))), some (.int (nI c.1)), some (.int (nI c.2))]) rfl rfl rfl ?_
              refine tv_b (pc' := 18) (ls' := [some (.ref 80), some (.int (nI N)), some (.int (nI k)), some (.int (nI (20 * N + k))), some (.int (nI (st.length + 1))), some (.int (nI (i + 1))), some (.int (nI c.1)), some (.int (nI c.2))]) (st' := []) (h' := (n, sl, wKK kk, I, (ruL L (vp_updL w st.length (pa_vR ld fc c.1 c.2))), wQQ q)) 1 rfl ?_
              exact ih2 _ _
            · refine tv_b (pc' := (if (nI c.1) = 8 then 108 else 117)) (ls' := [some (.ref 80), some (.int (nI N)), some (.int (nI k)), some (.int (nI (20 * N + k))), some (.int (nI st.length)), some (.int (nI i)), some (.int (nI c.1)), some (.int (nI c.2))]) (st' := [.int (nI st.length), .ref 119]) (h' := (n, sl, wKK kk, I, (ruL L w), wQQ q)) 3 rfl ?_
              refine tv_ifq (nI_eq (a := c.1) (b := 8) (by omega) (by omega)) (fun c105 => ?_) (fun c105 => ?_)
              · refine tv_b (pc' := 111) (ls' := [some (.ref 80), some (.int (nI N)), some (.int (nI k)), some (.int (nI (20 * N + k))), some (.int (nI st.length)), some (.int (nI i)), some (.int (nI c.1)), some (.int (nI c.2))]) (st' := [.int (nI c.2), .ref 80, .int (nI st.length), .ref 119]) (h' := (n, sl, wKK kk, I, (ruL L w), wQQ q)) 2 rfl ?_
                refine tv_cvE [.int (nI c.2)] [.int (nI st.length), .ref 119] rfl rfl (by omega) rfl (Nat.le_of_ble_eq_true rfl) (Nat.le_of_ble_eq_true rfl) (Or.inr (Or.inr rfl)) (ev_m_loadOf) ?_
                refine tv_b (pc' := 124) (ls' := [some (.ref 80), some (.int (nI N)), some (.int (nI k)), some (.int (nI (20 * N + k))), some (.int (nI st.length)), some (.int (nI i)), some (.int (nI c.1)), some (.int (nI c.2))]) (st' := [.long (sp_m_loadOf (nI c.2) I (ruL L w)), .int (nI st.length), .ref 119]) (h' := (n, sl, wKK kk, I, (ruL L w), wQQ q)) 1 rfl ?_
                refine tv_topJ (y := pa_vR ld fc c.1 c.2) (by unfold pa_vR; rw [if_neg c81, if_pos c105, hld _ hcg.1]; rfl) ?_
                refine tv_lasN (k := st.length) rfl (rfl) (⟨by omega, by omega⟩) ?_
                refine tv_hL ruL_w_w ?_
                refine tv_iincN (k := st.length) (ls' := [some (.ref 80), some (.int (nI N)), some (.int (nI k)), some (.int (nI (20 * N + k))), some (.int (nI (st.length + 1))), some (.int (nI i)), some (.int (nI c.1)), some (.int (nI c.2))]) rfl rfl rfl ?_
                refine tv_b (pc' := 194) (ls' := [some (.ref 80), some (.int (nI N)), some (.int (nI k)), some (.int (nI (20 * N + k))), some (.int (nI (st.length + 1))), some (.int (nI i)), some (.int (nI c.1)), some (.int (nI c.2))]) (st' := []) (h' := (n, sl, wKK kk, I, (ruL L (vp_updL w st.length (pa_vR ld fc c.1 c.2))), wQQ q)) 1 rfl ?_
                refine tv_iincN (k := i) (ls' := [some (.ref 80), some (.int (nI N)), some (.int (nI k)), some (.int (nI (20 * N + k))), some (.int (nI (st.length + 1))), some (.int (nI (i + 1))), some (.int (nI c.1)), some (.int (nI c.2))]) rfl rfl rfl ?_
                refine tv_b (pc' := 18) (ls' := [some (.ref 80), some (.int (nI N)), some (.int (nI k)), some (.int (nI (20 * N + k))), some (.int (nI (st.length + 1))), some (.int (nI (i + 1))), some (.int (nI c.1)), some (.int (nI c.2))]) (st' := []) (h' := (n, sl, wKK kk, I, (ruL L (vp_updL w st.length (pa_vR ld fc c.1 c.2))), wQQ q)) 1 rfl ?_
                exact ih2 _ _
              · refine tv_b (pc' := 123) (ls' := [some (.ref 80), some (.int (nI N)), some (.int (nI k)), some (.int (nI (20 * N + k))), some (.int (nI st.length)), some (.int (nI i)), some (.int (nI c.1)), some (.int (nI c.2))]) (st' := [.int (nI c.1), .ref 120, .int (nI st.length), .ref 119]) (h' := (n, sl, wKK kk, I, (ruL L w), wQQ q)) 3 rfl ?_
                refine tv_lalN (k := c.1) rfl (rfl) (⟨by omega, by omega⟩) ?_
                refine tv_topJ (y := pa_vR ld fc c.1 c.2) (by unfold pa_vR; rw [if_neg c81, if_neg c105, if_neg c94, hfc _ (by omega), show c.1 - 1 + 1 = c.1 by omega]; rfl) ?_
                refine tv_lasN (k := st.length) rfl (rfl) (⟨by omega, by omega⟩) ?_
                refine tv_hL ruL_w_w ?_
                refine tv_iincN (k := st.length) (ls' := [some (.ref 80), some (.int (nI N)), some (.int (nI k)), some (.int (nI (20 * N + k))), some (.int (nI (st.length + 1))), some (.int (nI i)), some (.int (nI c.1)), some (.int (nI c.2))]) rfl rfl rfl ?_
                refine tv_b (pc' := 194) (ls' := [some (.ref 80), some (.int (nI N)), some (.int (nI k)), some (.int (nI (20 * N + k))), some (.int (nI (st.length + 1))), some (.int (nI i)), some (.int (nI c.1)), some (.int (nI c.2))]) (st' := []) (h' := (n, sl, wKK kk, I, (ruL L (vp_updL w st.length (pa_vR ld fc c.1 c.2))), wQQ q)) 1 rfl ?_
                refine tv_iincN (k := i) (ls' := [some (.ref 80), some (.int (nI N)), some (.int (nI k)), some (.int (nI (20 * N + k))), some (.int (nI (st.length + 1))), some (.int (nI (i + 1))), some (.int (nI c.1)), some (.int (nI c.2))]) rfl rfl rfl ?_
                refine tv_b (pc' := 18) (ls' := [some (.ref 80), some (.int (nI N)), some (.int (nI k)), some (.int (nI (20 * N + k))), some (.int (nI (st.length + 1))), some (.int (nI (i + 1))), some (.int (nI c.1)), some (.int (nI c.2))]) (st' := []) (h' := (n, sl, wKK kk, I, (ruL L (vp_updL w st.length (pa_vR ld fc c.1 c.2))), wQQ q)) 1 rfl ?_
                exact ih2 _ _
        · rw [if_neg h6] at hev2; cases hev2
      · rw [if_neg h9] at hev2
        by_cases h26 : c.1 = 26
        · rw [if_pos h26] at hev2
          cases st with
          | nil => cases hev2
          | cons x r =>
            simp only at hev2
            have hl1 : (x :: r).length = r.length + 1 := rfl
            rw [hl1] at h64 ⊢
            have ih2 := fun o6 o7 => ih (i + 1) ((1 - x) :: r) (vp_updL w r.length (1 - w r.length)) o6 o7 hcell2 (by omega) (by rw [show ((1 - x) :: r).length = r.length + 1 from rfl]; omega) hev2 ⟨by rw [vu_e, hst.1], stR_up (Nat.le_refl _) hst.2⟩
            refine tv_b (pc' := 25) (ls' := [some (.ref 80), some (.int (nI N)), some (.int (nI k)), some (.int (nI (20 * N + k))), some (.int (nI (r.length + 1))), some (.int (nI i)), o6, o7]) (st' := [.int (nI (20 * N + k)), .ref 86, .int (nI i)]) (h' := (n, sl, wKK kk, I, (ruL L w), wQQ q)) 4 rfl ?_
            refine tv_ialN (k := (20 * N + k)) rfl (rfl) (⟨by omega, by omega⟩) ?_
            refine tv_top (h86) ?_
            refine tv_b (pc' := (if (nI TO) ≤ (nI i) then 200 else 29)) (ls' := [some (.ref 80), some (.int (nI N)), some (.int (nI k)), some (.int (nI (20 * N + k))), some (.int (nI (r.length + 1))), some (.int (nI i)), o6, o7]) (st' := []) (h' := (n, sl, wKK kk, I, (ruL L w), wQQ q)) 1 rfl ?_
            refine tv_f (fun hq => absurd ((nI_leI (a := TO) (b := i) (by omega) (by omega)).mp hq) (by omega)) ?_
            refine tv_b (pc' := 37) (ls' := [some (.ref 80), some (.int (nI N)), some (.int (nI k)), some (.int (nI (20 * N + k))), some (.int (nI (r.length + 1))), some (.int (nI i)), o6, o7]) (st' := [.int (nI N), .int 800, .ref 87]) (h' := (n, sl, wKK kk, I, (ruL L w), wQQ q)) 4 rfl ?_
            refine tv_b (pc' := 38) (ls' := [some (.ref 80), some (.int (nI N)), some (.int (nI k)), some (.int (nI (20 * N + k))), some (.int (nI (r.length + 1))), some (.int (nI i)), o6, o7]) (st' := [.int (800 * (nI N)), .ref 87]) (h' := (n, sl, wKK kk, I, (ruL L w), wQQ q)) 1 rfl ?_
            refine tv_top (show 800 * (nI N) = nI (800 * N) from nI_mul 800 N) ?_
            refine tv_b (pc' := 40) (ls' := [some (.ref 80), some (.int (nI N)), some (.int (nI k)), some (.int (nI (20 * N + k))), some (.int (nI (r.length + 1))), some (.int (nI i)), o6, o7]) (st' := [.int (nI i), .int (nI (800 * N)), .ref 87]) (h' := (n, sl, wKK kk, I, (ruL L w), wQQ q)) 1 rfl ?_
            refine tv_b (pc' := 41) (ls' := [some (.ref 80), some (.int (nI N)), some (.int (nI k)), some (.int (nI (20 * N + k))), some (.int (nI (r.length + 1))), some (.int (nI i)), o6, o7]) (st' := [.int ((nI (800 * N)) + (nI i)), .ref 87]) (h' := (n, sl, wKK kk, I, (ruL L w), wQQ q)) 1 rfl ?_
            refine tv_top (show (nI (800 * N)) + (nI i) = nI ((800 * N) + i) from nI_add (800 * N) i) ?_
            refine tv_ialN (k := ((800 * N) + i)) rfl (rfl) (⟨by omega, by omega⟩) ?_
            refine tv_top (hc) ?_
            refine tv_b (pc' := 45) (ls' := [some (.ref 80), some (.int (nI N)), some (.int (nI k)), some (.int (nI (20 * N + k))), some (.int (nI (r.length + 1))), some (.int (nI i)), o6, o7]) (st' := [.int ((nI (menc c)) >>> (24 &&& 31))]) (h' := (n, sl, wKK kk, I, (ruL L w), wQQ q)) 2 rfl ?_
            refine tv_top (nI_shrM hcg) ?_
            refine tv_b (pc' := 55) (ls' := [some (.ref 80), some (.int (nI N)), some (.int (nI k)), some (.int (nI (20 * N + k))), some (.int (nI (r.length + 1))), some (.int (nI i)), some (.int (nI c.1)), o7]) (st' := [.int (nI N), .int 800, .ref 87]) (h' := (n, sl, wKK kk, I, (ruL L w), wQQ q)) 5 rfl ?_
            refine tv_b (pc' := 56) (ls' := [some (.ref 80), some (.int (nI N)), some (.int (nI k)), some (.int (nI (20 * N + k))), some (.int (nI (r.length + 1))), some (.int (nI i)), some (.int (nI c.1)), o7]) (st' := [.int (800 * (nI N)), .ref 87]) (h' := (n, sl, wKK kk, I, (ruL L w), wQQ q)) 1 rfl ?_
            refine tv_top (show 800 * (nI N) = nI (800 * N) from nI_mul 800 N) ?_
            refine tv_b (pc' := 58) (ls' := [some (.ref 80), some (.int (nI N)), some (.int (nI k)), some (.int (nI (20 * N + k))), some (.int (nI (r.length + 1))), some (.int (nI i)), some (.int (nI c.1)), o7]) (st' := [.int (nI i), .int (nI (800 * N)), .ref 87]) (h' := (n, sl, wKK kk, I, (ruL L w), wQQ q)) 1 rfl ?_
            refine tv_b (pc' := 59) (ls' := [some (.ref 80), some (.int (nI N)), some (.int (nI k)), some (.int (nI (20 * N + k))), some (.int (nI (r.length + 1))), some (.int (nI i)), some (.int (nI c.1)), o7]) (st' := [.int ((nI (800 * N)) + (nI i)), .ref 87]) (h' := (n, sl, wKK kk, I, (ruL L w), wQQ q)) 1 rfl ?_
            refine tv_top (show (nI (800 * N)) + (nI i) = nI ((800 * N) + i) from nI_add (800 * N) i) ?_
            refine tv_ialN (k := ((800 * N) + i)) rfl (rfl) (⟨by omega, by omega⟩) ?_
            refine tv_top (hc) ?_
            refine tv_b (pc' := 64) (ls' := [some (.ref 80), some (.int (nI N)), some (.int (nI k)), some (.int (nI (20 * N + k))), some (.int (nI (r.length + 1))), some (.int (nI i)), some (.int (nI c.1)), o7]) (st' := [.int ((nI (menc c)) &&& 16777215)]) (h' := (n, sl, wKK kk, I, (ruL L w), wQQ q)) 2 rfl ?_
            refine tv_top (nI_andM hcg) ?_
            refine tv_b (pc' := (if 9 < (nI c.1) then 131 else 73)) (ls' := [some (.ref 80), some (.int (nI N)), some (.int (nI k)), some (.int (nI (20 * N + k))), some (.int (nI (r.length + 1))), some (.int (nI i)), some (.int (nI c.1)), some (.int (nI c.2))]) (st' := []) (h' := (n, sl, wKK kk, I, (ruL L w), wQQ q)) 4 rfl ?_
            refine tv_t ((nI_ltI (a := 9) (b := c.1) (by omega) (by omega)).mpr (by omega)) ?_
            refine tv_b (pc' := (if (nI c.1) = 26 then 138 else 161)) (ls' := [some (.ref 80), some (.int (nI N)), some (.int (nI k)), some (.int (nI (20 * N + k))), some (.int (nI (r.length + 1))), some (.int (nI i)), some (.int (nI c.1)), some (.int (nI c.2))]) (st' := []) (h' := (n, sl, wKK kk, I, (ruL L w), wQQ q)) 3 rfl ?_
            refine tv_t ((nI_eq (a := c.1) (b := 26) (by omega) (by omega)).mpr (by omega)) ?_
            refine tv_b (pc' := 145) (ls' := [some (.ref 80), some (.int (nI N)), some (.int (nI k)), some (.int (nI (20 * N + k))), some (.int (nI (r.length + 1))), some (.int (nI i)), some (.int (nI c.1)), some (.int (nI c.2))]) (st' := [.int 1, .int (nI (r.length + 1)), .ref 119]) (h' := (n, sl, wKK kk, I, (ruL L w), wQQ q)) 4 rfl ?_
            refine tv_b (pc' := 146) (ls' := [some (.ref 80), some (.int (nI N)), some (.int (nI k)), some (.int (nI (20 * N + k))), some (.int (nI (r.length + 1))), some (.int (nI i)), some (.int (nI c.1)), some (.int (nI c.2))]) (st' := [.int ((nI (r.length + 1)) - 1), .ref 119]) (h' := (n, sl, wKK kk, I, (ruL L w), wQQ q)) 1 rfl ?_
            refine tv_top (show (nI (r.length + 1)) - 1 = nI r.length from nI_sub (a := (r.length + 1)) (b := 1) (by omega)) ?_
            refine tv_b (pc' := 154) (ls' := [some (.ref 80), some (.int (nI N)), some (.int (nI k)), some (.int (nI (20 * N + k))), some (.int (nI (r.length + 1))), some (.int (nI i)), some (.int (nI c.1)), some (.int (nI c.2))]) (st' := [.int 1, .int (nI (r.length + 1)), .ref 119, .long 1, .int (nI r.length), .ref 119]) (h' := (n, sl, wKK kk, I, (ruL L w), wQQ q)) 5 rfl ?_
            refine tv_b (pc' := 155) (ls' := [some (.ref 80), some (.int (nI N)), some (.int (nI k)), some (.int (nI (20 * N + k))), some (.int (nI (r.length + 1))), some (.int (nI i)), some (.int (nI c.1)), some (.int (nI c.2))]) (st' := [.int ((nI (r.length + 1)) - 1), .ref 119, .long 1, .int (nI r.length), .ref 119]) (h' := (n, sl, wKK kk, I, (ruL L w), wQQ q)) 1 rfl ?_
            refine tv_top (show (nI (r.length + 1)) - 1 = nI r.length from nI_sub (a := (r.length + 1)) (b := 1) (by omega)) ?_
            refine tv_lalN (k := r.length) rfl (rfl) (⟨by omega, by omega⟩) ?_
            refine tv_b (pc' := 157) (ls' := [some (.ref 80), some (.int (nI N)), some (.int (nI k)), some (.int (nI (20 * N + k))), some (.int (nI (r.length + 1))), some (.int (nI i)), some (.int (nI c.1)), some (.int (nI c.2))]) (st' := [.long (1 - (w r.length)), .int (nI r.length), .ref 119]) (h' := (n, sl, wKK kk, I, (ruL L w), wQQ q)) 1 rfl ?_
            refine tv_lasN (k := r.length) rfl (rfl) (⟨by omega, by omega⟩) ?_
            refine tv_hL ruL_w_w ?_
            refine tv_b (pc' := 194) (ls' := [some (.ref 80), some (.int (nI N)), some (.int (nI k)), some (.int (nI (20 * N + k))), some (.int (nI (r.length + 1))), some (.int (nI i)), some (.int (nI c.1)), some (.int (nI c.2))]) (st' := []) (h' := (n, sl, wKK kk, I, (ruL L (vp_updL w r.length (1 - (w r.length)))), wQQ q)) 1 rfl ?_
            refine tv_iincN (k := i) (ls' := [some (.ref 80), some (.int (nI N)), some (.int (nI k)), some (.int (nI (20 * N + k))), some (.int (nI (r.length + 1))), some (.int (nI (i + 1))), some (.int (nI c.1)), some (.int (nI c.2))]) rfl rfl rfl ?_
            refine tv_b (pc' := 18) (ls' := [some (.ref 80), some (.int (nI N)), some (.int (nI k)), some (.int (nI (20 * N + k))), some (.int (nI (r.length + 1))), some (.int (nI (i + 1))), some (.int (nI c.1)), some (.int (nI c.2))]) (st' := []) (h' := (n, sl, wKK kk, I, (ruL L (vp_updL w r.length (1 - (w r.length)))), wQQ q)) 1 rfl ?_
            exact ih2 _ _
        · rw [if_neg h26] at hev2
          cases st with
          | nil => cases hev2
          | cons y st =>
            cases st with
            | nil => cases hev2
            | cons x r =>
              simp only at hev2
              have hl1 : (y :: x :: r).length = r.length + 1 + 1 := rfl
              rw [hl1] at h64 ⊢
              have hx1 : w r.length = x := hst.2.1
              have hy1 : w (r.length + 1) = y := hst.1
              have ih2 := fun o6 o7 => ih (i + 1) (twR c.1 x y :: r) (vp_updL w r.length (twR c.1 (w r.length) (w (r.length + 1)))) o6 o7 hcell2 (by omega) (by rw [show (twR c.1 x y :: r).length = r.length + 1 from rfl]; omega) hev2 ⟨by rw [vu_e, hx1, hy1], stR_up (Nat.le_refl _) hst.2.2⟩
              refine tv_b (pc' := 25) (ls' := [some (.ref 80), some (.int (nI N)), some (.int (nI k)), some (.int (nI (20 * N + k))), some (.int (nI (r.length + 1 + 1))), some (.int (nI i)), o6, o7]) (st' := [.int (nI (20 * N + k)), .ref 86, .int (nI i)]) (h' := (n, sl, wKK kk, I, (ruL L w), wQQ q)) 4 rfl ?_
              refine tv_ialN (k := (20 * N + k)) rfl (rfl) (⟨by omega, by omega⟩) ?_
              refine tv_top (h86) ?_
              refine tv_b (pc' := (if (nI TO) ≤ (nI i) then 200 else 29)) (ls' := [some (.ref 80), some (.int (nI N)), some (.int (nI k)), some (.int (nI (20 * N + k))), some (.int (nI (r.length + 1 + 1))), some (.int (nI i)), o6, o7]) (st' := []) (h' := (n, sl, wKK kk, I, (ruL L w), wQQ q)) 1 rfl ?_
              refine tv_f (fun hq => absurd ((nI_leI (a := TO) (b := i) (by omega) (by omega)).mp hq) (by omega)) ?_
              refine tv_b (pc' := 37) (ls' := [some (.ref 80), some (.int (nI N)), some (.int (nI k)), some (.int (nI (20 * N + k))), some (.int (nI (r.length + 1 + 1))), some (.int (nI i)), o6, o7]) (st' := [.int (nI N), .int 800, .ref 87]) (h' := (n, sl, wKK kk, I, (ruL L w), wQQ q)) 4 rfl ?_
              refine tv_b (pc' := 38) (ls' := [some (.ref 80), some (.int (nI N)), some (.int (nI k)), some (.int (nI (20 * N + k))), some (.int (nI (r.length + 1 + 1))), some (.int (nI i)), o6, o7]) (st' := [.int (800 * (nI N)), .ref 87]) (h' := (n, sl, wKK kk, I, (ruL L w), wQQ q)) 1 rfl ?_
              refine tv_top (show 800 * (nI N) = nI (800 * N) from nI_mul 800 N) ?_
              refine tv_b (pc' := 40) (ls' := [some (.ref 80), some (.int (nI N)), some (.int (nI k)), some (.int (nI (20 * N + k))), some (.int (nI (r.length + 1 + 1))), some (.int (nI i)), o6, o7]) (st' := [.int (nI i), .int (nI (800 * N)), .ref 87]) (h' := (n, sl, wKK kk, I, (ruL L w), wQQ q)) 1 rfl ?_
              refine tv_b (pc' := 41) (ls' := [some (.ref 80), some (.int (nI N)), some (.int (nI k)), some (.int (nI (20 * N + k))), some (.int (nI (r.length + 1 + 1))), some (.int (nI i)), o6, o7]) (st' := [.int ((nI (800 * N)) + (nI i)), .ref 87]) (h' := (n, sl, wKK kk, I, (ruL L w), wQQ q)) 1 rfl ?_
              refine tv_top (show (nI (800 * N)) + (nI i) = nI ((800 * N) + i) from nI_add (800 * N) i) ?_
              refine tv_ialN (k := ((800 * N) + i)) rfl (rfl) (⟨by omega, by omega⟩) ?_
              refine tv_top (hc) ?_
              refine tv_b (pc' := 45) (ls' := [some (.ref 80), some (.int (nI N)), some (.int (nI k)), some (.int (nI (20 * N + k))), some (.int (nI (r.length + 1 + 1))), some (.int (nI i)), o6, o7]) (st' := [.int ((nI (menc c)) >>> (24 &&& 31))]) (h' := (n, sl, wKK kk, I, (ruL L w), wQQ q)) 2 rfl ?_
              refine tv_top (nI_shrM hcg) ?_
              refine tv_b (pc' := 55) (ls' := [some (.ref 80), some (.int (nI N)), some (.int (nI k)), some (.int (nI (20 * N + k))), some (.int (nI (r.length + 1 + 1))), some (.int (nI i)), some (.int (nI c.1)), o7]) (st' := [.int (nI N), .int 800, .ref 87]) (h' := (n, sl, wKK kk, I, (ruL L w), wQQ q)) 5 rfl ?_
              refine tv_b (pc' := 56) (ls' := [some (.ref 80), some (.int (nI N)), some (.int (nI k)), some (.int (nI (20 * N + k))), some (.int (nI (r.length + 1 + 1))), some (.int (nI i)), some (.int (nI c.1)), o7]) (st' := [.int (800 * (nI N)), .ref 87]) (h' := (n, sl, wKK kk, I, (ruL L w), wQQ q)) 1 rfl ?_
              refine tv_top (show 800 * (nI N) = nI (800 * N) from nI_mul 800 N) ?_
              refine tv_b (pc' := 58) (ls' := [some (.ref 80), some (.int (nI N)), some (.int (nI k)), some (.int (nI (20 * N + k))), some (.int (nI (r.length + 1 + 1))), some (.int (nI i)), some (.int (nI c.1)), o7]) (st' := [.int (nI i), .int (nI (800 * N)), .ref 87]) (h' := (n, sl, wKK kk, I, (ruL L w), wQQ q)) 1 rfl ?_
              refine tv_b (pc' := 59) (ls' := [some (.ref 80), some (.int (nI N)), some (.int (nI k)), some (.int (nI (20 * N + k))), some (.int (nI (r.length + 1 + 1))), some (.int (nI i)), some (.int (nI c.1)), o7]) (st' := [.int ((nI (800 * N)) + (nI i)), .ref 87]) (h' := (n, sl, wKK kk, I, (ruL L w), wQQ q)) 1 rfl ?_
              refine tv_top (show (nI (800 * N)) + (nI i) = nI ((800 * N) + i) from nI_add (800 * N) i) ?_
              refine tv_ialN (k := ((800 * N) + i)) rfl (rfl) (⟨by omega, by omega⟩) ?_
              refine tv_top (hc) ?_
              refine tv_b (pc' := 64) (ls' := [some (.ref 80), some (.int (nI N)), some (.int (nI k)), some (.int (nI (20 * N + k))), some (.int (nI (r.length + 1 + 1))), some (.int (nI i)), some (.int (nI c.1)), o7]) (st' := [.int ((nI (menc c)) &&& 16777215)]) (h' := (n, sl, wKK kk, I, (ruL L w), wQQ q)) 2 rfl ?_
              refine tv_top (nI_andM hcg) ?_
              refine tv_b (pc' := (if 9 < (nI c.1) then 131 else 73)) (ls' := [some (.ref 80), some (.int (nI N)), some (.int (nI k)), some (.int (nI (20 * N + k))), some (.int (nI (r.length + 1 + 1))), some (.int (nI i)), some (.int (nI c.1)), some (.int (nI c.2))]) (st' := []) (h' := (n, sl, wKK kk, I, (ruL L w), wQQ q)) 4 rfl ?_
              refine tv_t ((nI_ltI (a := 9) (b := c.1) (by omega) (by omega)).mpr (by omega)) ?_
              refine tv_b (pc' := (if (nI c.1) = 26 then 138 else 161)) (ls' := [some (.ref 80), some (.int (nI N)), some (.int (nI k)), some (.int (nI (20 * N + k))), some (.int (nI (r.length + 1 + 1))), some (.int (nI i)), some (.int (nI c.1)), some (.int (nI c.2))]) (st' := []) (h' := (n, sl, wKK kk, I, (ruL L w), wQQ q)) 3 rfl ?_
              refine tv_f (fun hq => absurd ((nI_eq (a := c.1) (b := 26) (by omega) (by omega)).mp hq) (by omega)) ?_
              refine tv_iincM (k := (r.length + 1)) (ls' := [some (.ref 80), some (.int (nI N)), some (.int (nI k)), some (.int (nI (20 * N + k))), some (.int (nI (r.length + 1))), some (.int (nI i)), some (.int (nI c.1)), some (.int (nI c.2))]) rfl rfl rfl ?_
              refine tv_b (pc' := 171) (ls' := [some (.ref 80), some (.int (nI N)), some (.int (nI k)), some (.int (nI (20 * N + k))), some (.int (nI (r.length + 1))), some (.int (nI i)), some (.int (nI c.1)), some (.int (nI c.2))]) (st' := [.int 1, .int (nI (r.length + 1)), .ref 119]) (h' := (n, sl, wKK kk, I, (ruL L w), wQQ q)) 4 rfl ?_
              refine tv_b (pc' := 172) (ls' := [some (.ref 80), some (.int (nI N)), some (.int (nI k)), some (.int (nI (20 * N + k))), some (.int (nI (r.length + 1))), some (.int (nI i)), some (.int (nI c.1)), some (.int (nI c.2))]) (st' := [.int ((nI (r.length + 1)) - 1), .ref 119]) (h' := (n, sl, wKK kk, I, (ruL L w), wQQ q)) 1 rfl ?_
              refine tv_top (show (nI (r.length + 1)) - 1 = nI r.length from nI_sub (a := r.length + 1) (b := 1) (by omega)) ?_
              refine tv_b (pc' := 181) (ls' := [some (.ref 80), some (.int (nI N)), some (.int (nI k)), some (.int (nI (20 * N + k))), some (.int (nI (r.length + 1))), some (.int (nI i)), some (.int (nI c.1)), some (.int (nI c.2))]) (st' := [.int 1, .int (nI (r.length + 1)), .ref 119, .int (nI c.1), .int (nI r.length), .ref 119]) (h' := (n, sl, wKK kk, I, (ruL L w), wQQ q)) 5 rfl ?_
              refine tv_b (pc' := 182) (ls' := [some (.ref 80), some (.int (nI N)), some (.int (nI k)), some (.int (nI (20 * N + k))), some (.int (nI (r.length + 1))), some (.int (nI i)), some (.int (nI c.1)), some (.int (nI c.2))]) (st' := [.int ((nI (r.length + 1)) - 1), .ref 119, .int (nI c.1), .int (nI r.length), .ref 119]) (h' := (n, sl, wKK kk, I, (ruL L w), wQQ q)) 1 rfl ?_
              refine tv_top (show (nI (r.length + 1)) - 1 = nI r.length from nI_sub (a := r.length + 1) (b := 1) (by omega)) ?_
              refine tv_lalN (k := r.length) rfl (rfl) (⟨by omega, by omega⟩) ?_
              refine tv_b (pc' := 189) (ls' := [some (.ref 80), some (.int (nI N)), some (.int (nI k)), some (.int (nI (20 * N + k))), some (.int (nI (r.length + 1))), some (.int (nI i)), some (.int (nI c.1)), some (.int (nI c.2))]) (st' := [.int (nI (r.length + 1)), .ref 119, .long (w r.length), .int (nI c.1), .int (nI r.length), .ref 119]) (h' := (n, sl, wKK kk, I, (ruL L w), wQQ q)) 3 rfl ?_
              refine tv_lalN (k := (r.length + 1)) rfl (rfl) (⟨by omega, by omega⟩) ?_
              refine tv_csE [.int (nI c.1), .long (w r.length), .long (w (r.length + 1))] [.int (nI r.length), .ref 119] rfl rfl (by omega) rfl (Nat.le_of_ble_eq_true rfl) (Nat.le_of_ble_eq_true rfl) (ev_m_two (by omega)) ?_
              refine tv_lasN (k := r.length) rfl (rfl) (⟨by omega, by omega⟩) ?_
              refine tv_hL ruL_w_w ?_
              refine tv_iincN (k := i) (ls' := [some (.ref 80), some (.int (nI N)), some (.int (nI k)), some (.int (nI (20 * N + k))), some (.int (nI (r.length + 1))), some (.int (nI (i + 1))), some (.int (nI c.1)), some (.int (nI c.2))]) rfl rfl rfl ?_
              refine tv_b (pc' := 18) (ls' := [some (.ref 80), some (.int (nI N)), some (.int (nI k)), some (.int (nI (20 * N + k))), some (.int (nI (r.length + 1))), some (.int (nI (i + 1))), some (.int (nI c.1)), some (.int (nI c.2))]) (st' := []) (h' := (n, sl, wKK kk, I, (ruL L (vp_updL w r.length (twR c.1 (w r.length) (w (r.length + 1))))), wQQ q)) 1 rfl ?_
              exact ih2 _ _
    · rw [if_neg hcg] at hev2; cases hev2
theorem tv_m_runs {d n sl : Nat} {kk : Nat → Nat × Nat} {I : Nat → Nat → Int32} {L : Nat → Nat → Int64} {q : Nat → Nat → Option Nat} {N k TO : Nat} {ld fc : Nat → Int64} {v : Int64} (hN : N ≤ 200) (hk : k < 20) (hTO : TO ≤ 800) (h86 : I 86 (20 * N + k) = nI TO) (hld : ∀ c, c < 16777216 → ld c = sp_m_loadOf (nI c) I L) (hfc : ∀ i, i < 7 → fc i = L 120 (i + 1)) {A : Nat} {rs : List (Nat × Nat)} (h85 : I 85 (20 * N + k) = nI A) (hcell : ∀ j, j < rs.length → I 87 (800 * N + A + j) = nI (menc (rs.getD j (0, 0)))) (hA : A + rs.length = TO) (hev : pa_evR ld fc twR rs [] = some [v]) : am_T (d + 4) 219 0 (am_ent 8 [.ref 80, .int (nI N), .int (nI k)]) [] (n, sl, wKK kk, I, L, wQQ q) (fun rv h' => rv = some (.long v) ∧ ∃ w', h' = (n, sl, wKK kk, I, (ruL L w'), wQQ q)) := by
  show am_T _ _ 0 [some (.ref 80), some (.int (nI N)), some (.int (nI k)), none, none, none, none, none] _ _ _
  refine tv_b (pc' := 3) (ls' := [some (.ref 80), some (.int (nI N)), some (.int (nI k)), none, none, none, none, none]) (st' := [.int (nI N), .int 20]) (h' := (n, sl, wKK kk, I, L, wQQ q)) 2 rfl ?_
  refine tv_b (pc' := 4) (ls' := [some (.ref 80), some (.int (nI N)), some (.int (nI k)), none, none, none, none, none]) (st' := [.int (20 * (nI N))]) (h' := (n, sl, wKK kk, I, L, wQQ q)) 1 rfl ?_
  refine tv_top (show 20 * (nI N) = nI (20 * N) from nI_mul 20 N) ?_
  refine tv_b (pc' := 5) (ls' := [some (.ref 80), some (.int (nI N)), some (.int (nI k)), none, none, none, none, none]) (st' := [.int (nI k), .int (nI (20 * N))]) (h' := (n, sl, wKK kk, I, L, wQQ q)) 1 rfl ?_
  refine tv_b (pc' := 6) (ls' := [some (.ref 80), some (.int (nI N)), some (.int (nI k)), none, none, none, none, none]) (st' := [.int ((nI (20 * N)) + (nI k))]) (h' := (n, sl, wKK kk, I, L, wQQ q)) 1 rfl ?_
  refine tv_top (show (nI (20 * N)) + (nI k) = nI ((20 * N) + k) from nI_add (20 * N) k) ?_
  refine tv_b (pc' := 15) (ls' := [some (.ref 80), some (.int (nI N)), some (.int (nI k)), some (.int (nI ((20 * N) + k))), some (.int 0), none, none, none]) (st' := [.int (nI ((20 * N) + k)), .ref 85]) (h' := (n, sl, wKK kk, I, L, wQQ q)) 6 rfl ?_
  refine tv_ialN (k := ((20 * N) + k)) rfl (rfl) (⟨by omega, by omega⟩) ?_
  refine tv_top (h85) ?_
  refine tv_b (pc' := 18) (ls' := [some (.ref 80), some (.int (nI N)), some (.int (nI k)), some (.int (nI ((20 * N) + k))), some (.int 0), some (.int (nI A)), none, none]) (st' := []) (h' := (n, sl, wKK kk, I, L, wQQ q)) 1 rfl ?_
  refine tv_hL ruL_self ?_
  exact tv_m_rl hN hk hTO h86 hld hfc rs A [] (L 119) none none (fun j hj => by rw [← Nat.add_assoc]; exact hcell j hj) hA (by decide) hev trivial
