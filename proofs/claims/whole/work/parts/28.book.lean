/-! WHAT THE REFERENCE GATHERS OF ITS BOOK -/
theorem ev_lsE {d mi pc : Nat} {ls ls' : am_L} {st : List Value} {h : am_H} {r : Option Value × am_H} (e : ls = ls') (k1 : am_Ev d mi pc ls' st h r) : am_Ev d mi pc ls st h r := by
  rw [e]
  exact k1
theorem nI_notlt {a b : Nat} (h : b ≤ a) (ha : a < 2 ^ 31) : ¬ nI a < nI b := Int32.not_lt.mpr ((nI_leI (by omega) ha).mpr h)
def bd_m_l0 (k : Nat) (I : Nat → Nat → Int32) (L : Nat → Nat → Int64) : (Nat → Nat → Int64) := ((va_up (va_up L 115 (vp_updL (L 115) k 0)) 116 (vp_updL ((va_up L 115 (vp_updL (L 115) k 0)) 116) k 0)))
def it_m_l0 (I : Nat → Nat → Int32) (L : Nat → Nat → Int64) : Nat → (Nat → Nat → Int64)
  | 0 => (L)
  | k + 1 => bd_m_l0 k I (it_m_l0 I L k)
theorem sg_m_l0 {d n sl : Nat} {kk : Nat → Nat × Nat} {q : Nat → Nat → Option Nat} {r : Option Value × am_H} {o2 : Option Value} {k : Nat} (I : Nat → Nat → Int32) (L : Nat → Nat → Int64)  (hk : k < 400) (h9 : ∀ (o2 : Option Value), am_Ev (d) 203 2 [some (.ref 80), some (.int (nI (k + 1))), o2] [] (n, sl, wKK kk, I, (bd_m_l0 k I L), wQQ q) r) : am_Ev (d) 203 2 [some (.ref 80), some (.int (nI k)), o2] [] (n, sl, wKK kk, I, L, wQQ q) r := by
  have h8 : ∀ (o2 : Option Value), am_Ev (d) 203 2 [some (.ref 80), some (.int (nI (k + 1))), o2] [] (n, sl, wKK kk, I, (va_up (va_up L 115 (vp_updL (L 115) k 0)) 116 (vp_updL ((va_up L 115 (vp_updL (L 115) k 0)) 116) k 0)), wQQ q) r := h9
  refine ev_b (pc' := (if 400 ≤ (nI k) then 29 else 9)) (ls' := [some (.ref 80), some (.int (nI k)), o2]) (st' := []) (h' := (n, sl, wKK kk, I, L, wQQ q)) 3 rfl ?_
  refine ev_f (nI_ge (a := k) (b := 400) (by omega) (by omega)) ?_
  refine ev_b (pc' := 15) (ls' := [some (.ref 80), some (.int (nI k)), o2]) (st' := [.long 0, .int (nI k), .ref 115]) (h' := (n, sl, wKK kk, I, L, wQQ q)) 4 rfl ?_
  refine ev_lasN (k := k) rfl (rfl) (by omega) ?_
  refine ev_b (pc' := 22) (ls' := [some (.ref 80), some (.int (nI k)), o2]) (st' := [.long 0, .int (nI k), .ref 116]) (h' := (n, sl, wKK kk, I, va_up L 115 (vp_updL (L 115) k 0), wQQ q)) 4 rfl ?_
  refine ev_lasN (k := k) rfl (rfl) (by omega) ?_
  refine ev_iincN (k := k) (ls' := [some (.ref 80), some (.int (nI (k + 1))), o2]) rfl rfl rfl ?_
  refine ev_b (pc' := 2) (ls' := [some (.ref 80), some (.int (nI (k + 1))), o2]) (st' := []) (h' := (n, sl, wKK kk, I, va_up (va_up L 115 (vp_updL (L 115) k 0)) 116 (vp_updL ((va_up L 115 (vp_updL (L 115) k 0)) 116) k 0), wQQ q)) 1 rfl ?_
  exact h8 (o2)
theorem lp_m_l0 {d n sl : Nat} {kk : Nat → Nat × Nat} {q : Nat → Nat → Option Nat} {r : Option Value × am_H} {o2 : Option Value} (I : Nat → Nat → Int32) (L : Nat → Nat → Int64)  (h9 : ∀ (o2 : Option Value), am_Ev (d) 203 29 [some (.ref 80), some (.int (nI 400)), o2] [] (n, sl, wKK kk, I, (it_m_l0 I L 400), wQQ q) r) : am_Ev (d) 203 2 [some (.ref 80), some (.int 0), o2] [] (n, sl, wKK kk, I, L, wQQ q) r := by
  have loop : ∀ zz k : Nat, k + zz = 400 → ∀ (o2 : Option Value), am_Ev (d) 203 2 [some (.ref 80), some (.int (nI k)), o2] [] (n, sl, wKK kk, I, (it_m_l0 I L k), wQQ q) r := by
    intro zz
    induction zz with
    | zero =>
      intro k hk o2
      have hk9 : k = 400 := by omega
      rw [hk9]
      refine ev_b (pc' := (if 400 ≤ (nI 400) then 29 else 9)) (ls' := [some (.ref 80), some (.int (nI 400)), o2]) (st' := []) (h' := (n, sl, wKK kk, I, (it_m_l0 I L 400), wQQ q)) 3 rfl ?_
      refine ev_t (by decide) ?_
      exact h9 _
    | succ zz ih =>
      intro k hk o2
      exact sg_m_l0 _ _  (by omega) (ih (k + 1) (by omega))
  exact loop 400 0 (by omega) _
def bd_m_l2 (nn : Nat) (A : Nat) (B : Nat) (k : Nat) (I : Nat → Nat → Int32) (L : Nat → Nat → Int64) : (Nat → Nat → Int64) := ((va_up (va_up L 115 (vp_updL (L 115) (A + k) ((L 115 (A + k)) + ((I 109 nn).toInt64)))) 116 (vp_updL ((va_up L 115 (vp_updL (L 115) (A + k) ((L 115 (A + k)) + ((I 109 nn).toInt64)))) 116) (A + k) ((L 116 (A + k)) + (((I 109 nn).toInt64) * ((I 110 nn).toInt64))))))
def it_m_l2 (nn : Nat) (A : Nat) (B : Nat) (I : Nat → Nat → Int32) (L : Nat → Nat → Int64) : Nat → (Nat → Nat → Int64)
  | 0 => (L)
  | k + 1 => bd_m_l2 nn A B k I (it_m_l2 nn A B I L k)
theorem sg_m_l2 {d n sl : Nat} {kk : Nat → Nat × Nat} {q : Nat → Nat → Option Nat} {r : Option Value × am_H} (nn : Nat) (A : Nat) (B : Nat) {k : Nat} (I : Nat → Nat → Int32) (L : Nat → Nat → Int64) (hB : I 111 nn = nI B) (hA : A ≤ B + 1) (hB4 : B < 400) (hn : nn ≤ 200) (hk : k < B + 1 - A) (h9 : am_Ev (d) 203 66 [some (.ref 80), some (.int (nI nn)), some (.int (nI (A + (k + 1))))] [] (n, sl, wKK kk, I, (bd_m_l2 nn A B k I L), wQQ q) r) : am_Ev (d) 203 66 [some (.ref 80), some (.int (nI nn)), some (.int (nI (A + k)))] [] (n, sl, wKK kk, I, L, wQQ q) r := by
  have h8 : am_Ev (d) 203 66 [some (.ref 80), some (.int (nI nn)), some (.int (nI (A + (k + 1))))] [] (n, sl, wKK kk, I, (va_up (va_up L 115 (vp_updL (L 115) (A + k) ((L 115 (A + k)) + ((I 109 nn).toInt64)))) 116 (vp_updL ((va_up L 115 (vp_updL (L 115) (A + k) ((L 115 (A + k)) + ((I 109 nn).toInt64)))) 116) (A + k) ((L 116 (A + k)) + (((I 109 nn).toInt64) * ((I 110 nn).toInt64))))), wQQ q) r := h9
  refine ev_b (pc' := 72) (ls' := [some (.ref 80), some (.int (nI nn)), some (.int (nI (A + k)))]) (st' := [.int (nI nn), .ref 111, .int (nI (A + k))]) (h' := (n, sl, wKK kk, I, L, wQQ q)) 4 rfl ?_
  refine ev_ialN (k := nn) rfl (rfl) (by omega) ?_
  refine ev_b (pc' := (if (I 111 nn) < (nI (A + k)) then 122 else 76)) (ls' := [some (.ref 80), some (.int (nI nn)), some (.int (nI (A + k)))]) (st' := []) (h' := (n, sl, wKK kk, I, L, wQQ q)) 1 rfl ?_
  refine ev_f (by rw [hB]; exact nI_notlt (by omega) (by omega)) ?_
  refine ev_b (pc' := 82) (ls' := [some (.ref 80), some (.int (nI nn)), some (.int (nI (A + k)))]) (st' := [.int (nI (A + k)), .ref 115, .int (nI (A + k)), .ref 115]) (h' := (n, sl, wKK kk, I, L, wQQ q)) 4 rfl ?_
  refine ev_lalN (k := (A + k)) rfl (rfl) (by omega) ?_
  refine ev_b (pc' := 88) (ls' := [some (.ref 80), some (.int (nI nn)), some (.int (nI (A + k)))]) (st' := [.int (nI nn), .ref 109, .long (L 115 (A + k)), .int (nI (A + k)), .ref 115]) (h' := (n, sl, wKK kk, I, L, wQQ q)) 3 rfl ?_
  refine ev_ialN (k := nn) rfl (rfl) (by omega) ?_
  refine ev_b (pc' := 91) (ls' := [some (.ref 80), some (.int (nI nn)), some (.int (nI (A + k)))]) (st' := [.long ((L 115 (A + k)) + ((I 109 nn).toInt64)), .int (nI (A + k)), .ref 115]) (h' := (n, sl, wKK kk, I, L, wQQ q)) 2 rfl ?_
  refine ev_lasN (k := (A + k)) rfl (rfl) (by omega) ?_
  refine ev_b (pc' := 98) (ls' := [some (.ref 80), some (.int (nI nn)), some (.int (nI (A + k)))]) (st' := [.int (nI (A + k)), .ref 116, .int (nI (A + k)), .ref 116]) (h' := (n, sl, wKK kk, I, va_up L 115 (vp_updL (L 115) (A + k) ((L 115 (A + k)) + ((I 109 nn).toInt64))), wQQ q)) 4 rfl ?_
  refine ev_lalN (k := (A + k)) rfl (rfl) (by omega) ?_
  refine ev_b (pc' := 104) (ls' := [some (.ref 80), some (.int (nI nn)), some (.int (nI (A + k)))]) (st' := [.int (nI nn), .ref 109, .long (L 116 (A + k)), .int (nI (A + k)), .ref 116]) (h' := (n, sl, wKK kk, I, va_up L 115 (vp_updL (L 115) (A + k) ((L 115 (A + k)) + ((I 109 nn).toInt64))), wQQ q)) 3 rfl ?_
  refine ev_ialN (k := nn) rfl (rfl) (by omega) ?_
  refine ev_b (pc' := 111) (ls' := [some (.ref 80), some (.int (nI nn)), some (.int (nI (A + k)))]) (st' := [.int (nI nn), .ref 110, .long ((I 109 nn).toInt64), .long (L 116 (A + k)), .int (nI (A + k)), .ref 116]) (h' := (n, sl, wKK kk, I, va_up L 115 (vp_updL (L 115) (A + k) ((L 115 (A + k)) + ((I 109 nn).toInt64))), wQQ q)) 4 rfl ?_
  refine ev_ialN (k := nn) rfl (rfl) (by omega) ?_
  refine ev_b (pc' := 115) (ls' := [some (.ref 80), some (.int (nI nn)), some (.int (nI (A + k)))]) (st' := [.long ((L 116 (A + k)) + (((I 109 nn).toInt64) * ((I 110 nn).toInt64))), .int (nI (A + k)), .ref 116]) (h' := (n, sl, wKK kk, I, va_up L 115 (vp_updL (L 115) (A + k) ((L 115 (A + k)) + ((I 109 nn).toInt64))), wQQ q)) 3 rfl ?_
  refine ev_lasN (k := (A + k)) rfl (rfl) (by omega) ?_
  refine ev_iincN (k := (A + k)) (ls' := [some (.ref 80), some (.int (nI nn)), some (.int (nI (A + k + 1)))]) rfl rfl rfl ?_
  refine ev_b (pc' := 66) (ls' := [some (.ref 80), some (.int (nI nn)), some (.int (nI (A + k + 1)))]) (st' := []) (h' := (n, sl, wKK kk, I, va_up (va_up L 115 (vp_updL (L 115) (A + k) ((L 115 (A + k)) + ((I 109 nn).toInt64)))) 116 (vp_updL ((va_up L 115 (vp_updL (L 115) (A + k) ((L 115 (A + k)) + ((I 109 nn).toInt64)))) 116) (A + k) ((L 116 (A + k)) + (((I 109 nn).toInt64) * ((I 110 nn).toInt64)))), wQQ q)) 1 rfl ?_
  exact h8
theorem lp_m_l2 {d n sl : Nat} {kk : Nat → Nat × Nat} {q : Nat → Nat → Option Nat} {r : Option Value × am_H} (nn : Nat) (A : Nat) (B : Nat) (I : Nat → Nat → Int32) (L : Nat → Nat → Int64) (hB : I 111 nn = nI B) (hA : A ≤ B + 1) (hB4 : B < 400) (hn : nn ≤ 200) (h9 : am_Ev (d) 203 122 [some (.ref 80), some (.int (nI nn)), some (.int (nI (A + (B + 1 - A))))] [] (n, sl, wKK kk, I, (it_m_l2 nn A B I L (B + 1 - A)), wQQ q) r) : am_Ev (d) 203 66 [some (.ref 80), some (.int (nI nn)), some (.int (nI A))] [] (n, sl, wKK kk, I, L, wQQ q) r := by
  have loop : ∀ zz k : Nat, k + zz = B + 1 - A → am_Ev (d) 203 66 [some (.ref 80), some (.int (nI nn)), some (.int (nI (A + k)))] [] (n, sl, wKK kk, I, (it_m_l2 nn A B I L k), wQQ q) r := by
    intro zz
    induction zz with
    | zero =>
      intro k hk
      have hk9 : k = B + 1 - A := by omega
      rw [hk9]
      refine ev_b (pc' := 72) (ls' := [some (.ref 80), some (.int (nI nn)), some (.int (nI (A + (B + 1 - A))))]) (st' := [.int (nI nn), .ref 111, .int (nI (A + (B + 1 - A)))]) (h' := (n, sl, wKK kk, I, (it_m_l2 nn A B I L (B + 1 - A)), wQQ q)) 4 rfl ?_
      refine ev_ialN (k := nn) rfl (rfl) (by omega) ?_
      refine ev_b (pc' := (if (I 111 nn) < (nI (A + (B + 1 - A))) then 122 else 76)) (ls' := [some (.ref 80), some (.int (nI nn)), some (.int (nI (A + (B + 1 - A))))]) (st' := []) (h' := (n, sl, wKK kk, I, (it_m_l2 nn A B I L (B + 1 - A)), wQQ q)) 1 rfl ?_
      refine ev_t (by rw [hB]; exact nI_lt (by omega) (by omega)) ?_
      exact h9
    | succ zz ih =>
      intro k hk
      exact sg_m_l2 nn A B _ _ hB hA hB4 hn (by omega) (ih (k + 1) (by omega))
  exact loop (B + 1 - A) 0 (by omega)
def bd_m_l1 (N : Nat) (k : Nat) (I : Nat → Nat → Int32) (L : Nat → Nat → Int64) : (Nat → Nat → Int64) := ((if (sp_m_isKnown (nI (k + 1)) I L) = 0 then L else (if (I 107 (k + 1)) = 0 then (it_m_l2 (k + 1) ((I 108 (k + 1)).toNatClampNeg) ((I 111 (k + 1)).toNatClampNeg) I L (((I 111 (k + 1)).toNatClampNeg) + 1 - ((I 108 (k + 1)).toNatClampNeg))) else L)))
def it_m_l1 (N : Nat) (I : Nat → Nat → Int32) (L : Nat → Nat → Int64) : Nat → (Nat → Nat → Int64)
  | 0 => (L)
  | k + 1 => bd_m_l1 N k I (it_m_l1 N I L k)
theorem sg_m_l1 {d n sl : Nat} {kk : Nat → Nat × Nat} {q : Nat → Nat → Option Nat} {r : Option Value × am_H} (N : Nat) {o2 : Option Value} {k : Nat} (I : Nat → Nat → Int32) (L : Nat → Nat → Int64) (hN : sp_m_now I L = nI N) (hN2 : N ≤ 200) (hl : ∀ j, j < N → I 107 (j + 1) = 0 → I 108 (j + 1) = nI (I 108 (j + 1)).toNatClampNeg ∧ I 111 (j + 1) = nI (I 111 (j + 1)).toNatClampNeg ∧ (I 108 (j + 1)).toNatClampNeg ≤ (I 111 (j + 1)).toNatClampNeg + 1 ∧ (I 111 (j + 1)).toNatClampNeg < 400) (hk : k < N) (h9 : ∀ (o2 : Option Value), am_Ev (d + 2) 203 31 [some (.ref 80), some (.int (nI ((k + 1) + 1))), o2] [] (n, sl, wKK kk, I, (bd_m_l1 N k I L), wQQ q) r) : am_Ev (d + 2) 203 31 [some (.ref 80), some (.int (nI (k + 1))), o2] [] (n, sl, wKK kk, I, L, wQQ q) r := by
  have h8 : ∀ (o2 : Option Value), am_Ev (d + 2) 203 31 [some (.ref 80), some (.int (nI ((k + 1) + 1))), o2] [] (n, sl, wKK kk, I, (if (sp_m_isKnown (nI (k + 1)) I L) = 0 then L else (if (I 107 (k + 1)) = 0 then (it_m_l2 (k + 1) ((I 108 (k + 1)).toNatClampNeg) ((I 111 (k + 1)).toNatClampNeg) I L (((I 111 (k + 1)).toNatClampNeg) + 1 - ((I 108 (k + 1)).toNatClampNeg))) else L)), wQQ q) r := h9
  refine ev_b (pc' := 33) (ls' := [some (.ref 80), some (.int (nI (k + 1))), o2]) (st' := [.ref 80, .int (nI (k + 1))]) (h' := (n, sl, wKK kk, I, L, wQQ q)) 2 rfl ?_
  refine ev_cv [] [.int (nI (k + 1))] rfl rfl (by omega) rfl (Nat.le_of_ble_eq_true rfl) (Nat.le_of_ble_eq_true rfl) (Or.inr (Or.inr rfl)) (ev_m_now) ?_
  refine ev_b (pc' := (if (sp_m_now I L) < (nI (k + 1)) then 128 else 39)) (ls' := [some (.ref 80), some (.int (nI (k + 1))), o2]) (st' := []) (h' := (n, sl, wKK kk, I, L, wQQ q)) 1 rfl ?_
  refine ev_f (by rw [hN]; exact nI_notlt (by omega) (by omega)) ?_
  refine ev_b (pc' := 41) (ls' := [some (.ref 80), some (.int (nI (k + 1))), o2]) (st' := [.int (nI (k + 1)), .ref 80]) (h' := (n, sl, wKK kk, I, L, wQQ q)) 2 rfl ?_
  refine ev_cv [.int (nI (k + 1))] [] rfl rfl (by omega) rfl (Nat.le_of_ble_eq_true rfl) (Nat.le_of_ble_eq_true rfl) (Or.inr (Or.inr rfl)) (ev_m_isKnown (fun _ _ => ev_ix (by omega) (by omega))) ?_
  refine ev_b (pc' := (if (sp_m_isKnown (nI (k + 1)) I L) = 0 then 122 else 47)) (ls' := [some (.ref 80), some (.int (nI (k + 1))), o2]) (st' := []) (h' := (n, sl, wKK kk, I, L, wQQ q)) 1 rfl ?_
  refine ev_if (fun c44 => ?_) (fun c44 => ?_)
  · refine ev_iincN (k := (k + 1)) (ls' := [some (.ref 80), some (.int (nI (k + 1 + 1))), o2]) rfl rfl rfl ?_
    refine ev_b (pc' := 31) (ls' := [some (.ref 80), some (.int (nI (k + 1 + 1))), o2]) (st' := []) (h' := (n, sl, wKK kk, I, L, wQQ q)) 1 rfl ?_
    simp only [if_pos c44] at h8; exact h8 (o2)
  · refine ev_b (pc' := 52) (ls' := [some (.ref 80), some (.int (nI (k + 1))), o2]) (st' := [.int (nI (k + 1)), .ref 107]) (h' := (n, sl, wKK kk, I, L, wQQ q)) 3 rfl ?_
    refine ev_ialN (k := (k + 1)) rfl (rfl) (by omega) ?_
    refine ev_b (pc' := (if (I 107 (k + 1)) = 0 then 59 else 56)) (ls' := [some (.ref 80), some (.int (nI (k + 1))), o2]) (st' := []) (h' := (n, sl, wKK kk, I, L, wQQ q)) 1 rfl ?_
    refine ev_if (fun c53 => ?_) (fun c53 => ?_)
    · refine ev_b (pc' := 64) (ls' := [some (.ref 80), some (.int (nI (k + 1))), o2]) (st' := [.int (nI (k + 1)), .ref 108]) (h' := (n, sl, wKK kk, I, L, wQQ q)) 3 rfl ?_
      refine ev_ialN (k := (k + 1)) rfl (rfl) (by omega) ?_
      refine ev_b (pc' := 66) (ls' := [some (.ref 80), some (.int (nI (k + 1))), some (.int (I 108 (k + 1)))]) (st' := []) (h' := (n, sl, wKK kk, I, L, wQQ q)) 1 rfl ?_
      refine ev_lsE (congrArg (fun zq : Int32 => ([some (.ref 80), some (.int (nI (k + 1))), some (.int zq)] : am_L)) (show I 108 (k + 1) = nI ((I 108 (k + 1)).toNatClampNeg) from (hl k hk c53).1)) ?_
      refine lp_m_l2 (k + 1) ((I 108 (k + 1)).toNatClampNeg) ((I 111 (k + 1)).toNatClampNeg) I L (hl k hk c53).2.1 (hl k hk c53).2.2.1 (hl k hk c53).2.2.2 (by omega) (?_)
      refine ev_iincN (k := (k + 1)) (ls' := [some (.ref 80), some (.int (nI (k + 1 + 1))), (some (.int (nI (((I 108 (k + 1)).toNatClampNeg) + (((I 111 (k + 1)).toNatClampNeg) + 1 - ((I 108 (k + 1)).toNatClampNeg))))))]) rfl rfl rfl ?_
      refine ev_b (pc' := 31) (ls' := [some (.ref 80), some (.int (nI (k + 1 + 1))), (some (.int (nI (((I 108 (k + 1)).toNatClampNeg) + (((I 111 (k + 1)).toNatClampNeg) + 1 - ((I 108 (k + 1)).toNatClampNeg))))))]) (st' := []) (h' := (n, sl, wKK kk, I, (it_m_l2 (k + 1) ((I 108 (k + 1)).toNatClampNeg) ((I 111 (k + 1)).toNatClampNeg) I L (((I 111 (k + 1)).toNatClampNeg) + 1 - ((I 108 (k + 1)).toNatClampNeg))), wQQ q)) 1 rfl ?_
      simp only [if_neg c44, if_pos c53] at h8; exact h8 ((some (.int (nI (((I 108 (k + 1)).toNatClampNeg) + (((I 111 (k + 1)).toNatClampNeg) + 1 - ((I 108 (k + 1)).toNatClampNeg)))))))
    · refine ev_b (pc' := 122) (ls' := [some (.ref 80), some (.int (nI (k + 1))), o2]) (st' := []) (h' := (n, sl, wKK kk, I, L, wQQ q)) 1 rfl ?_
      refine ev_iincN (k := (k + 1)) (ls' := [some (.ref 80), some (.int (nI (k + 1 + 1))), o2]) rfl rfl rfl ?_
      refine ev_b (pc' := 31) (ls' := [some (.ref 80), some (.int (nI (k + 1 + 1))), o2]) (st' := []) (h' := (n, sl, wKK kk, I, L, wQQ q)) 1 rfl ?_
      simp only [if_neg c44, if_neg c53] at h8; exact h8 (o2)
theorem lp_m_l1 {d n sl : Nat} {kk : Nat → Nat × Nat} {q : Nat → Nat → Option Nat} {r : Option Value × am_H} (N : Nat) {o2 : Option Value} (I : Nat → Nat → Int32) (L : Nat → Nat → Int64) (hN : sp_m_now I L = nI N) (hN2 : N ≤ 200) (hl : ∀ j, j < N → I 107 (j + 1) = 0 → I 108 (j + 1) = nI (I 108 (j + 1)).toNatClampNeg ∧ I 111 (j + 1) = nI (I 111 (j + 1)).toNatClampNeg ∧ (I 108 (j + 1)).toNatClampNeg ≤ (I 111 (j + 1)).toNatClampNeg + 1 ∧ (I 111 (j + 1)).toNatClampNeg < 400) (h9 : ∀ (o2 : Option Value), am_Ev (d + 2) 203 128 [some (.ref 80), some (.int (nI (N + 1))), o2] [] (n, sl, wKK kk, I, (it_m_l1 N I L N), wQQ q) r) : am_Ev (d + 2) 203 31 [some (.ref 80), some (.int 1), o2] [] (n, sl, wKK kk, I, L, wQQ q) r := by
  have loop : ∀ zz k : Nat, k + zz = N → ∀ (o2 : Option Value), am_Ev (d + 2) 203 31 [some (.ref 80), some (.int (nI (k + 1))), o2] [] (n, sl, wKK kk, I, (it_m_l1 N I L k), wQQ q) r := by
    intro zz
    induction zz with
    | zero =>
      intro k hk o2
      have hk9 : k = N := by omega
      rw [hk9]
      refine ev_b (pc' := 33) (ls' := [some (.ref 80), some (.int (nI (N + 1))), o2]) (st' := [.ref 80, .int (nI (N + 1))]) (h' := (n, sl, wKK kk, I, (it_m_l1 N I L N), wQQ q)) 2 rfl ?_
      refine ev_cv [] [.int (nI (N + 1))] rfl rfl (by omega) rfl (Nat.le_of_ble_eq_true rfl) (Nat.le_of_ble_eq_true rfl) (Or.inr (Or.inr rfl)) (ev_m_now) ?_
      refine ev_b (pc' := (if (sp_m_now I (it_m_l1 N I L N)) < (nI (N + 1)) then 128 else 39)) (ls' := [some (.ref 80), some (.int (nI (N + 1))), o2]) (st' := []) (h' := (n, sl, wKK kk, I, (it_m_l1 N I L N), wQQ q)) 1 rfl ?_
      refine ev_t (by show sp_m_now I L < _; rw [hN]; exact nI_lt (by omega) (by omega)) ?_
      exact h9 _
    | succ zz ih =>
      intro k hk o2
      exact sg_m_l1 N _ _ hN hN2 hl (by omega) (ih (k + 1) (by omega))
  exact loop N 0 (by omega) _
def sI_m_leads  (I : Nat → Nat → Int32) (L : Nat → Nat → Int64) : Nat → Nat → Int32 := I
def sL_m_leads  (I : Nat → Nat → Int32) (L : Nat → Nat → Int64) : Nat → Nat → Int64 := (it_m_l1 ((sp_m_now I L).toNatClampNeg) I (it_m_l0 I L 400) ((sp_m_now I L).toNatClampNeg))
theorem ev_m_leads {d : Nat} {n sl : Nat} {k : Nat → Nat × Nat} {I : Nat → Nat → Int32} {L : Nat → Nat → Int64} {q : Nat → Nat → Option Nat} (hN : sp_m_now I L = nI (sp_m_now I L).toNatClampNeg) (hN2 : (sp_m_now I L).toNatClampNeg ≤ 200) (hl : ∀ j, j < (sp_m_now I L).toNatClampNeg → I 107 (j + 1) = 0 → I 108 (j + 1) = nI (I 108 (j + 1)).toNatClampNeg ∧ I 111 (j + 1) = nI (I 111 (j + 1)).toNatClampNeg ∧ (I 108 (j + 1)).toNatClampNeg ≤ (I 111 (j + 1)).toNatClampNeg + 1 ∧ (I 111 (j + 1)).toNatClampNeg < 400) : am_Ev (d + 2) 203 0 (am_ent 3 [.ref 80]) [] (n, sl, wKK k, I, L, wQQ q) (none, (n, sl, wKK k, sI_m_leads I L, sL_m_leads I L, wQQ q)) := by
  show am_Ev _ _ 0 [some (.ref 80), none, none] _ _ (none, (n, sl, wKK k, I, (it_m_l1 ((sp_m_now I L).toNatClampNeg) I (it_m_l0 I L 400) ((sp_m_now I L).toNatClampNeg)), wQQ q))
  refine ev_b (pc' := 2) (ls' := [some (.ref 80), some (.int 0), none]) (st' := []) (h' := (n, sl, wKK k, I, L, wQQ q)) 2 rfl ?_
  refine lp_m_l0 I L  (fun o2 => ?_)
  refine ev_b (pc' := 31) (ls' := [some (.ref 80), some (.int 1), o2]) (st' := []) (h' := (n, sl, wKK k, I, (it_m_l0 I L 400), wQQ q)) 2 rfl ?_
  refine lp_m_l1 ((sp_m_now I L).toNatClampNeg) I (it_m_l0 I L 400) hN hN2 hl (fun o2 => ?_)
  exact ev_rv rfl rfl
theorem sIe_m_leads  (I : Nat → Nat → Int32) (L : Nat → Nat → Int64) : sI_m_leads I L = I := by
  unfold sI_m_leads
  try (repeat' split) <;> rfl
def bd_m_g0 (k : Nat) (I : Nat → Nat → Int32) (L : Nat → Nat → Int64) : (Nat → Nat → Int32) := ((va_up (va_up I 117 (upd (I 117) k 0)) 118 (upd ((va_up I 117 (upd (I 117) k 0)) 118) k 0)))
def it_m_g0 (I : Nat → Nat → Int32) (L : Nat → Nat → Int64) : Nat → (Nat → Nat → Int32)
  | 0 => (I)
  | k + 1 => bd_m_g0 k (it_m_g0 I L k) L
theorem fI_m_g0 (I : Nat → Nat → Int32) (L : Nat → Nat → Int64) {j : Nat} (h0 : j ≠ 117) (h1 : j ≠ 118) : ∀ k, (it_m_g0 I L k) j = I j := by
  intro k
  induction k with
  | zero => rfl
  | succ k ih =>
    rw [← ih]
    show (bd_m_g0 k (it_m_g0 I L k) L) j = _
    unfold bd_m_g0
    try dsimp only
    (repeat' split) <;> simp only [va_up, if_neg h0, if_neg h1]
theorem sg_m_g0 {d n sl : Nat} {kk : Nat → Nat × Nat} {q : Nat → Nat → Option Nat} {r : Option Value × am_H} {k : Nat} (I : Nat → Nat → Int32) (L : Nat → Nat → Int64)  (hk : k < 6400) (h9 : am_Ev (d) 206 2 [some (.ref 80), some (.int (nI (k + 1)))] [] (n, sl, wKK kk, (bd_m_g0 k I L), L, wQQ q) r) : am_Ev (d) 206 2 [some (.ref 80), some (.int (nI k))] [] (n, sl, wKK kk, I, L, wQQ q) r := by
  have h8 : am_Ev (d) 206 2 [some (.ref 80), some (.int (nI (k + 1)))] [] (n, sl, wKK kk, (va_up (va_up I 117 (upd (I 117) k 0)) 118 (upd ((va_up I 117 (upd (I 117) k 0)) 118) k 0)), L, wQQ q) r := h9
  refine ev_b (pc' := (if 6400 ≤ (nI k) then 29 else 9)) (ls' := [some (.ref 80), some (.int (nI k))]) (st' := []) (h' := (n, sl, wKK kk, I, L, wQQ q)) 3 rfl ?_
  refine ev_f (nI_ge (a := k) (b := 6400) (by omega) (by omega)) ?_
  refine ev_b (pc' := 15) (ls' := [some (.ref 80), some (.int (nI k))]) (st' := [.int 0, .int (nI k), .ref 117]) (h' := (n, sl, wKK kk, I, L, wQQ q)) 4 rfl ?_
  refine ev_iasN (k := k) rfl (rfl) (by omega) ?_
  refine ev_b (pc' := 22) (ls' := [some (.ref 80), some (.int (nI k))]) (st' := [.int 0, .int (nI k), .ref 118]) (h' := (n, sl, wKK kk, va_up I 117 (upd (I 117) k 0), L, wQQ q)) 4 rfl ?_
  refine ev_iasN (k := k) rfl (rfl) (by omega) ?_
  refine ev_iincN (k := k) (ls' := [some (.ref 80), some (.int (nI (k + 1)))]) rfl rfl rfl ?_
  refine ev_b (pc' := 2) (ls' := [some (.ref 80), some (.int (nI (k + 1)))]) (st' := []) (h' := (n, sl, wKK kk, va_up (va_up I 117 (upd (I 117) k 0)) 118 (upd ((va_up I 117 (upd (I 117) k 0)) 118) k 0), L, wQQ q)) 1 rfl ?_
  exact h8
theorem lp_m_g0 {d n sl : Nat} {kk : Nat → Nat × Nat} {q : Nat → Nat → Option Nat} {r : Option Value × am_H} (I : Nat → Nat → Int32) (L : Nat → Nat → Int64)  (h9 : am_Ev (d) 206 29 [some (.ref 80), some (.int (nI 6400))] [] (n, sl, wKK kk, (it_m_g0 I L 6400), L, wQQ q) r) : am_Ev (d) 206 2 [some (.ref 80), some (.int 0)] [] (n, sl, wKK kk, I, L, wQQ q) r := by
  have loop : ∀ zz k : Nat, k + zz = 6400 → am_Ev (d) 206 2 [some (.ref 80), some (.int (nI k))] [] (n, sl, wKK kk, (it_m_g0 I L k), L, wQQ q) r := by
    intro zz
    induction zz with
    | zero =>
      intro k hk
      have hk9 : k = 6400 := by omega
      rw [hk9]
      refine ev_b (pc' := (if 6400 ≤ (nI 6400) then 29 else 9)) (ls' := [some (.ref 80), some (.int (nI 6400))]) (st' := []) (h' := (n, sl, wKK kk, (it_m_g0 I L 6400), L, wQQ q)) 3 rfl ?_
      refine ev_t (by decide) ?_
      exact h9
    | succ zz ih =>
      intro k hk
      exact sg_m_g0 _ _  (by omega) (ih (k + 1) (by omega))
  exact loop 6400 0 (by omega)
def bd_m_g1 (N : Nat) (k : Nat) (I : Nat → Nat → Int32) (L : Nat → Nat → Int64) : (Nat → Nat → Int32) := ((if (sp_m_isKnown (nI (k + 1)) I L) = 0 then I else (if (I 107 (k + 1)) = 1 then (if (I 107 (k + 1)) = 2 then (va_up (va_up I 117 (upd (I 117) (((16 * (I 108 (k + 1))) + (I 109 (k + 1))).toNatClampNeg) ((I 117 (((16 * (I 108 (k + 1))) + (I 109 (k + 1))).toNatClampNeg)) + (I 110 (k + 1))))) 118 (upd ((va_up I 117 (upd (I 117) (((16 * (I 108 (k + 1))) + (I 109 (k + 1))).toNatClampNeg) ((I 117 (((16 * (I 108 (k + 1))) + (I 109 (k + 1))).toNatClampNeg)) + (I 110 (k + 1))))) 118) (((16 * (I 108 (k + 1))) + (I 109 (k + 1))).toNatClampNeg) ((I 118 (((16 * (I 108 (k + 1))) + (I 109 (k + 1))).toNatClampNeg)) + 1))) else (va_up I 117 (upd (I 117) (((16 * (I 108 (k + 1))) + (I 109 (k + 1))).toNatClampNeg) ((I 117 (((16 * (I 108 (k + 1))) + (I 109 (k + 1))).toNatClampNeg)) + (I 110 (k + 1)))))) else (if (I 107 (k + 1)) = 2 then (va_up I 118 (upd (I 118) (((16 * (I 108 (k + 1))) + (I 109 (k + 1))).toNatClampNeg) ((I 118 (((16 * (I 108 (k + 1))) + (I 109 (k + 1))).toNatClampNeg)) + 1))) else I))))
def it_m_g1 (N : Nat) (I : Nat → Nat → Int32) (L : Nat → Nat → Int64) : Nat → (Nat → Nat → Int32)
  | 0 => (I)
  | k + 1 => bd_m_g1 N k (it_m_g1 N I L k) L
theorem fI_m_g1 (N : Nat) (I : Nat → Nat → Int32) (L : Nat → Nat → Int64) {j : Nat} (h0 : j ≠ 117) (h1 : j ≠ 118) : ∀ k, (it_m_g1 N I L k) j = I j := by
  intro k
  induction k with
  | zero => rfl
  | succ k ih =>
    rw [← ih]
    show (bd_m_g1 N k (it_m_g1 N I L k) L) j = _
    unfold bd_m_g1
    try dsimp only
    (repeat' split) <;> simp only [va_up, if_neg h0, if_neg h1]
theorem sg_m_g1 {d n sl : Nat} {kk : Nat → Nat × Nat} {q : Nat → Nat → Option Nat} {r : Option Value × am_H} (N : Nat) {k : Nat} (I : Nat → Nat → Int32) (L : Nat → Nat → Int64) (hN : sp_m_now I L = nI N) (hN2 : N ≤ 200) (hx : ∀ j, j < N → I 107 (j + 1) = 1 ∨ I 107 (j + 1) = 2 → ¬ (16 * I 108 (j + 1) + I 109 (j + 1) < 0 ∨ 6400 ≤ (16 * I 108 (j + 1) + I 109 (j + 1)).toNatClampNeg)) (hk : k < N) (h9 : am_Ev (d + 2) 206 31 [some (.ref 80), some (.int (nI ((k + 1) + 1)))] [] (n, sl, wKK kk, (bd_m_g1 N k I L), L, wQQ q) r) : am_Ev (d + 2) 206 31 [some (.ref 80), some (.int (nI (k + 1)))] [] (n, sl, wKK kk, I, L, wQQ q) r := by
  have h8 : am_Ev (d + 2) 206 31 [some (.ref 80), some (.int (nI ((k + 1) + 1)))] [] (n, sl, wKK kk, (if (sp_m_isKnown (nI (k + 1)) I L) = 0 then I else (if (I 107 (k + 1)) = 1 then (if (I 107 (k + 1)) = 2 then (va_up (va_up I 117 (upd (I 117) (((16 * (I 108 (k + 1))) + (I 109 (k + 1))).toNatClampNeg) ((I 117 (((16 * (I 108 (k + 1))) + (I 109 (k + 1))).toNatClampNeg)) + (I 110 (k + 1))))) 118 (upd ((va_up I 117 (upd (I 117) (((16 * (I 108 (k + 1))) + (I 109 (k + 1))).toNatClampNeg) ((I 117 (((16 * (I 108 (k + 1))) + (I 109 (k + 1))).toNatClampNeg)) + (I 110 (k + 1))))) 118) (((16 * (I 108 (k + 1))) + (I 109 (k + 1))).toNatClampNeg) ((I 118 (((16 * (I 108 (k + 1))) + (I 109 (k + 1))).toNatClampNeg)) + 1))) else (va_up I 117 (upd (I 117) (((16 * (I 108 (k + 1))) + (I 109 (k + 1))).toNatClampNeg) ((I 117 (((16 * (I 108 (k + 1))) + (I 109 (k + 1))).toNatClampNeg)) + (I 110 (k + 1)))))) else (if (I 107 (k + 1)) = 2 then (va_up I 118 (upd (I 118) (((16 * (I 108 (k + 1))) + (I 109 (k + 1))).toNatClampNeg) ((I 118 (((16 * (I 108 (k + 1))) + (I 109 (k + 1))).toNatClampNeg)) + 1))) else I))), L, wQQ q) r := h9
  refine ev_b (pc' := 33) (ls' := [some (.ref 80), some (.int (nI (k + 1)))]) (st' := [.ref 80, .int (nI (k + 1))]) (h' := (n, sl, wKK kk, I, L, wQQ q)) 2 rfl ?_
  refine ev_cv [] [.int (nI (k + 1))] rfl rfl (by omega) rfl (Nat.le_of_ble_eq_true rfl) (Nat.le_of_ble_eq_true rfl) (Or.inr (Or.inr rfl)) (ev_m_now) ?_
  refine ev_b (pc' := (if (sp_m_now I L) < (nI (k + 1)) then 131 else 39)) (ls' := [some (.ref 80), some (.int (nI (k + 1)))]) (st' := []) (h' := (n, sl, wKK kk, I, L, wQQ q)) 1 rfl ?_
  refine ev_f (by rw [hN]; exact nI_notlt (by omega) (by omega)) ?_
  refine ev_b (pc' := 41) (ls' := [some (.ref 80), some (.int (nI (k + 1)))]) (st' := [.int (nI (k + 1)), .ref 80]) (h' := (n, sl, wKK kk, I, L, wQQ q)) 2 rfl ?_
  refine ev_cv [.int (nI (k + 1))] [] rfl rfl (by omega) rfl (Nat.le_of_ble_eq_true rfl) (Nat.le_of_ble_eq_true rfl) (Or.inr (Or.inr rfl)) (ev_m_isKnown (fun _ _ => ev_ix (by omega) (by omega))) ?_
  refine ev_b (pc' := (if (sp_m_isKnown (nI (k + 1)) I L) = 0 then 47 else 50)) (ls' := [some (.ref 80), some (.int (nI (k + 1)))]) (st' := []) (h' := (n, sl, wKK kk, I, L, wQQ q)) 1 rfl ?_
  refine ev_if (fun c44 => ?_) (fun c44 => ?_)
  · refine ev_b (pc' := 125) (ls' := [some (.ref 80), some (.int (nI (k + 1)))]) (st' := []) (h' := (n, sl, wKK kk, I, L, wQQ q)) 1 rfl ?_
    refine ev_iincN (k := (k + 1)) (ls' := [some (.ref 80), some (.int (nI (k + 1 + 1)))]) rfl rfl rfl ?_
    refine ev_b (pc' := 31) (ls' := [some (.ref 80), some (.int (nI (k + 1 + 1)))]) (st' := []) (h' := (n, sl, wKK kk, I, L, wQQ q)) 1 rfl ?_
    simp only [if_pos c44] at h8; exact h8
  · refine ev_b (pc' := 55) (ls' := [some (.ref 80), some (.int (nI (k + 1)))]) (st' := [.int (nI (k + 1)), .ref 107]) (h' := (n, sl, wKK kk, I, L, wQQ q)) 3 rfl ?_
    refine ev_ialN (k := (k + 1)) rfl (rfl) (by omega) ?_
    refine ev_b (pc' := (if (I 107 (k + 1)) = 1 then 60 else 90)) (ls' := [some (.ref 80), some (.int (nI (k + 1)))]) (st' := []) (h' := (n, sl, wKK kk, I, L, wQQ q)) 2 rfl ?_
    refine ev_if (fun c57 => ?_) (fun c57 => ?_)
    · refine ev_b (pc' := 71) (ls' := [some (.ref 80), some (.int (nI (k + 1)))]) (st' := [.int (nI (k + 1)), .ref 108, .int 16, .ref 117]) (h' := (n, sl, wKK kk, I, L, wQQ q)) 6 rfl ?_
      refine ev_ialN (k := (k + 1)) rfl (rfl) (by omega) ?_
      refine ev_b (pc' := 78) (ls' := [some (.ref 80), some (.int (nI (k + 1)))]) (st' := [.int (nI (k + 1)), .ref 109, .int (16 * (I 108 (k + 1))), .ref 117]) (h' := (n, sl, wKK kk, I, L, wQQ q)) 4 rfl ?_
      refine ev_ialN (k := (k + 1)) rfl (rfl) (by omega) ?_
      refine ev_b (pc' := 81) (ls' := [some (.ref 80), some (.int (nI (k + 1)))]) (st' := [.int ((16 * (I 108 (k + 1))) + (I 109 (k + 1))), .ref 117, .int ((16 * (I 108 (k + 1))) + (I 109 (k + 1))), .ref 117]) (h' := (n, sl, wKK kk, I, L, wQQ q)) 2 rfl ?_
      refine ev_ial rfl (rfl) (hx k hk (Or.inl c57)) ?_
      refine ev_b (pc' := 87) (ls' := [some (.ref 80), some (.int (nI (k + 1)))]) (st' := [.int (nI (k + 1)), .ref 110, .int (I 117 (((16 * (I 108 (k + 1))) + (I 109 (k + 1))).toNatClampNeg)), .int ((16 * (I 108 (k + 1))) + (I 109 (k + 1))), .ref 117]) (h' := (n, sl, wKK kk, I, L, wQQ q)) 3 rfl ?_
      refine ev_ialN (k := (k + 1)) rfl (rfl) (by omega) ?_
      refine ev_b (pc' := 89) (ls' := [some (.ref 80), some (.int (nI (k + 1)))]) (st' := [.int ((I 117 (((16 * (I 108 (k + 1))) + (I 109 (k + 1))).toNatClampNeg)) + (I 110 (k + 1))), .int ((16 * (I 108 (k + 1))) + (I 109 (k + 1))), .ref 117]) (h' := (n, sl, wKK kk, I, L, wQQ q)) 1 rfl ?_
      refine ev_ias rfl (rfl) (hx k hk (Or.inl c57)) ?_
      refine ev_b (pc' := 95) (ls' := [some (.ref 80), some (.int (nI (k + 1)))]) (st' := [.int (nI (k + 1)), .ref 107]) (h' := (n, sl, wKK kk, va_up I 117 (upd (I 117) (((16 * (I 108 (k + 1))) + (I 109 (k + 1))).toNatClampNeg) ((I 117 (((16 * (I 108 (k + 1))) + (I 109 (k + 1))).toNatClampNeg)) + (I 110 (k + 1)))), L, wQQ q)) 3 rfl ?_
      refine ev_ialN (k := (k + 1)) rfl (rfl) (by omega) ?_
      refine ev_b (pc' := (if (I 107 (k + 1)) = 2 then 100 else 125)) (ls' := [some (.ref 80), some (.int (nI (k + 1)))]) (st' := []) (h' := (n, sl, wKK kk, va_up I 117 (upd (I 117) (((16 * (I 108 (k + 1))) + (I 109 (k + 1))).toNatClampNeg) ((I 117 (((16 * (I 108 (k + 1))) + (I 109 (k + 1))).toNatClampNeg)) + (I 110 (k + 1)))), L, wQQ q)) 2 rfl ?_
      refine ev_if (fun c97 => ?_) (fun c97 => ?_)
      · refine ev_b (pc' := 111) (ls' := [some (.ref 80), some (.int (nI (k + 1)))]) (st' := [.int (nI (k + 1)), .ref 108, .int 16, .ref 118]) (h' := (n, sl, wKK kk, va_up I 117 (upd (I 117) (((16 * (I 108 (k + 1))) + (I 109 (k + 1))).toNatClampNeg) ((I 117 (((16 * (I 108 (k + 1))) + (I 109 (k + 1))).toNatClampNeg)) + (I 110 (k + 1)))), L, wQQ q)) 6 rfl ?_
        refine ev_ialN (k := (k + 1)) rfl (rfl) (by omega) ?_
        refine ev_b (pc' := 118) (ls' := [some (.ref 80), some (.int (nI (k + 1)))]) (st' := [.int (nI (k + 1)), .ref 109, .int (16 * (I 108 (k + 1))), .ref 118]) (h' := (n, sl, wKK kk, va_up I 117 (upd (I 117) (((16 * (I 108 (k + 1))) + (I 109 (k + 1))).toNatClampNeg) ((I 117 (((16 * (I 108 (k + 1))) + (I 109 (k + 1))).toNatClampNeg)) + (I 110 (k + 1)))), L, wQQ q)) 4 rfl ?_
        refine ev_ialN (k := (k + 1)) rfl (rfl) (by omega) ?_
        refine ev_b (pc' := 121) (ls' := [some (.ref 80), some (.int (nI (k + 1)))]) (st' := [.int ((16 * (I 108 (k + 1))) + (I 109 (k + 1))), .ref 118, .int ((16 * (I 108 (k + 1))) + (I 109 (k + 1))), .ref 118]) (h' := (n, sl, wKK kk, va_up I 117 (upd (I 117) (((16 * (I 108 (k + 1))) + (I 109 (k + 1))).toNatClampNeg) ((I 117 (((16 * (I 108 (k + 1))) + (I 109 (k + 1))).toNatClampNeg)) + (I 110 (k + 1)))), L, wQQ q)) 2 rfl ?_
        refine ev_ial rfl (rfl) (hx k hk (Or.inr c97)) ?_
        refine ev_b (pc' := 124) (ls' := [some (.ref 80), some (.int (nI (k + 1)))]) (st' := [.int ((I 118 (((16 * (I 108 (k + 1))) + (I 109 (k + 1))).toNatClampNeg)) + 1), .int ((16 * (I 108 (k + 1))) + (I 109 (k + 1))), .ref 118]) (h' := (n, sl, wKK kk, va_up I 117 (upd (I 117) (((16 * (I 108 (k + 1))) + (I 109 (k + 1))).toNatClampNeg) ((I 117 (((16 * (I 108 (k + 1))) + (I 109 (k + 1))).toNatClampNeg)) + (I 110 (k + 1)))), L, wQQ q)) 2 rfl ?_
        refine ev_ias rfl (rfl) (hx k hk (Or.inr c97)) ?_
        refine ev_iincN (k := (k + 1)) (ls' := [some (.ref 80), some (.int (nI (k + 1 + 1)))]) rfl rfl rfl ?_
        refine ev_b (pc' := 31) (ls' := [some (.ref 80), some (.int (nI (k + 1 + 1)))]) (st' := []) (h' := (n, sl, wKK kk, va_up (va_up I 117 (upd (I 117) (((16 * (I 108 (k + 1))) + (I 109 (k + 1))).toNatClampNeg) ((I 117 (((16 * (I 108 (k + 1))) + (I 109 (k + 1))).toNatClampNeg)) + (I 110 (k + 1))))) 118 (upd ((va_up I 117 (upd (I 117) (((16 * (I 108 (k + 1))) + (I 109 (k + 1))).toNatClampNeg) ((I 117 (((16 * (I 108 (k + 1))) + (I 109 (k + 1))).toNatClampNeg)) + (I 110 (k + 1))))) 118) (((16 * (I 108 (k + 1))) + (I 109 (k + 1))).toNatClampNeg) ((I 118 (((16 * (I 108 (k + 1))) + (I 109 (k + 1))).toNatClampNeg)) + 1)), L, wQQ q)) 1 rfl ?_
        simp only [if_neg c44, if_pos c57, if_pos c97] at h8; exact h8
      · refine ev_iincN (k := (k + 1)) (ls' := [some (.ref 80), some (.int (nI (k + 1 + 1)))]) rfl rfl rfl ?_
        refine ev_b (pc' := 31) (ls' := [some (.ref 80), some (.int (nI (k + 1 + 1)))]) (st' := []) (h' := (n, sl, wKK kk, va_up I 117 (upd (I 117) (((16 * (I 108 (k + 1))) + (I 109 (k + 1))).toNatClampNeg) ((I 117 (((16 * (I 108 (k + 1))) + (I 109 (k + 1))).toNatClampNeg)) + (I 110 (k + 1)))), L, wQQ q)) 1 rfl ?_
        simp only [if_neg c44, if_pos c57, if_neg c97] at h8; exact h8
    · refine ev_b (pc' := 95) (ls' := [some (.ref 80), some (.int (nI (k + 1)))]) (st' := [.int (nI (k + 1)), .ref 107]) (h' := (n, sl, wKK kk, I, L, wQQ q)) 3 rfl ?_
      refine ev_ialN (k := (k + 1)) rfl (rfl) (by omega) ?_
      refine ev_b (pc' := (if (I 107 (k + 1)) = 2 then 100 else 125)) (ls' := [some (.ref 80), some (.int (nI (k + 1)))]) (st' := []) (h' := (n, sl, wKK kk, I, L, wQQ q)) 2 rfl ?_
      refine ev_if (fun c97 => ?_) (fun c97 => ?_)
      · refine ev_b (pc' := 111) (ls' := [some (.ref 80), some (.int (nI (k + 1)))]) (st' := [.int (nI (k + 1)), .ref 108, .int 16, .ref 118]) (h' := (n, sl, wKK kk, I, L, wQQ q)) 6 rfl ?_
        refine ev_ialN (k := (k + 1)) rfl (rfl) (by omega) ?_
        refine ev_b (pc' := 118) (ls' := [some (.ref 80), some (.int (nI (k + 1)))]) (st' := [.int (nI (k + 1)), .ref 109, .int (16 * (I 108 (k + 1))), .ref 118]) (h' := (n, sl, wKK kk, I, L, wQQ q)) 4 rfl ?_
        refine ev_ialN (k := (k + 1)) rfl (rfl) (by omega) ?_
        refine ev_b (pc' := 121) (ls' := [some (.ref 80), some (.int (nI (k + 1)))]) (st' := [.int ((16 * (I 108 (k + 1))) + (I 109 (k + 1))), .ref 118, .int ((16 * (I 108 (k + 1))) + (I 109 (k + 1))), .ref 118]) (h' := (n, sl, wKK kk, I, L, wQQ q)) 2 rfl ?_
        refine ev_ial rfl (rfl) (hx k hk (Or.inr c97)) ?_
        refine ev_b (pc' := 124) (ls' := [some (.ref 80), some (.int (nI (k + 1)))]) (st' := [.int ((I 118 (((16 * (I 108 (k + 1))) + (I 109 (k + 1))).toNatClampNeg)) + 1), .int ((16 * (I 108 (k + 1))) + (I 109 (k + 1))), .ref 118]) (h' := (n, sl, wKK kk, I, L, wQQ q)) 2 rfl ?_
        refine ev_ias rfl (rfl) (hx k hk (Or.inr c97)) ?_
        refine ev_iincN (k := (k + 1)) (ls' := [some (.ref 80), some (.int (nI (k + 1 + 1)))]) rfl rfl rfl ?_
        refine ev_b (pc' := 31) (ls' := [some (.ref 80), some (.int (nI (k + 1 + 1)))]) (st' := []) (h' := (n, sl, wKK kk, va_up I 118 (upd (I 118) (((16 * (I 108 (k + 1))) + (I 109 (k + 1))).toNatClampNeg) ((I 118 (((16 * (I 108 (k + 1))) + (I 109 (k + 1))).toNatClampNeg)) + 1)), L, wQQ q)) 1 rfl ?_
        simp only [if_neg c44, if_neg c57, if_pos c97] at h8; exact h8
      · refine ev_iincN (k := (k + 1)) (ls' := [some (.ref 80), some (.int (nI (k + 1 + 1)))]) rfl rfl rfl ?_
        refine ev_b (pc' := 31) (ls' := [some (.ref 80), some (.int (nI (k + 1 + 1)))]) (st' := []) (h' := (n, sl, wKK kk, I, L, wQQ q)) 1 rfl ?_
        simp only [if_neg c44, if_neg c57, if_neg c97] at h8; exact h8
theorem lp_m_g1 {d n sl : Nat} {kk : Nat → Nat × Nat} {q : Nat → Nat → Option Nat} {r : Option Value × am_H} (N : Nat) (I : Nat → Nat → Int32) (L : Nat → Nat → Int64) (hN : sp_m_now I L = nI N) (hN2 : N ≤ 200) (hx : ∀ j, j < N → I 107 (j + 1) = 1 ∨ I 107 (j + 1) = 2 → ¬ (16 * I 108 (j + 1) + I 109 (j + 1) < 0 ∨ 6400 ≤ (16 * I 108 (j + 1) + I 109 (j + 1)).toNatClampNeg)) (h9 : am_Ev (d + 2) 206 131 [some (.ref 80), some (.int (nI (N + 1)))] [] (n, sl, wKK kk, (it_m_g1 N I L N), L, wQQ q) r) : am_Ev (d + 2) 206 31 [some (.ref 80), some (.int 1)] [] (n, sl, wKK kk, I, L, wQQ q) r := by
  have loop : ∀ zz k : Nat, k + zz = N → am_Ev (d + 2) 206 31 [some (.ref 80), some (.int (nI (k + 1)))] [] (n, sl, wKK kk, (it_m_g1 N I L k), L, wQQ q) r := by
    intro zz
    induction zz with
    | zero =>
      intro k hk
      have hk9 : k = N := by omega
      rw [hk9]
      refine ev_b (pc' := 33) (ls' := [some (.ref 80), some (.int (nI (N + 1)))]) (st' := [.ref 80, .int (nI (N + 1))]) (h' := (n, sl, wKK kk, (it_m_g1 N I L N), L, wQQ q)) 2 rfl ?_
      refine ev_cv [] [.int (nI (N + 1))] rfl rfl (by omega) rfl (Nat.le_of_ble_eq_true rfl) (Nat.le_of_ble_eq_true rfl) (Or.inr (Or.inr rfl)) (ev_m_now) ?_
      refine ev_b (pc' := (if (sp_m_now (it_m_g1 N I L N) L) < (nI (N + 1)) then 131 else 39)) (ls' := [some (.ref 80), some (.int (nI (N + 1)))]) (st' := []) (h' := (n, sl, wKK kk, (it_m_g1 N I L N), L, wQQ q)) 1 rfl ?_
      refine ev_t (by have e := fI_m_g1 N I L (j := 80) (by decide) (by decide) N; unfold sp_m_now; rw [e]; show sp_m_now I L < _; rw [hN]; exact nI_lt (by omega) (by omega)) ?_
      exact h9
    | succ zz ih =>
      intro k hk
      exact sg_m_g1 N _ _ (by have e := fI_m_g1 N I L (j := 80) (by decide) (by decide) k; unfold sp_m_now; rw [e]; exact hN) hN2 (fun j hj => by rw [fI_m_g1 N I L (j := 107) (by decide) (by decide) k, fI_m_g1 N I L (j := 108) (by decide) (by decide) k, fI_m_g1 N I L (j := 109) (by decide) (by decide) k]; exact hx j hj) (by omega) (ih (k + 1) (by omega))
  exact loop N 0 (by omega)
theorem fr_g {I : Nat → Nat → Int32} {L : Nat → Nat → Int64} {N j : Nat} (h0 : j ≠ 117) (h1 : j ≠ 118) : it_m_g1 N (it_m_g0 I L 6400) L N j = I j := (fI_m_g1 N _ L h0 h1 N).trans (fI_m_g0 I L h0 h1 6400)
theorem fr_gn {I : Nat → Nat → Int32} {L : Nat → Nat → Int64} {N : Nat} : sp_m_now (it_m_g1 N (it_m_g0 I L 6400) L N) L = sp_m_now I L := by
  unfold sp_m_now
  rw [fr_g (j := 80) (by decide) (by decide)]
def sI_m_gathers  (I : Nat → Nat → Int32) (L : Nat → Nat → Int64) : Nat → Nat → Int32 := (sI_m_leads (it_m_g1 ((sp_m_now I L).toNatClampNeg) (it_m_g0 I L 6400) L ((sp_m_now I L).toNatClampNeg)) L)
def sL_m_gathers  (I : Nat → Nat → Int32) (L : Nat → Nat → Int64) : Nat → Nat → Int64 := (sL_m_leads (it_m_g1 ((sp_m_now I L).toNatClampNeg) (it_m_g0 I L 6400) L ((sp_m_now I L).toNatClampNeg)) L)
theorem ev_m_gathers {d : Nat} {n sl : Nat} {k : Nat → Nat × Nat} {I : Nat → Nat → Int32} {L : Nat → Nat → Int64} {q : Nat → Nat → Option Nat} (hN : sp_m_now I L = nI (sp_m_now I L).toNatClampNeg) (hN2 : (sp_m_now I L).toNatClampNeg ≤ 200) (hx : ∀ j, j < (sp_m_now I L).toNatClampNeg → I 107 (j + 1) = 1 ∨ I 107 (j + 1) = 2 → ¬ (16 * I 108 (j + 1) + I 109 (j + 1) < 0 ∨ 6400 ≤ (16 * I 108 (j + 1) + I 109 (j + 1)).toNatClampNeg)) (hl : ∀ j, j < (sp_m_now I L).toNatClampNeg → I 107 (j + 1) = 0 → I 108 (j + 1) = nI (I 108 (j + 1)).toNatClampNeg ∧ I 111 (j + 1) = nI (I 111 (j + 1)).toNatClampNeg ∧ (I 108 (j + 1)).toNatClampNeg ≤ (I 111 (j + 1)).toNatClampNeg + 1 ∧ (I 111 (j + 1)).toNatClampNeg < 400) : am_Ev (d + 3) 206 0 (am_ent 2 [.ref 80]) [] (n, sl, wKK k, I, L, wQQ q) (none, (n, sl, wKK k, sI_m_gathers I L, sL_m_gathers I L, wQQ q)) := by
  show am_Ev _ _ 0 [some (.ref 80), none] _ _ (none, (n, sl, wKK k, (sI_m_leads (it_m_g1 ((sp_m_now I L).toNatClampNeg) (it_m_g0 I L 6400) L ((sp_m_now I L).toNatClampNeg)) L), (sL_m_leads (it_m_g1 ((sp_m_now I L).toNatClampNeg) (it_m_g0 I L 6400) L ((sp_m_now I L).toNatClampNeg)) L), wQQ q))
  refine ev_b (pc' := 2) (ls' := [some (.ref 80), some (.int 0)]) (st' := []) (h' := (n, sl, wKK k, I, L, wQQ q)) 2 rfl ?_
  refine lp_m_g0 I L  (?_)
  refine ev_b (pc' := 31) (ls' := [some (.ref 80), some (.int 1)]) (st' := []) (h' := (n, sl, wKK k, (it_m_g0 I L 6400), L, wQQ q)) 2 rfl ?_
  refine lp_m_g1 ((sp_m_now I L).toNatClampNeg) (it_m_g0 I L 6400) L (by have e := fI_m_g0 I L (j := 80) (by decide) (by decide) 6400; unfold sp_m_now; rw [e]; exact hN) hN2 (fun j hj => by rw [fI_m_g0 I L (j := 107) (by decide) (by decide) 6400, fI_m_g0 I L (j := 108) (by decide) (by decide) 6400, fI_m_g0 I L (j := 109) (by decide) (by decide) 6400]; exact hx j hj) (?_)
  refine ev_b (pc' := 132) (ls' := [some (.ref 80), some (.int (nI (((sp_m_now I L).toNatClampNeg) + 1)))]) (st' := [.ref 80]) (h' := (n, sl, wKK k, (it_m_g1 ((sp_m_now I L).toNatClampNeg) (it_m_g0 I L 6400) L ((sp_m_now I L).toNatClampNeg)), L, wQQ q)) 1 rfl ?_
  refine ev_cv [] [] rfl rfl (by omega) rfl (Nat.le_of_ble_eq_true rfl) (Nat.le_of_ble_eq_true rfl) (Or.inr (Or.inr rfl)) (ev_m_leads (by rw [fr_gn]; exact hN) (by rw [fr_gn]; exact hN2) (by rw [fr_gn, fr_g (I := I) (L := L) (j := 107) (by decide) (by decide), fr_g (I := I) (L := L) (j := 108) (by decide) (by decide), fr_g (I := I) (L := L) (j := 111) (by decide) (by decide)]; exact hl)) ?_
  exact ev_rv rfl rfl
def bd_m_p0 (k : Nat) (I : Nat → Nat → Int32) (L : Nat → Nat → Int64) : (Nat → Nat → Int64) := ((va_up L 113 (vp_updL (L 113) k 0)))
def it_m_p0 (I : Nat → Nat → Int32) (L : Nat → Nat → Int64) : Nat → (Nat → Nat → Int64)
  | 0 => (L)
  | k + 1 => bd_m_p0 k I (it_m_p0 I L k)
theorem sg_m_p0 {d n sl : Nat} {kk : Nat → Nat × Nat} {q : Nat → Nat → Option Nat} {r : Option Value × am_H} {k : Nat} (I : Nat → Nat → Int32) (L : Nat → Nat → Int64)  (hk : k < 16) (h9 : am_Ev (d) 208 6 [some (.ref 80), some (.int (nI (k + 1)))] [] (n, sl, wKK kk, I, (bd_m_p0 k I L), wQQ q) r) : am_Ev (d) 208 6 [some (.ref 80), some (.int (nI k))] [] (n, sl, wKK kk, I, L, wQQ q) r := by
  have h8 : am_Ev (d) 208 6 [some (.ref 80), some (.int (nI (k + 1)))] [] (n, sl, wKK kk, I, (va_up L 113 (vp_updL (L 113) k 0)), wQQ q) r := h9
  refine ev_b (pc' := (if 16 ≤ (nI k) then 25 else 12)) (ls' := [some (.ref 80), some (.int (nI k))]) (st' := []) (h' := (n, sl, wKK kk, I, L, wQQ q)) 3 rfl ?_
  refine ev_f (nI_ge (a := k) (b := 16) (by omega) (by omega)) ?_
  refine ev_b (pc' := 18) (ls' := [some (.ref 80), some (.int (nI k))]) (st' := [.long 0, .int (nI k), .ref 113]) (h' := (n, sl, wKK kk, I, L, wQQ q)) 4 rfl ?_
  refine ev_lasN (k := k) rfl (rfl) (by omega) ?_
  refine ev_iincN (k := k) (ls' := [some (.ref 80), some (.int (nI (k + 1)))]) rfl rfl rfl ?_
  refine ev_b (pc' := 6) (ls' := [some (.ref 80), some (.int (nI (k + 1)))]) (st' := []) (h' := (n, sl, wKK kk, I, va_up L 113 (vp_updL (L 113) k 0), wQQ q)) 1 rfl ?_
  exact h8
theorem lp_m_p0 {d n sl : Nat} {kk : Nat → Nat × Nat} {q : Nat → Nat → Option Nat} {r : Option Value × am_H} (I : Nat → Nat → Int32) (L : Nat → Nat → Int64)  (h9 : am_Ev (d) 208 25 [some (.ref 80), some (.int (nI 16))] [] (n, sl, wKK kk, I, (it_m_p0 I L 16), wQQ q) r) : am_Ev (d) 208 6 [some (.ref 80), some (.int 0)] [] (n, sl, wKK kk, I, L, wQQ q) r := by
  have loop : ∀ zz k : Nat, k + zz = 16 → am_Ev (d) 208 6 [some (.ref 80), some (.int (nI k))] [] (n, sl, wKK kk, I, (it_m_p0 I L k), wQQ q) r := by
    intro zz
    induction zz with
    | zero =>
      intro k hk
      have hk9 : k = 16 := by omega
      rw [hk9]
      refine ev_b (pc' := (if 16 ≤ (nI 16) then 25 else 12)) (ls' := [some (.ref 80), some (.int (nI 16))]) (st' := []) (h' := (n, sl, wKK kk, I, (it_m_p0 I L 16), wQQ q)) 3 rfl ?_
      refine ev_t (by decide) ?_
      exact h9
    | succ zz ih =>
      intro k hk
      exact sg_m_p0 _ _  (by omega) (ih (k + 1) (by omega))
  exact loop 16 0 (by omega)
def bd_m_p1 (k : Nat) (I : Nat → Nat → Int32) (L : Nat → Nat → Int64) : (Nat → Nat → Int32) × (Nat → Nat → Int64) := ((sI_m_goes k (-1) 0 I L), (sL_m_goes k (-1) 0 I L))
def it_m_p1 (I : Nat → Nat → Int32) (L : Nat → Nat → Int64) : Nat → (Nat → Nat → Int32) × (Nat → Nat → Int64)
  | 0 => (I, L)
  | k + 1 => bd_m_p1 k (it_m_p1 I L k).1 (it_m_p1 I L k).2
theorem sg_m_p1 {d n sl : Nat} {kk : Nat → Nat × Nat} {q : Nat → Nat → Option Nat} {r : Option Value × am_H} {k : Nat} (I : Nat → Nat → Int32) (L : Nat → Nat → Int64)  (hk : k < 400) (h9 : am_Ev (d + 4) 208 34 [some (.ref 80), some (.int (nI (k + 1)))] [] (n, sl, wKK kk, (bd_m_p1 k I L).1, (bd_m_p1 k I L).2, wQQ q) r) : am_Ev (d + 4) 208 34 [some (.ref 80), some (.int (nI k))] [] (n, sl, wKK kk, I, L, wQQ q) r := by
  have h8 : am_Ev (d + 4) 208 34 [some (.ref 80), some (.int (nI (k + 1)))] [] (n, sl, wKK kk, (sI_m_goes k (-1) 0 I L), (sL_m_goes k (-1) 0 I L), wQQ q) r := h9
  refine ev_b (pc' := (if 400 ≤ (nI k) then 54 else 41)) (ls' := [some (.ref 80), some (.int (nI k))]) (st' := []) (h' := (n, sl, wKK kk, I, L, wQQ q)) 3 rfl ?_
  refine ev_f (nI_ge (a := k) (b := 400) (by omega) (by omega)) ?_
  refine ev_b (pc' := 45) (ls' := [some (.ref 80), some (.int (nI k))]) (st' := [.int 0, .int (-1), .int (nI k), .ref 80]) (h' := (n, sl, wKK kk, I, L, wQQ q)) 4 rfl ?_
  refine ev_cv [.int (nI k), .int (-1), .int 0] [] rfl rfl (by omega) rfl (Nat.le_of_ble_eq_true rfl) (Nat.le_of_ble_eq_true rfl) (Or.inr (Or.inr rfl)) (ev_m_goes (by omega)) ?_
  refine ev_iincN (k := k) (ls' := [some (.ref 80), some (.int (nI (k + 1)))]) rfl rfl rfl ?_
  refine ev_b (pc' := 34) (ls' := [some (.ref 80), some (.int (nI (k + 1)))]) (st' := []) (h' := (n, sl, wKK kk, sI_m_goes k (-1) 0 I L, sL_m_goes k (-1) 0 I L, wQQ q)) 1 rfl ?_
  exact h8
theorem lp_m_p1 {d n sl : Nat} {kk : Nat → Nat × Nat} {q : Nat → Nat → Option Nat} {r : Option Value × am_H} (I : Nat → Nat → Int32) (L : Nat → Nat → Int64)  (h9 : am_Ev (d + 4) 208 54 [some (.ref 80), some (.int (nI 400))] [] (n, sl, wKK kk, (it_m_p1 I L 400).1, (it_m_p1 I L 400).2, wQQ q) r) : am_Ev (d + 4) 208 34 [some (.ref 80), some (.int 0)] [] (n, sl, wKK kk, I, L, wQQ q) r := by
  have loop : ∀ zz k : Nat, k + zz = 400 → am_Ev (d + 4) 208 34 [some (.ref 80), some (.int (nI k))] [] (n, sl, wKK kk, (it_m_p1 I L k).1, (it_m_p1 I L k).2, wQQ q) r := by
    intro zz
    induction zz with
    | zero =>
      intro k hk
      have hk9 : k = 400 := by omega
      rw [hk9]
      refine ev_b (pc' := (if 400 ≤ (nI 400) then 54 else 41)) (ls' := [some (.ref 80), some (.int (nI 400))]) (st' := []) (h' := (n, sl, wKK kk, (it_m_p1 I L 400).1, (it_m_p1 I L 400).2, wQQ q)) 3 rfl ?_
      refine ev_t (by decide) ?_
      exact h9
    | succ zz ih =>
      intro k hk
      exact sg_m_p1 _ _  (by omega) (ih (k + 1) (by omega))
  exact loop 400 0 (by omega)
def sI_m_play  (I : Nat → Nat → Int32) (L : Nat → Nat → Int64) : Nat → Nat → Int32 := ((it_m_p1 (sI_m_gathers I L) (va_up (it_m_p0 (sI_m_gathers I L) (sL_m_gathers I L) 16) 114 (vp_updL ((it_m_p0 (sI_m_gathers I L) (sL_m_gathers I L) 16) 114) 0 0)) 400).1)
def sL_m_play  (I : Nat → Nat → Int32) (L : Nat → Nat → Int64) : Nat → Nat → Int64 := ((it_m_p1 (sI_m_gathers I L) (va_up (it_m_p0 (sI_m_gathers I L) (sL_m_gathers I L) 16) 114 (vp_updL ((it_m_p0 (sI_m_gathers I L) (sL_m_gathers I L) 16) 114) 0 0)) 400).2)
theorem ev_m_play {d : Nat} {n sl : Nat} {k : Nat → Nat × Nat} {I : Nat → Nat → Int32} {L : Nat → Nat → Int64} {q : Nat → Nat → Option Nat} (hN : sp_m_now I L = nI (sp_m_now I L).toNatClampNeg) (hN2 : (sp_m_now I L).toNatClampNeg ≤ 200) (hx : ∀ j, j < (sp_m_now I L).toNatClampNeg → I 107 (j + 1) = 1 ∨ I 107 (j + 1) = 2 → ¬ (16 * I 108 (j + 1) + I 109 (j + 1) < 0 ∨ 6400 ≤ (16 * I 108 (j + 1) + I 109 (j + 1)).toNatClampNeg)) (hl : ∀ j, j < (sp_m_now I L).toNatClampNeg → I 107 (j + 1) = 0 → I 108 (j + 1) = nI (I 108 (j + 1)).toNatClampNeg ∧ I 111 (j + 1) = nI (I 111 (j + 1)).toNatClampNeg ∧ (I 108 (j + 1)).toNatClampNeg ≤ (I 111 (j + 1)).toNatClampNeg + 1 ∧ (I 111 (j + 1)).toNatClampNeg < 400) : am_Ev (d + 4) 208 0 (am_ent 2 [.ref 80]) [] (n, sl, wKK k, I, L, wQQ q) (none, (n, sl, wKK k, sI_m_play I L, sL_m_play I L, wQQ q)) := by
  show am_Ev _ _ 0 [some (.ref 80), none] _ _ (none, (n, sl, wKK k, ((it_m_p1 (sI_m_gathers I L) (va_up (it_m_p0 (sI_m_gathers I L) (sL_m_gathers I L) 16) 114 (vp_updL ((it_m_p0 (sI_m_gathers I L) (sL_m_gathers I L) 16) 114) 0 0)) 400).1), ((it_m_p1 (sI_m_gathers I L) (va_up (it_m_p0 (sI_m_gathers I L) (sL_m_gathers I L) 16) 114 (vp_updL ((it_m_p0 (sI_m_gathers I L) (sL_m_gathers I L) 16) 114) 0 0)) 400).2), wQQ q))
  refine ev_b (pc' := 1) (ls' := [some (.ref 80), none]) (st' := [.ref 80]) (h' := (n, sl, wKK k, I, L, wQQ q)) 1 rfl ?_
  refine ev_cv [] [] rfl rfl (by omega) rfl (Nat.le_of_ble_eq_true rfl) (Nat.le_of_ble_eq_true rfl) (Or.inr (Or.inr rfl)) (ev_m_gathers hN hN2 hx hl) ?_
  refine ev_b (pc' := 6) (ls' := [some (.ref 80), some (.int 0)]) (st' := []) (h' := (n, sl, wKK k, sI_m_gathers I L, sL_m_gathers I L, wQQ q)) 2 rfl ?_
  refine lp_m_p0 (sI_m_gathers I L) (sL_m_gathers I L)  (?_)
  refine ev_b (pc' := 34) (ls' := [some (.ref 80), some (.int 0)]) (st' := []) (h' := (n, sl, wKK k, sI_m_gathers I L, va_up (it_m_p0 (sI_m_gathers I L) (sL_m_gathers I L) 16) 114 (vp_updL ((it_m_p0 (sI_m_gathers I L) (sL_m_gathers I L) 16) 114) 0 0), wQQ q)) 7 rfl ?_
  refine lp_m_p1 (sI_m_gathers I L) (va_up (it_m_p0 (sI_m_gathers I L) (sL_m_gathers I L) 16) 114 (vp_updL ((it_m_p0 (sI_m_gathers I L) (sL_m_gathers I L) 16) 114) 0 0))  (?_)
  exact ev_rv rfl rfl
