/-! THE REFERENCE: the mandate in force -/
def bd_m_inForce (x : Int32) (N : Nat) (u : Int32) (k : Nat) (I : Nat → Nat → Int32) (L : Nat → Nat → Int64) : Int32 := ((if (sp_m_isKnown (nI (k + 1)) I L) = 0 then u else (if (I 107 (k + 1)) = 4 then (if x < (I 108 (k + 1)) then u else (if u = 0 then (nI (k + 1)) else (if (I 108 (k + 1)) < (I 108 u.toNatClampNeg) then u else (nI (k + 1))))) else u)))
def it_m_inForce (x : Int32) (N : Nat) (u : Int32) (I : Nat → Nat → Int32) (L : Nat → Nat → Int64) : Nat → Int32
  | 0 => (u)
  | k + 1 => bd_m_inForce x N (it_m_inForce x N u I L k) k I L
theorem iu_m_inForce {x : Int32} {N : Nat} {u : Int32} {I : Nat → Nat → Int32} {L : Nat → Nat → Int64} (hN2 : N ≤ 200) (hu : ¬ (u < 0 ∨ 201 ≤ (u).toNatClampNeg)) : ∀ k, k ≤ N → ¬ ((it_m_inForce x N u I L k) < 0 ∨ 201 ≤ ((it_m_inForce x N u I L k)).toNatClampNeg) := by
  intro k
  induction k with
  | zero => intro _; exact hu
  | succ k ih =>
    intro hk
    have ih := ih (by omega)
    show ¬ ((bd_m_inForce x N (it_m_inForce x N u I L k) k I L) < 0 ∨ 201 ≤ ((bd_m_inForce x N (it_m_inForce x N u I L k) k I L)).toNatClampNeg)
    unfold bd_m_inForce
    (repeat' split) <;> first | exact ih | exact ev_ix (by omega) (by omega)
theorem sg_m_inForce {d n sl : Nat} {kk : Nat → Nat × Nat} {q : Nat → Nat → Option Nat} {r : Option Value × am_H} (x : Int32) (N : Nat) (u : Int32) {k : Nat} (I : Nat → Nat → Int32) (L : Nat → Nat → Int64) (hN : sp_m_now I L = nI N) (hN2 : N ≤ 200) (hu : ¬ (u < 0 ∨ 201 ≤ (u).toNatClampNeg)) (hk : k < N) (h9 : am_Ev (d + 2) 213 4 [some (.ref 80), some (.int x), some (.int (bd_m_inForce x N u k I L)), some (.int (nI ((k + 1) + 1)))] [] (n, sl, wKK kk, I, L, wQQ q) r) : am_Ev (d + 2) 213 4 [some (.ref 80), some (.int x), some (.int u), some (.int (nI (k + 1)))] [] (n, sl, wKK kk, I, L, wQQ q) r := by
  have h8 : am_Ev (d + 2) 213 4 [some (.ref 80), some (.int x), some (.int (if (sp_m_isKnown (nI (k + 1)) I L) = 0 then u else (if (I 107 (k + 1)) = 4 then (if x < (I 108 (k + 1)) then u else (if u = 0 then (nI (k + 1)) else (if (I 108 (k + 1)) < (I 108 u.toNatClampNeg) then u else (nI (k + 1))))) else u))), some (.int (nI ((k + 1) + 1)))] [] (n, sl, wKK kk, I, L, wQQ q) r := h9
  refine ev_b (pc' := 6) (ls' := [some (.ref 80), some (.int x), some (.int u), some (.int (nI (k + 1)))]) (st' := [.ref 80, .int (nI (k + 1))]) (h' := (n, sl, wKK kk, I, L, wQQ q)) 2 rfl ?_
  refine ev_cv [] [.int (nI (k + 1))] rfl rfl (by omega) rfl (Nat.le_of_ble_eq_true rfl) (Nat.le_of_ble_eq_true rfl) (Or.inr (Or.inr rfl)) (ev_m_now) ?_
  refine ev_b (pc' := (if (sp_m_now I L) < (nI (k + 1)) then 67 else 12)) (ls' := [some (.ref 80), some (.int x), some (.int u), some (.int (nI (k + 1)))]) (st' := []) (h' := (n, sl, wKK kk, I, L, wQQ q)) 1 rfl ?_
  refine ev_f (by rw [hN]; exact nI_notlt (by omega) (by omega)) ?_
  refine ev_b (pc' := 14) (ls' := [some (.ref 80), some (.int x), some (.int u), some (.int (nI (k + 1)))]) (st' := [.int (nI (k + 1)), .ref 80]) (h' := (n, sl, wKK kk, I, L, wQQ q)) 2 rfl ?_
  refine ev_cv [.int (nI (k + 1))] [] rfl rfl (by omega) rfl (Nat.le_of_ble_eq_true rfl) (Nat.le_of_ble_eq_true rfl) (Or.inr (Or.inr rfl)) (ev_m_isKnown (fun _ _ => ev_ix (by omega) (by omega))) ?_
  refine ev_b (pc' := (if (sp_m_isKnown (nI (k + 1)) I L) = 0 then 61 else 20)) (ls' := [some (.ref 80), some (.int x), some (.int u), some (.int (nI (k + 1)))]) (st' := []) (h' := (n, sl, wKK kk, I, L, wQQ q)) 1 rfl ?_
  refine ev_if (fun c17 => ?_) (fun c17 => ?_)
  · refine ev_iincN (k := (k + 1)) (ls' := [some (.ref 80), some (.int x), some (.int u), some (.int (nI (k + 1 + 1)))]) rfl rfl rfl ?_
    refine ev_b (pc' := 4) (ls' := [some (.ref 80), some (.int x), some (.int u), some (.int (nI (k + 1 + 1)))]) (st' := []) (h' := (n, sl, wKK kk, I, L, wQQ q)) 1 rfl ?_
    simp only [if_pos c17] at h8; exact h8
  · refine ev_b (pc' := 25) (ls' := [some (.ref 80), some (.int x), some (.int u), some (.int (nI (k + 1)))]) (st' := [.int (nI (k + 1)), .ref 107]) (h' := (n, sl, wKK kk, I, L, wQQ q)) 3 rfl ?_
    refine ev_ialN (k := (k + 1)) rfl (rfl) (by omega) ?_
    refine ev_b (pc' := (if (I 107 (k + 1)) = 4 then 30 else 61)) (ls' := [some (.ref 80), some (.int x), some (.int u), some (.int (nI (k + 1)))]) (st' := []) (h' := (n, sl, wKK kk, I, L, wQQ q)) 2 rfl ?_
    refine ev_if (fun c27 => ?_) (fun c27 => ?_)
    · refine ev_b (pc' := 35) (ls' := [some (.ref 80), some (.int x), some (.int u), some (.int (nI (k + 1)))]) (st' := [.int (nI (k + 1)), .ref 108]) (h' := (n, sl, wKK kk, I, L, wQQ q)) 3 rfl ?_
      refine ev_ialN (k := (k + 1)) rfl (rfl) (by omega) ?_
      refine ev_b (pc' := (if x < (I 108 (k + 1)) then 61 else 40)) (ls' := [some (.ref 80), some (.int x), some (.int u), some (.int (nI (k + 1)))]) (st' := []) (h' := (n, sl, wKK kk, I, L, wQQ q)) 2 rfl ?_
      refine ev_if (fun c37 => ?_) (fun c37 => ?_)
      · refine ev_iincN (k := (k + 1)) (ls' := [some (.ref 80), some (.int x), some (.int u), some (.int (nI (k + 1 + 1)))]) rfl rfl rfl ?_
        refine ev_b (pc' := 4) (ls' := [some (.ref 80), some (.int x), some (.int u), some (.int (nI (k + 1 + 1)))]) (st' := []) (h' := (n, sl, wKK kk, I, L, wQQ q)) 1 rfl ?_
        simp only [if_neg c17, if_pos c27, if_pos c37] at h8; exact h8
      · refine ev_b (pc' := (if u = 0 then 59 else 44)) (ls' := [some (.ref 80), some (.int x), some (.int u), some (.int (nI (k + 1)))]) (st' := []) (h' := (n, sl, wKK kk, I, L, wQQ q)) 2 rfl ?_
        refine ev_if (fun c41 => ?_) (fun c41 => ?_)
        · refine ev_b (pc' := 61) (ls' := [some (.ref 80), some (.int x), some (.int (nI (k + 1))), some (.int (nI (k + 1)))]) (st' := []) (h' := (n, sl, wKK kk, I, L, wQQ q)) 2 rfl ?_
          refine ev_iincN (k := (k + 1)) (ls' := [some (.ref 80), some (.int x), some (.int (nI (k + 1))), some (.int (nI (k + 1 + 1)))]) rfl rfl rfl ?_
          refine ev_b (pc' := 4) (ls' := [some (.ref 80), some (.int x), some (.int (nI (k + 1))), some (.int (nI (k + 1 + 1)))]) (st' := []) (h' := (n, sl, wKK kk, I, L, wQQ q)) 1 rfl ?_
          simp only [if_neg c17, if_pos c27, if_neg c37, if_pos c41] at h8; exact h8
        · refine ev_b (pc' := 49) (ls' := [some (.ref 80), some (.int x), some (.int u), some (.int (nI (k + 1)))]) (st' := [.int (nI (k + 1)), .ref 108]) (h' := (n, sl, wKK kk, I, L, wQQ q)) 3 rfl ?_
          refine ev_ialN (k := (k + 1)) rfl (rfl) (by omega) ?_
          refine ev_b (pc' := 55) (ls' := [some (.ref 80), some (.int x), some (.int u), some (.int (nI (k + 1)))]) (st' := [.int u, .ref 108, .int (I 108 (k + 1))]) (h' := (n, sl, wKK kk, I, L, wQQ q)) 3 rfl ?_
          refine ev_ial rfl (rfl) (hu) ?_
          refine ev_b (pc' := (if (I 108 (k + 1)) < (I 108 u.toNatClampNeg) then 61 else 59)) (ls' := [some (.ref 80), some (.int x), some (.int u), some (.int (nI (k + 1)))]) (st' := []) (h' := (n, sl, wKK kk, I, L, wQQ q)) 1 rfl ?_
          refine ev_if (fun c56 => ?_) (fun c56 => ?_)
          · refine ev_iincN (k := (k + 1)) (ls' := [some (.ref 80), some (.int x), some (.int u), some (.int (nI (k + 1 + 1)))]) rfl rfl rfl ?_
            refine ev_b (pc' := 4) (ls' := [some (.ref 80), some (.int x), some (.int u), some (.int (nI (k + 1 + 1)))]) (st' := []) (h' := (n, sl, wKK kk, I, L, wQQ q)) 1 rfl ?_
            simp only [if_neg c17, if_pos c27, if_neg c37, if_neg c41, if_pos c56] at h8; exact h8
          · refine ev_b (pc' := 61) (ls' := [some (.ref 80), some (.int x), some (.int (nI (k + 1))), some (.int (nI (k + 1)))]) (st' := []) (h' := (n, sl, wKK kk, I, L, wQQ q)) 2 rfl ?_
            refine ev_iincN (k := (k + 1)) (ls' := [some (.ref 80), some (.int x), some (.int (nI (k + 1))), some (.int (nI (k + 1 + 1)))]) rfl rfl rfl ?_
            refine ev_b (pc' := 4) (ls' := [some (.ref 80), some (.int x), some (.int (nI (k + 1))), some (.int (nI (k + 1 + 1)))]) (st' := []) (h' := (n, sl, wKK kk, I, L, wQQ q)) 1 rfl ?_
            simp only [if_neg c17, if_pos c27, if_neg c37, if_neg c41, if_neg c56] at h8; exact h8
    · refine ev_iincN (k := (k + 1)) (ls' := [some (.ref 80), some (.int x), some (.int u), some (.int (nI (k + 1 + 1)))]) rfl rfl rfl ?_
      refine ev_b (pc' := 4) (ls' := [some (.ref 80), some (.int x), some (.int u), some (.int (nI (k + 1 + 1)))]) (st' := []) (h' := (n, sl, wKK kk, I, L, wQQ q)) 1 rfl ?_
      simp only [if_neg c17, if_neg c27] at h8; exact h8
theorem lp_m_inForce {d n sl : Nat} {kk : Nat → Nat × Nat} {q : Nat → Nat → Option Nat} {r : Option Value × am_H} (x : Int32) (N : Nat) (u : Int32) (I : Nat → Nat → Int32) (L : Nat → Nat → Int64) (hN : sp_m_now I L = nI N) (hN2 : N ≤ 200) (hu : ¬ (u < 0 ∨ 201 ≤ (u).toNatClampNeg)) (h9 : am_Ev (d + 2) 213 67 [some (.ref 80), some (.int x), some (.int (it_m_inForce x N u I L N)), some (.int (nI (N + 1)))] [] (n, sl, wKK kk, I, L, wQQ q) r) : am_Ev (d + 2) 213 4 [some (.ref 80), some (.int x), some (.int u), some (.int 1)] [] (n, sl, wKK kk, I, L, wQQ q) r := by
  have loop : ∀ zz k : Nat, k + zz = N → am_Ev (d + 2) 213 4 [some (.ref 80), some (.int x), some (.int (it_m_inForce x N u I L k)), some (.int (nI (k + 1)))] [] (n, sl, wKK kk, I, L, wQQ q) r := by
    intro zz
    induction zz with
    | zero =>
      intro k hk
      have hk9 : k = N := by omega
      rw [hk9]
      refine ev_b (pc' := 6) (ls' := [some (.ref 80), some (.int x), some (.int (it_m_inForce x N u I L N)), some (.int (nI (N + 1)))]) (st' := [.ref 80, .int (nI (N + 1))]) (h' := (n, sl, wKK kk, I, L, wQQ q)) 2 rfl ?_
      refine ev_cv [] [.int (nI (N + 1))] rfl rfl (by omega) rfl (Nat.le_of_ble_eq_true rfl) (Nat.le_of_ble_eq_true rfl) (Or.inr (Or.inr rfl)) (ev_m_now) ?_
      refine ev_b (pc' := (if (sp_m_now I L) < (nI (N + 1)) then 67 else 12)) (ls' := [some (.ref 80), some (.int x), some (.int (it_m_inForce x N u I L N)), some (.int (nI (N + 1)))]) (st' := []) (h' := (n, sl, wKK kk, I, L, wQQ q)) 1 rfl ?_
      refine ev_t (by rw [hN]; exact nI_lt (by omega) (by omega)) ?_
      exact h9
    | succ zz ih =>
      intro k hk
      exact sg_m_inForce x N _ _ _ hN hN2 (iu_m_inForce hN2 hu k (by omega)) (by omega) (ih (k + 1) (by omega))
  exact loop N 0 (by omega)
def sp_m_inForce (x : Int32) (I : Nat → Nat → Int32) (L : Nat → Nat → Int64) : Int32 := (it_m_inForce x ((sp_m_now I L).toNatClampNeg) 0 I L ((sp_m_now I L).toNatClampNeg))
theorem ev_m_inForce {d : Nat} {n sl : Nat} {k : Nat → Nat × Nat} {I : Nat → Nat → Int32} {L : Nat → Nat → Int64} {q : Nat → Nat → Option Nat} {x : Int32} (hN : sp_m_now I L = nI (sp_m_now I L).toNatClampNeg) (hN2 : (sp_m_now I L).toNatClampNeg ≤ 200) : am_Ev (d + 2) 213 0 (am_ent 4 [.ref 80, .int x]) [] (n, sl, wKK k, I, L, wQQ q) (some (.int (sp_m_inForce x I L)), (n, sl, wKK k, I, L, wQQ q)) := by
  show am_Ev _ _ 0 [some (.ref 80), some (.int x), none, none] _ _ (some (.int (it_m_inForce x ((sp_m_now I L).toNatClampNeg) 0 I L ((sp_m_now I L).toNatClampNeg))), (n, sl, wKK k, I, L, wQQ q))
  refine ev_b (pc' := 4) (ls' := [some (.ref 80), some (.int x), some (.int 0), some (.int 1)]) (st' := []) (h' := (n, sl, wKK k, I, L, wQQ q)) 4 rfl ?_
  refine lp_m_inForce x ((sp_m_now I L).toNatClampNeg) 0 I L hN hN2 (by decide) (?_)
  refine ev_b (pc' := 68) (ls' := [some (.ref 80), some (.int x), some (.int (it_m_inForce x ((sp_m_now I L).toNatClampNeg) 0 I L ((sp_m_now I L).toNatClampNeg))), some (.int (nI (((sp_m_now I L).toNatClampNeg) + 1)))]) (st' := [.int (it_m_inForce x ((sp_m_now I L).toNatClampNeg) 0 I L ((sp_m_now I L).toNatClampNeg))]) (h' := (n, sl, wKK k, I, L, wQQ q)) 1 rfl ?_
  exact ev_ri rfl rfl rfl
def sp_m_force (x : Int32) (I : Nat → Nat → Int32) (L : Nat → Nat → Int64) : Int32 := (if (sp_m_isDay x) = 0 then (-1) else (if (sp_m_inForce x I L) = 0 then (-1) else sp_m_inForce x I L))
theorem ev_m_force {d : Nat} {n sl : Nat} {k : Nat → Nat × Nat} {I : Nat → Nat → Int32} {L : Nat → Nat → Int64} {q : Nat → Nat → Option Nat} {x : Int32} (hN : sp_m_now I L = nI (sp_m_now I L).toNatClampNeg) (hN2 : (sp_m_now I L).toNatClampNeg ≤ 200) : am_Ev (d + 3) 214 0 (am_ent 3 [.ref 80, .int x]) [] (n, sl, wKK k, I, L, wQQ q) (some (.int (sp_m_force x I L)), (n, sl, wKK k, I, L, wQQ q)) := by
  show am_Ev _ _ 0 [some (.ref 80), some (.int x), none] _ _ (some (.int (if (sp_m_isDay x) = 0 then (-1) else (if (sp_m_inForce x I L) = 0 then (-1) else sp_m_inForce x I L))), (n, sl, wKK k, I, L, wQQ q))
  refine ev_b (pc' := 1) (ls' := [some (.ref 80), some (.int x), none]) (st' := [.int x]) (h' := (n, sl, wKK k, I, L, wQQ q)) 1 rfl ?_
  refine ev_cs [.int x] [] rfl rfl (by omega) rfl (Nat.le_of_ble_eq_true rfl) (Nat.le_of_ble_eq_true rfl) (ev_m_isDay) ?_
  refine ev_b (pc' := (if (sp_m_isDay x) = 0 then 7 else 9)) (ls' := [some (.ref 80), some (.int x), none]) (st' := []) (h' := (n, sl, wKK k, I, L, wQQ q)) 1 rfl ?_
  refine ev_ifIs (fun c4 => ?_) (fun c4 => ?_)
  · refine ev_b (pc' := 8) (ls' := [some (.ref 80), some (.int x), none]) (st' := [.int (-1)]) (h' := (n, sl, wKK k, I, L, wQQ q)) 1 rfl ?_
    exact ev_ri rfl rfl rfl
  · refine ev_b (pc' := 11) (ls' := [some (.ref 80), some (.int x), none]) (st' := [.int x, .ref 80]) (h' := (n, sl, wKK k, I, L, wQQ q)) 2 rfl ?_
    refine ev_cv [.int x] [] rfl rfl (by omega) rfl (Nat.le_of_ble_eq_true rfl) (Nat.le_of_ble_eq_true rfl) (Or.inr (Or.inr rfl)) (ev_m_inForce hN hN2) ?_
    refine ev_b (pc' := (if (sp_m_inForce x I L) = 0 then 19 else 23)) (ls' := [some (.ref 80), some (.int x), some (.int (sp_m_inForce x I L))]) (st' := []) (h' := (n, sl, wKK k, I, L, wQQ q)) 3 rfl ?_
    refine ev_ifIs (fun c16 => ?_) (fun c16 => ?_)
    · refine ev_b (pc' := 24) (ls' := [some (.ref 80), some (.int x), some (.int (sp_m_inForce x I L))]) (st' := [.int (-1)]) (h' := (n, sl, wKK k, I, L, wQQ q)) 2 rfl ?_
      exact ev_ri rfl rfl rfl
    · refine ev_b (pc' := 24) (ls' := [some (.ref 80), some (.int x), some (.int (sp_m_inForce x I L))]) (st' := [.int (sp_m_inForce x I L)]) (h' := (n, sl, wKK k, I, L, wQQ q)) 1 rfl ?_
      exact ev_ri rfl rfl rfl
def sp_x_force (x : Int32) (ah : (Nat → Nat)) (I : Nat → Nat → Int32) (L : Nat → Nat → Int64) : Int32 := (if (sp_isDay x) = 0 then (-1) else sp_j_ruling x ah I L)
theorem ev_x_force {d : Nat} {n sl : Nat} {k : Nat → Nat × Nat} {I : Nat → Nat → Int32} {L : Nat → Nat → Int64} {q : Nat → Nat → Option Nat} {x : Int32} {ah : (Nat → Nat)} (hB : am_Bk k q (I 55 2).toNatClampNeg ah) (hC : I 55 2 = nI (I 55 2).toNatClampNeg) (hC2 : (I 55 2).toNatClampNeg ≤ 200) : am_Ev (d + 2) 129 0 (am_ent 2 [.ref 0, .int x]) [] (n, sl, wKK k, I, L, wQQ q) (some (.int (sp_x_force x ah I L)), (n, sl, wKK k, I, L, wQQ q)) := by
  show am_Ev _ _ 0 [some (.ref 0), some (.int x)] _ _ (some (.int (if (sp_isDay x) = 0 then (-1) else sp_j_ruling x ah I L)), (n, sl, wKK k, I, L, wQQ q))
  refine ev_b (pc' := 1) (ls' := [some (.ref 0), some (.int x)]) (st' := [.int x]) (h' := (n, sl, wKK k, I, L, wQQ q)) 1 rfl ?_
  refine ev_cs [.int x] [] rfl rfl (by omega) rfl (Nat.le_of_ble_eq_true rfl) (Nat.le_of_ble_eq_true rfl) (ev_isDay) ?_
  refine ev_b (pc' := (if (sp_isDay x) = 0 then 18 else 7)) (ls' := [some (.ref 0), some (.int x)]) (st' := []) (h' := (n, sl, wKK k, I, L, wQQ q)) 1 rfl ?_
  refine ev_ifIs (fun c4 => ?_) (fun c4 => ?_)
  · refine ev_b (pc' := 19) (ls' := [some (.ref 0), some (.int x)]) (st' := [.int (-1)]) (h' := (n, sl, wKK k, I, L, wQQ q)) 1 rfl ?_
    exact ev_ri rfl rfl rfl
  · refine ev_b (pc' := 12) (ls' := [some (.ref 0), some (.int x)]) (st' := [.int x, .ref 60]) (h' := (n, sl, wKK k, I, L, wQQ q)) 3 rfl ?_
    refine ev_cv [.int x] [] rfl rfl (by omega) rfl (Nat.le_of_ble_eq_true rfl) (Nat.le_of_ble_eq_true rfl) (Or.inr (Or.inr rfl)) (ev_j_ruling hB hC hC2) ?_
    refine ev_b (pc' := 19) (ls' := [some (.ref 0), some (.int x)]) (st' := [.int (sp_j_ruling x ah I L)]) (h' := (n, sl, wKK k, I, L, wQQ q)) 1 rfl ?_
    exact ev_ri rfl rfl rfl
