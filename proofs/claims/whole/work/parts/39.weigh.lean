/-! THE CLASS WEIGHS THE SETS OF CAUSES -/
def bd_c_weigh (x : Int32) (N : Nat) (k : Nat) (I : Nat → Nat → Int32) (L : Nat → Nat → Int64) : (Nat → Nat → Int32) := ((if x < (I 78 k) then I else (if (I 79 k) < x then I else (va_up (va_up (va_up I 77 (upd (I 77) 3 ((I 77 3) + 1))) 77 (upd ((va_up I 77 (upd (I 77) 3 ((I 77 3) + 1))) 77) 4 ((I 77 4) &&& (nI k)))) 77 (upd ((va_up (va_up I 77 (upd (I 77) 3 ((I 77 3) + 1))) 77 (upd ((va_up I 77 (upd (I 77) 3 ((I 77 3) + 1))) 77) 4 ((I 77 4) &&& (nI k)))) 77) 5 ((I 77 5) ||| (nI k)))))))
def it_c_weigh (x : Int32) (N : Nat) (I : Nat → Nat → Int32) (L : Nat → Nat → Int64) : Nat → (Nat → Nat → Int32)
  | 0 => (I)
  | k + 1 => bd_c_weigh x N k (it_c_weigh x N I L k) L
theorem fw_weigh {x : Int32} {N : Nat} {I : Nat → Nat → Int32} {L : Nat → Nat → Int64} : ∀ k, (it_c_weigh x N I L k) 77 2 = I 77 2 := by
  intro k
  induction k with
  | zero => rfl
  | succ k ih =>
    rw [← ih]
    show (bd_c_weigh x N k (it_c_weigh x N I L k) L) 77 2 = _
    unfold bd_c_weigh
    (repeat' split) <;> simp [va_up, upd]
theorem sg_c_weigh {d n sl : Nat} {kk : Nat → Nat × Nat} {q : Nat → Nat → Option Nat} {r : Option Value × am_H} (x : Int32) (N : Nat) {k : Nat} (I : Nat → Nat → Int32) (L : Nat → Nat → Int64) (hS : (1 <<< (I 77 2 &&& 31) : Int32) = nI N) (hN : N ≤ 1024) (hk : k < N) (h9 : am_Ev (d) 19 24 [some (.ref 77), some (.int x), some (.int (nI (k + 1)))] [] (n, sl, wKK kk, (bd_c_weigh x N k I L), L, wQQ q) r) : am_Ev (d) 19 24 [some (.ref 77), some (.int x), some (.int (nI k))] [] (n, sl, wKK kk, I, L, wQQ q) r := by
  have h8 : am_Ev (d) 19 24 [some (.ref 77), some (.int x), some (.int (nI (k + 1)))] [] (n, sl, wKK kk, (if x < (I 78 k) then I else (if (I 79 k) < x then I else (va_up (va_up (va_up I 77 (upd (I 77) 3 ((I 77 3) + 1))) 77 (upd ((va_up I 77 (upd (I 77) 3 ((I 77 3) + 1))) 77) 4 ((I 77 4) &&& (nI k)))) 77 (upd ((va_up (va_up I 77 (upd (I 77) 3 ((I 77 3) + 1))) 77 (upd ((va_up I 77 (upd (I 77) 3 ((I 77 3) + 1))) 77) 4 ((I 77 4) &&& (nI k)))) 77) 5 ((I 77 5) ||| (nI k)))))), L, wQQ q) r := h9
  refine ev_b (pc' := (if (1 <<< ((I 77 2) &&& 31)) ≤ (nI k) then 99 else 34)) (ls' := [some (.ref 77), some (.int x), some (.int (nI k))]) (st' := []) (h' := (n, sl, wKK kk, I, L, wQQ q)) 6 rfl ?_
  refine ev_f (by rw [hS]; exact nI_ge hk (by omega)) ?_
  refine ev_b (pc' := (if 1024 ≤ (nI k) then 99 else 43)) (ls' := [some (.ref 77), some (.int x), some (.int (nI k))]) (st' := []) (h' := (n, sl, wKK kk, I, L, wQQ q)) 5 rfl ?_
  refine ev_f (nI_ge (a := k) (b := 1024) (by omega) (by omega)) ?_
  refine ev_b (pc' := 48) (ls' := [some (.ref 77), some (.int x), some (.int (nI k))]) (st' := [.int (nI k), .ref 78]) (h' := (n, sl, wKK kk, I, L, wQQ q)) 3 rfl ?_
  refine ev_ialN (k := k) rfl (rfl) (by omega) ?_
  refine ev_b (pc' := (if x < (I 78 k) then 93 else 53)) (ls' := [some (.ref 77), some (.int x), some (.int (nI k))]) (st' := []) (h' := (n, sl, wKK kk, I, L, wQQ q)) 2 rfl ?_
  refine ev_if (fun c50 => ?_) (fun c50 => ?_)
  · refine ev_iincN (k := k) (ls' := [some (.ref 77), some (.int x), some (.int (nI (k + 1)))]) rfl rfl rfl ?_
    refine ev_b (pc' := 24) (ls' := [some (.ref 77), some (.int x), some (.int (nI (k + 1)))]) (st' := []) (h' := (n, sl, wKK kk, I, L, wQQ q)) 1 rfl ?_
    simp only [if_pos c50] at h8; exact h8
  · refine ev_b (pc' := 59) (ls' := [some (.ref 77), some (.int x), some (.int (nI k))]) (st' := [.int (nI k), .ref 79, .int x]) (h' := (n, sl, wKK kk, I, L, wQQ q)) 4 rfl ?_
    refine ev_ialN (k := k) rfl (rfl) (by omega) ?_
    refine ev_b (pc' := (if (I 79 k) < x then 93 else 63)) (ls' := [some (.ref 77), some (.int x), some (.int (nI k))]) (st' := []) (h' := (n, sl, wKK kk, I, L, wQQ q)) 1 rfl ?_
    refine ev_if (fun c60 => ?_) (fun c60 => ?_)
    · refine ev_iincN (k := k) (ls' := [some (.ref 77), some (.int x), some (.int (nI (k + 1)))]) rfl rfl rfl ?_
      refine ev_b (pc' := 24) (ls' := [some (.ref 77), some (.int x), some (.int (nI (k + 1)))]) (st' := []) (h' := (n, sl, wKK kk, I, L, wQQ q)) 1 rfl ?_
      simp only [if_neg c50, if_pos c60] at h8; exact h8
    · refine ev_b (pc' := 93) (ls' := [some (.ref 77), some (.int x), some (.int (nI k))]) (st' := []) (h' := (n, sl, wKK kk, va_up (va_up (va_up I 77 (upd (I 77) 3 ((I 77 3) + 1))) 77 (upd ((va_up I 77 (upd (I 77) 3 ((I 77 3) + 1))) 77) 4 ((I 77 4) &&& (nI k)))) 77 (upd ((va_up (va_up I 77 (upd (I 77) 3 ((I 77 3) + 1))) 77 (upd ((va_up I 77 (upd (I 77) 3 ((I 77 3) + 1))) 77) 4 ((I 77 4) &&& (nI k)))) 77) 5 ((I 77 5) ||| (nI k))), L, wQQ q)) 18 rfl ?_
      refine ev_iincN (k := k) (ls' := [some (.ref 77), some (.int x), some (.int (nI (k + 1)))]) rfl rfl rfl ?_
      refine ev_b (pc' := 24) (ls' := [some (.ref 77), some (.int x), some (.int (nI (k + 1)))]) (st' := []) (h' := (n, sl, wKK kk, va_up (va_up (va_up I 77 (upd (I 77) 3 ((I 77 3) + 1))) 77 (upd ((va_up I 77 (upd (I 77) 3 ((I 77 3) + 1))) 77) 4 ((I 77 4) &&& (nI k)))) 77 (upd ((va_up (va_up I 77 (upd (I 77) 3 ((I 77 3) + 1))) 77 (upd ((va_up I 77 (upd (I 77) 3 ((I 77 3) + 1))) 77) 4 ((I 77 4) &&& (nI k)))) 77) 5 ((I 77 5) ||| (nI k))), L, wQQ q)) 1 rfl ?_
      simp only [if_neg c50, if_neg c60] at h8; exact h8
theorem lp_c_weigh {d n sl : Nat} {kk : Nat → Nat × Nat} {q : Nat → Nat → Option Nat} {r : Option Value × am_H} (x : Int32) (N : Nat) (I : Nat → Nat → Int32) (L : Nat → Nat → Int64) (hS : (1 <<< (I 77 2 &&& 31) : Int32) = nI N) (hN : N ≤ 1024) (h9 : am_Ev (d) 19 99 [some (.ref 77), some (.int x), some (.int (nI N))] [] (n, sl, wKK kk, (it_c_weigh x N I L N), L, wQQ q) r) : am_Ev (d) 19 24 [some (.ref 77), some (.int x), some (.int 0)] [] (n, sl, wKK kk, I, L, wQQ q) r := by
  have loop : ∀ zz k : Nat, k + zz = N → am_Ev (d) 19 24 [some (.ref 77), some (.int x), some (.int (nI k))] [] (n, sl, wKK kk, (it_c_weigh x N I L k), L, wQQ q) r := by
    intro zz
    induction zz with
    | zero =>
      intro k hk
      have hk9 : k = N := by omega
      rw [hk9]
      refine ev_b (pc' := (if (1 <<< (((it_c_weigh x N I L N) 77 2) &&& 31)) ≤ (nI N) then 99 else 34)) (ls' := [some (.ref 77), some (.int x), some (.int (nI N))]) (st' := []) (h' := (n, sl, wKK kk, (it_c_weigh x N I L N), L, wQQ q)) 6 rfl ?_
      refine ev_t (by rw [fw_weigh N, hS]; exact Int32.le_refl _) ?_
      exact h9
    | succ zz ih =>
      intro k hk
      exact sg_c_weigh x N _ _ (by rw [fw_weigh k]; exact hS) hN (by omega) (ih (k + 1) (by omega))
  exact loop N 0 (by omega)
def sI_c_weigh (x : Int32) (I : Nat → Nat → Int32) (L : Nat → Nat → Int64) : Nat → Nat → Int32 := (it_c_weigh x ((1 <<< (I 77 2 &&& 31) : Int32).toNatClampNeg) (va_up (va_up (va_up I 77 (upd (I 77) 3 0)) 77 (upd ((va_up I 77 (upd (I 77) 3 0)) 77) 4 ((1 <<< ((I 77 2) &&& 31)) - 1))) 77 (upd ((va_up (va_up I 77 (upd (I 77) 3 0)) 77 (upd ((va_up I 77 (upd (I 77) 3 0)) 77) 4 ((1 <<< ((I 77 2) &&& 31)) - 1))) 77) 5 0)) L ((1 <<< (I 77 2 &&& 31) : Int32).toNatClampNeg))
def sL_c_weigh (x : Int32) (I : Nat → Nat → Int32) (L : Nat → Nat → Int64) : Nat → Nat → Int64 := L
theorem ev_c_weigh {d : Nat} {n sl : Nat} {k : Nat → Nat × Nat} {I : Nat → Nat → Int32} {L : Nat → Nat → Int64} {q : Nat → Nat → Option Nat} {x : Int32} (hS : (1 <<< (I 77 2 &&& 31) : Int32) = nI (1 <<< (I 77 2 &&& 31) : Int32).toNatClampNeg) (hN : (1 <<< (I 77 2 &&& 31) : Int32).toNatClampNeg ≤ 1024) : am_Ev (d) 19 0 (am_ent 3 [.ref 77, .int x]) [] (n, sl, wKK k, I, L, wQQ q) (none, (n, sl, wKK k, sI_c_weigh x I L, sL_c_weigh x I L, wQQ q)) := by
  show am_Ev _ _ 0 [some (.ref 77), some (.int x), none] _ _ (none, (n, sl, wKK k, (it_c_weigh x ((1 <<< (I 77 2 &&& 31) : Int32).toNatClampNeg) (va_up (va_up (va_up I 77 (upd (I 77) 3 0)) 77 (upd ((va_up I 77 (upd (I 77) 3 0)) 77) 4 ((1 <<< ((I 77 2) &&& 31)) - 1))) 77 (upd ((va_up (va_up I 77 (upd (I 77) 3 0)) 77 (upd ((va_up I 77 (upd (I 77) 3 0)) 77) 4 ((1 <<< ((I 77 2) &&& 31)) - 1))) 77) 5 0)) L ((1 <<< (I 77 2 &&& 31) : Int32).toNatClampNeg)), L, wQQ q))
  refine ev_b (pc' := 24) (ls' := [some (.ref 77), some (.int x), some (.int 0)]) (st' := []) (h' := (n, sl, wKK k, va_up (va_up (va_up I 77 (upd (I 77) 3 0)) 77 (upd ((va_up I 77 (upd (I 77) 3 0)) 77) 4 ((1 <<< ((I 77 2) &&& 31)) - 1))) 77 (upd ((va_up (va_up I 77 (upd (I 77) 3 0)) 77 (upd ((va_up I 77 (upd (I 77) 3 0)) 77) 4 ((1 <<< ((I 77 2) &&& 31)) - 1))) 77) 5 0), L, wQQ q)) 16 rfl ?_
  refine lp_c_weigh x ((1 <<< (I 77 2 &&& 31) : Int32).toNatClampNeg) (va_up (va_up (va_up I 77 (upd (I 77) 3 0)) 77 (upd ((va_up I 77 (upd (I 77) 3 0)) 77) 4 ((1 <<< ((I 77 2) &&& 31)) - 1))) 77 (upd ((va_up (va_up I 77 (upd (I 77) 3 0)) 77 (upd ((va_up I 77 (upd (I 77) 3 0)) 77) 4 ((1 <<< ((I 77 2) &&& 31)) - 1))) 77) 5 0)) L hS hN (?_)
  exact ev_rv rfl rfl
theorem sLe_c_weigh (x : Int32) (I : Nat → Nat → Int32) (L : Nat → Nat → Int64) : sL_c_weigh x I L = L := by
  unfold sL_c_weigh
  try (repeat' split) <;> rfl
def sp_x_sets (x : Int32) (I : Nat → Nat → Int32) (L : Nat → Nat → Int64) : Int32 := (if (sp_isWithin x.toInt64 (-1000000) 1000000) = 0 then (-1) else sp_c_setCount (sI_c_weigh x I L) (sL_c_weigh x I L))
def sI_x_sets (x : Int32) (I : Nat → Nat → Int32) (L : Nat → Nat → Int64) : Nat → Nat → Int32 := (if (sp_isWithin x.toInt64 (-1000000) 1000000) = 0 then I else (sI_c_weigh x I L))
def sL_x_sets (x : Int32) (I : Nat → Nat → Int32) (L : Nat → Nat → Int64) : Nat → Nat → Int64 := (if (sp_isWithin x.toInt64 (-1000000) 1000000) = 0 then L else (sL_c_weigh x I L))
theorem ev_x_sets {d : Nat} {n sl : Nat} {k : Nat → Nat × Nat} {I : Nat → Nat → Int32} {L : Nat → Nat → Int64} {q : Nat → Nat → Option Nat} {x : Int32} (hS : (1 <<< (I 77 2 &&& 31) : Int32) = nI (1 <<< (I 77 2 &&& 31) : Int32).toNatClampNeg) (hN : (1 <<< (I 77 2 &&& 31) : Int32).toNatClampNeg ≤ 1024) : am_Ev (d + 1) 144 0 (am_ent 2 [.ref 0, .int x]) [] (n, sl, wKK k, I, L, wQQ q) (some (.int (sp_x_sets x I L)), (n, sl, wKK k, sI_x_sets x I L, sL_x_sets x I L, wQQ q)) := by
  show am_Ev _ _ 0 [some (.ref 0), some (.int x)] _ _ (some (.int (if (sp_isWithin x.toInt64 (-1000000) 1000000) = 0 then (-1) else sp_c_setCount (sI_c_weigh x I L) (sL_c_weigh x I L))), (n, sl, wKK k, (if (sp_isWithin x.toInt64 (-1000000) 1000000) = 0 then I else (sI_c_weigh x I L)), (if (sp_isWithin x.toInt64 (-1000000) 1000000) = 0 then L else (sL_c_weigh x I L)), wQQ q))
  refine ev_b (pc' := 8) (ls' := [some (.ref 0), some (.int x)]) (st' := [.long 1000000, .long (-1000000), .long x.toInt64]) (h' := (n, sl, wKK k, I, L, wQQ q)) 4 rfl ?_
  refine ev_cs [.long x.toInt64, .long (-1000000), .long 1000000] [] rfl rfl (by omega) rfl (Nat.le_of_ble_eq_true rfl) (Nat.le_of_ble_eq_true rfl) (ev_isWithin) ?_
  refine ev_b (pc' := (if (sp_isWithin x.toInt64 (-1000000) 1000000) = 0 then 14 else 16)) (ls' := [some (.ref 0), some (.int x)]) (st' := []) (h' := (n, sl, wKK k, I, L, wQQ q)) 1 rfl ?_
  refine ev_ifIw (fun c11 => ?_) (fun c11 => ?_)
  · refine ev_b (pc' := 15) (ls' := [some (.ref 0), some (.int x)]) (st' := [.int (-1)]) (h' := (n, sl, wKK k, I, L, wQQ q)) 1 rfl ?_
    exact ev_ri rfl rfl rfl
  · refine ev_b (pc' := 21) (ls' := [some (.ref 0), some (.int x)]) (st' := [.int x, .ref 77]) (h' := (n, sl, wKK k, I, L, wQQ q)) 3 rfl ?_
    refine ev_cv [.int x] [] rfl rfl (by omega) rfl (Nat.le_of_ble_eq_true rfl) (Nat.le_of_ble_eq_true rfl) (Or.inr (Or.inr rfl)) (ev_c_weigh hS hN) ?_
    refine ev_b (pc' := 28) (ls' := [some (.ref 0), some (.int x)]) (st' := [.ref 77]) (h' := (n, sl, wKK k, sI_c_weigh x I L, sL_c_weigh x I L, wQQ q)) 2 rfl ?_
    refine ev_cv [] [] rfl rfl (by omega) rfl (Nat.le_of_ble_eq_true rfl) (Nat.le_of_ble_eq_true rfl) (Or.inr (Or.inr rfl)) (ev_c_setCount) ?_
    exact ev_ri rfl rfl rfl
def sp_x_lurch (x : Int32) (b : Int32) (I : Nat → Nat → Int32) (L : Nat → Nat → Int64) : Int32 := (if (sp_isWithin x.toInt64 (-1000000) 1000000) = 0 then (-1) else sp_c_found b (sI_c_weigh x I L) (sL_c_weigh x I L))
def sI_x_lurch (x : Int32) (b : Int32) (I : Nat → Nat → Int32) (L : Nat → Nat → Int64) : Nat → Nat → Int32 := (if (sp_isWithin x.toInt64 (-1000000) 1000000) = 0 then I else (sI_c_weigh x I L))
def sL_x_lurch (x : Int32) (b : Int32) (I : Nat → Nat → Int32) (L : Nat → Nat → Int64) : Nat → Nat → Int64 := (if (sp_isWithin x.toInt64 (-1000000) 1000000) = 0 then L else (sL_c_weigh x I L))
theorem ev_x_lurch {d : Nat} {n sl : Nat} {k : Nat → Nat × Nat} {I : Nat → Nat → Int32} {L : Nat → Nat → Int64} {q : Nat → Nat → Option Nat} {x : Int32} {b : Int32} (hS : (1 <<< (I 77 2 &&& 31) : Int32) = nI (1 <<< (I 77 2 &&& 31) : Int32).toNatClampNeg) (hN : (1 <<< (I 77 2 &&& 31) : Int32).toNatClampNeg ≤ 1024) : am_Ev (d + 1) 143 0 (am_ent 3 [.ref 0, .int x, .int b]) [] (n, sl, wKK k, I, L, wQQ q) (some (.int (sp_x_lurch x b I L)), (n, sl, wKK k, sI_x_lurch x b I L, sL_x_lurch x b I L, wQQ q)) := by
  show am_Ev _ _ 0 [some (.ref 0), some (.int x), some (.int b)] _ _ (some (.int (if (sp_isWithin x.toInt64 (-1000000) 1000000) = 0 then (-1) else sp_c_found b (sI_c_weigh x I L) (sL_c_weigh x I L))), (n, sl, wKK k, (if (sp_isWithin x.toInt64 (-1000000) 1000000) = 0 then I else (sI_c_weigh x I L)), (if (sp_isWithin x.toInt64 (-1000000) 1000000) = 0 then L else (sL_c_weigh x I L)), wQQ q))
  refine ev_b (pc' := 8) (ls' := [some (.ref 0), some (.int x), some (.int b)]) (st' := [.long 1000000, .long (-1000000), .long x.toInt64]) (h' := (n, sl, wKK k, I, L, wQQ q)) 4 rfl ?_
  refine ev_cs [.long x.toInt64, .long (-1000000), .long 1000000] [] rfl rfl (by omega) rfl (Nat.le_of_ble_eq_true rfl) (Nat.le_of_ble_eq_true rfl) (ev_isWithin) ?_
  refine ev_b (pc' := (if (sp_isWithin x.toInt64 (-1000000) 1000000) = 0 then 14 else 16)) (ls' := [some (.ref 0), some (.int x), some (.int b)]) (st' := []) (h' := (n, sl, wKK k, I, L, wQQ q)) 1 rfl ?_
  refine ev_ifIw (fun c11 => ?_) (fun c11 => ?_)
  · refine ev_b (pc' := 15) (ls' := [some (.ref 0), some (.int x), some (.int b)]) (st' := [.int (-1)]) (h' := (n, sl, wKK k, I, L, wQQ q)) 1 rfl ?_
    exact ev_ri rfl rfl rfl
  · refine ev_b (pc' := 21) (ls' := [some (.ref 0), some (.int x), some (.int b)]) (st' := [.int x, .ref 77]) (h' := (n, sl, wKK k, I, L, wQQ q)) 3 rfl ?_
    refine ev_cv [.int x] [] rfl rfl (by omega) rfl (Nat.le_of_ble_eq_true rfl) (Nat.le_of_ble_eq_true rfl) (Or.inr (Or.inr rfl)) (ev_c_weigh hS hN) ?_
    refine ev_b (pc' := 29) (ls' := [some (.ref 0), some (.int x), some (.int b)]) (st' := [.int b, .ref 77]) (h' := (n, sl, wKK k, sI_c_weigh x I L, sL_c_weigh x I L, wQQ q)) 3 rfl ?_
    refine ev_cv [.int b] [] rfl rfl (by omega) rfl (Nat.le_of_ble_eq_true rfl) (Nat.le_of_ble_eq_true rfl) (Or.inr (Or.inr rfl)) (ev_c_found) ?_
    exact ev_ri rfl rfl rfl
