/-! THE CLASS REACHES A DAY -/
theorem fr_live {D : Nat} {I : Nat → Nat → Int32} {L : Nat → Nat → Int64} {j : Nat} (h0 : j ≠ 52) (h1 : j ≠ 53) (h2 : j ≠ 54) : sI_d_live D I L j = I j := by
  unfold sI_d_live
  simp only [va_up, if_neg h0, if_neg h1, if_neg h2]
def bd_d_reach (D : Nat) (A : Nat) (k : Nat) (I : Nat → Nat → Int32) (L : Nat → Nat → Int64) : (Nat → Nat → Int32) × (Nat → Nat → Int64) := ((va_up (sI_d_live (A + k) I L) 13 (upd ((sI_d_live (A + k) I L) 13) 11 (nI ((A + k) + 1)))), (sL_d_live (A + k) I L))
def it_d_reach (D : Nat) (A : Nat) (I : Nat → Nat → Int32) (L : Nat → Nat → Int64) : Nat → (Nat → Nat → Int32) × (Nat → Nat → Int64)
  | 0 => (I, L)
  | k + 1 => bd_d_reach D A k (it_d_reach D A I L k).1 (it_d_reach D A I L k).2
theorem fI_d_reach (D : Nat) (A : Nat) (I : Nat → Nat → Int32) (L : Nat → Nat → Int64) {j : Nat} (h0 : j ≠ 52) (h1 : j ≠ 53) (h2 : j ≠ 54) (h3 : j ≠ 13) : ∀ k, (it_d_reach D A I L k).1 j = I j := by
  intro k
  induction k with
  | zero => rfl
  | succ k ih =>
    rw [← ih]
    show (bd_d_reach D A k (it_d_reach D A I L k).1 (it_d_reach D A I L k).2).1 j = _
    unfold bd_d_reach
    try dsimp only
    (repeat' split) <;> simp only [va_up, fr_live h0 h1 h2, if_neg h0, if_neg h1, if_neg h2, if_neg h3]
theorem sg_d_reach {d n sl : Nat} {kk : Nat → Nat × Nat} {q : Nat → Nat → Option Nat} {r : Option Value × am_H} (D : Nat) (A : Nat) {k : Nat} (I : Nat → Nat → Int32) (L : Nat → Nat → Int64) (hD : D ≤ 400) (hA : A ≤ 400) (hs : ∀ j, I 14 j ≤ 1000) (hk : k < D - A) (h9 : am_Ev (d + 5) 27 5 [some (.ref 13), some (.int (nI D)), some (.int (nI (A + (k + 1))))] [] (n, sl, wKK kk, (bd_d_reach D A k I L).1, (bd_d_reach D A k I L).2, wQQ q) r) : am_Ev (d + 5) 27 5 [some (.ref 13), some (.int (nI D)), some (.int (nI (A + k)))] [] (n, sl, wKK kk, I, L, wQQ q) r := by
  have h8 : am_Ev (d + 5) 27 5 [some (.ref 13), some (.int (nI D)), some (.int (nI (A + (k + 1))))] [] (n, sl, wKK kk, (va_up (sI_d_live (A + k) I L) 13 (upd ((sI_d_live (A + k) I L) 13) 11 (nI ((A + k) + 1)))), (sL_d_live (A + k) I L), wQQ q) r := h9
  refine ev_b (pc' := (if (nI D) ≤ (nI (A + k)) then 35 else 10)) (ls' := [some (.ref 13), some (.int (nI D)), some (.int (nI (A + k)))]) (st' := []) (h' := (n, sl, wKK kk, I, L, wQQ q)) 3 rfl ?_
  refine ev_f (nI_ge (by omega) (by omega)) ?_
  refine ev_b (pc' := (if 400 ≤ (nI (A + k)) then 35 else 17)) (ls' := [some (.ref 13), some (.int (nI D)), some (.int (nI (A + k)))]) (st' := []) (h' := (n, sl, wKK kk, I, L, wQQ q)) 3 rfl ?_
  refine ev_f (nI_ge (a := A + k) (b := 400) (by omega) (by omega)) ?_
  refine ev_b (pc' := 19) (ls' := [some (.ref 13), some (.int (nI D)), some (.int (nI (A + k)))]) (st' := [.int (nI (A + k)), .ref 13]) (h' := (n, sl, wKK kk, I, L, wQQ q)) 2 rfl ?_
  refine ev_cv [.int (nI (A + k))] [] rfl rfl (by omega) rfl (Nat.le_of_ble_eq_true rfl) (Nat.le_of_ble_eq_true rfl) (Or.inr (Or.inr rfl)) (ev_d_live (by omega) hs) ?_
  refine ev_b (pc' := 25) (ls' := [some (.ref 13), some (.int (nI D)), some (.int (nI (A + k)))]) (st' := [.int 1, .int (nI (A + k)), .ref 13]) (h' := (n, sl, wKK kk, sI_d_live (A + k) I L, sL_d_live (A + k) I L, wQQ q)) 3 rfl ?_
  refine ev_b (pc' := 26) (ls' := [some (.ref 13), some (.int (nI D)), some (.int (nI (A + k)))]) (st' := [.int ((nI (A + k)) + 1), .ref 13]) (h' := (n, sl, wKK kk, sI_d_live (A + k) I L, sL_d_live (A + k) I L, wQQ q)) 1 rfl ?_
  refine ev_top (show (nI (A + k)) + 1 = nI ((A + k) + 1) from nI_add (A + k) 1) ?_
  refine ev_b (pc' := 29) (ls' := [some (.ref 13), some (.int (nI D)), some (.int (nI (A + k)))]) (st' := []) (h' := (n, sl, wKK kk, va_up (sI_d_live (A + k) I L) 13 (upd ((sI_d_live (A + k) I L) 13) 11 (nI ((A + k) + 1))), sL_d_live (A + k) I L, wQQ q)) 1 rfl ?_
  refine ev_iincN (k := (A + k)) (ls' := [some (.ref 13), some (.int (nI D)), some (.int (nI (A + k + 1)))]) rfl rfl rfl ?_
  refine ev_b (pc' := 5) (ls' := [some (.ref 13), some (.int (nI D)), some (.int (nI (A + k + 1)))]) (st' := []) (h' := (n, sl, wKK kk, va_up (sI_d_live (A + k) I L) 13 (upd ((sI_d_live (A + k) I L) 13) 11 (nI ((A + k) + 1))), sL_d_live (A + k) I L, wQQ q)) 1 rfl ?_
  exact h8
theorem lp_d_reach {d n sl : Nat} {kk : Nat → Nat × Nat} {q : Nat → Nat → Option Nat} {r : Option Value × am_H} (D : Nat) (A : Nat) (I : Nat → Nat → Int32) (L : Nat → Nat → Int64) (hD : D ≤ 400) (hA : A ≤ 400) (hs : ∀ j, I 14 j ≤ 1000) (h9 : am_Ev (d + 5) 27 35 [some (.ref 13), some (.int (nI D)), some (.int (nI (A + (D - A))))] [] (n, sl, wKK kk, (it_d_reach D A I L (D - A)).1, (it_d_reach D A I L (D - A)).2, wQQ q) r) : am_Ev (d + 5) 27 5 [some (.ref 13), some (.int (nI D)), some (.int (nI A))] [] (n, sl, wKK kk, I, L, wQQ q) r := by
  have loop : ∀ zz k : Nat, k + zz = D - A → am_Ev (d + 5) 27 5 [some (.ref 13), some (.int (nI D)), some (.int (nI (A + k)))] [] (n, sl, wKK kk, (it_d_reach D A I L k).1, (it_d_reach D A I L k).2, wQQ q) r := by
    intro zz
    induction zz with
    | zero =>
      intro k hk
      have hk9 : k = D - A := by omega
      rw [hk9]
      refine ev_b (pc' := (if (nI D) ≤ (nI (A + (D - A))) then 35 else 10)) (ls' := [some (.ref 13), some (.int (nI D)), some (.int (nI (A + (D - A))))]) (st' := []) (h' := (n, sl, wKK kk, (it_d_reach D A I L (D - A)).1, (it_d_reach D A I L (D - A)).2, wQQ q)) 3 rfl ?_
      refine ev_t ((nI_leI (by omega) (by omega)).mpr (by omega)) ?_
      exact h9
    | succ zz ih =>
      intro k hk
      exact sg_d_reach D A _ _ hD hA (fun j => by rw [fI_d_reach D A I L (j := 14) (by decide) (by decide) (by decide) (by decide) k]; exact hs j) (by omega) (ih (k + 1) (by omega))
  exact loop (D - A) 0 (by omega)
def sI_d_reach (D : Nat) (I : Nat → Nat → Int32) (L : Nat → Nat → Int64) : Nat → Nat → Int32 := ((it_d_reach D ((I 13 11).toNatClampNeg) I L (D - ((I 13 11).toNatClampNeg))).1)
def sL_d_reach (D : Nat) (I : Nat → Nat → Int32) (L : Nat → Nat → Int64) : Nat → Nat → Int64 := ((it_d_reach D ((I 13 11).toNatClampNeg) I L (D - ((I 13 11).toNatClampNeg))).2)
theorem ev_d_reach {d : Nat} {n sl : Nat} {k : Nat → Nat × Nat} {I : Nat → Nat → Int32} {L : Nat → Nat → Int64} {q : Nat → Nat → Option Nat} {D : Nat} (hD : D ≤ 400) (hr : I 13 11 = nI (I 13 11).toNatClampNeg) (hA : (I 13 11).toNatClampNeg ≤ 400) (hs : ∀ j, I 14 j ≤ 1000) : am_Ev (d + 5) 27 0 (am_ent 3 [.ref 13, .int (nI D)]) [] (n, sl, wKK k, I, L, wQQ q) (none, (n, sl, wKK k, sI_d_reach D I L, sL_d_reach D I L, wQQ q)) := by
  show am_Ev _ _ 0 [some (.ref 13), some (.int (nI D)), none] _ _ (none, (n, sl, wKK k, ((it_d_reach D ((I 13 11).toNatClampNeg) I L (D - ((I 13 11).toNatClampNeg))).1), ((it_d_reach D ((I 13 11).toNatClampNeg) I L (D - ((I 13 11).toNatClampNeg))).2), wQQ q))
  refine ev_b (pc' := 5) (ls' := [some (.ref 13), some (.int (nI D)), some (.int (I 13 11))]) (st' := []) (h' := (n, sl, wKK k, I, L, wQQ q)) 3 rfl ?_
  refine ev_lsE (congrArg (fun zq : Int32 => ([some (.ref 13), some (.int (nI D)), some (.int zq)] : am_L)) (show I 13 11 = nI ((I 13 11).toNatClampNeg) from hr)) ?_
  refine lp_d_reach D ((I 13 11).toNatClampNeg) I L hD hA hs (?_)
  exact ev_rv rfl rfl
