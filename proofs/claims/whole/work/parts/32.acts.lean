/-! THE ACTS -/
theorem wKK_hi {kk : Nat → Nat × Nat} {a : Nat} (h : 131 ≤ a) : wKK kk a = kk a := by
  unfold wKK
  rw [Nat.ble_eq_true_of_le h]
  rfl
theorem am_acK {kk : Nat → Nat × Nat} {a : Nat} (h : 131 ≤ a ∧ kk a = (0, 0)) : (wKK kk a).1 = 0 := by
  rw [wKK_hi h.1, h.2]
section EVA
variable {d mi pc N sl : Nat} {ls : am_L} {st : List Value} {r : Option Value × am_H} {v : Value} {K : Nat → Nat × Nat} {I : Nat → Nat → Int32} {L : Nat → Nat → Int64} {Q : Nat → Nat → Option Nat}
theorem ev_gfa {a fk kd ix : Nat} {tl : List Nat} (hP : am_P mi pc = some (.getfield ix, 3, 0 :: fk :: kd :: tl, v)) (hkd : kd = 0 ∨ kd = 3) (hK : (K a).1 = 0) (k1 : am_Ev d mi (pc + 3) ls (.int (I a fk) :: st) (N, sl, K, I, L, Q) r) : am_Ev d mi pc ls (.ref a :: st) (N, sl, K, I, L, Q) r := by
  refine ev_1 hP rfl ?_ k1
  show (if (K a).1 = 0 then some (pc + 3, ls, am_get kd a fk (N, sl, K, I, L, Q) :: st, (N, sl, K, I, L, Q)) else none) = _
  rw [if_pos hK]
  rcases hkd with rfl | rfl <;> rfl
end EVA
/-- the book's acts: C of them, the i-th at the cell ah i -/
def am_Bk (kk : Nat → Nat × Nat) (q : Nat → Nat → Option Nat) (C : Nat) (ah : Nat → Nat) : Prop := ∀ i, i < C → q 56 i = some (ah i) ∧ 131 ≤ ah i ∧ kk (ah i) = (0, 0)
theorem ev_b_act {d n sl i C : Nat} {ah : Nat → Nat} {kk : Nat → Nat × Nat} {I : Nat → Nat → Int32} {L : Nat → Nat → Int64} {q : Nat → Nat → Option Nat} (hB : am_Bk kk q C ah) (hC : I 55 2 = nI C) (hC2 : C ≤ 200) (hi : i < C) : am_Ev d 9 0 (am_ent 2 [.ref 55, .int (nI (i + 1))]) [] (n, sl, wKK kk, I, L, wQQ q) (some (.ref (ah i)), (n, sl, wKK kk, I, L, wQQ q)) := by
  show am_Ev _ _ 0 [some (.ref 55), some (.int (nI (i + 1)))] _ _ _
  refine ev_b (pc' := (if (nI (i + 1)) < 1 then 31 else 5)) (ls' := [some (.ref 55), some (.int (nI (i + 1)))]) (st' := []) (h' := (n, sl, wKK kk, I, L, wQQ q)) 3 rfl ?_
  refine ev_f (Int32.not_lt.mpr ((nI_leI (a := 1) (b := i + 1) (by omega) (by omega)).mpr (by omega))) ?_
  refine ev_b (pc' := (if (I 55 2) < (nI (i + 1)) then 31 else 13)) (ls' := [some (.ref 55), some (.int (nI (i + 1)))]) (st' := []) (h' := (n, sl, wKK kk, I, L, wQQ q)) 4 rfl ?_
  refine ev_f (by rw [hC]; exact nI_notlt (by omega) (by omega)) ?_
  refine ev_b (pc' := (if 200 < (nI (i + 1)) then 31 else 20)) (ls' := [some (.ref 55), some (.int (nI (i + 1)))]) (st' := []) (h' := (n, sl, wKK kk, I, L, wQQ q)) 3 rfl ?_
  refine ev_f (nI_notlt (a := 200) (by omega) (by omega)) ?_
  refine ev_b (pc' := 26) (ls' := [some (.ref 55), some (.int (nI (i + 1)))]) (st' := [.int 1, .int (nI (i + 1)), .ref 56]) (h' := (n, sl, wKK kk, I, L, wQQ q)) 4 rfl ?_
  refine ev_b (pc' := 27) (ls' := [some (.ref 55), some (.int (nI (i + 1)))]) (st' := [.int ((nI (i + 1)) - 1), .ref 56]) (h' := (n, sl, wKK kk, I, L, wQQ q)) 1 rfl ?_
  refine ev_top (show (nI (i + 1)) - 1 = nI ((i + 1) - 1) from nI_sub (a := i + 1) (b := 1) (by omega)) ?_
  refine ev_aal (t := 24) (n := 200) rfl rfl (Or.inl rfl) (ev_ix (by omega) (by omega)) ?_
  rw [show va_rf (wQQ q 56 (nI ((i + 1) - 1)).toNatClampNeg) = Value.ref (ah i) from by rw [nI_clamp (by omega)]; exact congrArg va_rf (hB i hi).1]
  refine ev_b (pc' := 32) (ls' := [some (.ref 55), some (.int (nI (i + 1)))]) (st' := [.ref (ah i)]) (h' := (n, sl, wKK kk, I, L, wQQ q)) 1 rfl ?_
  exact ev_ra rfl rfl rfl
def sp_a_isKnown (a : Nat) (s : Int32) (I : Nat → Nat → Int32) (L : Nat → Nat → Int64) : Int32 := (if (I a 8) = 0 then 0 else (if (I a 0) = s then 1 else 0))
theorem ev_a_isKnown {d : Nat} {n sl : Nat} {k : Nat → Nat × Nat} {I : Nat → Nat → Int32} {L : Nat → Nat → Int64} {q : Nat → Nat → Option Nat} {a : Nat} {s : Int32} (ha : 131 ≤ a ∧ k a = (0, 0)) : am_Ev (d) 2 0 (am_ent 2 [.ref a, .int s]) [] (n, sl, wKK k, I, L, wQQ q) (some (.int (sp_a_isKnown a s I L)), (n, sl, wKK k, I, L, wQQ q)) := by
  show am_Ev _ _ 0 [some (.ref a), some (.int s)] _ _ (some (.int (if (I a 8) = 0 then 0 else (if (I a 0) = s then 1 else 0))), (n, sl, wKK k, I, L, wQQ q))
  refine ev_b (pc' := 1) (ls' := [some (.ref a), some (.int s)]) (st' := [.ref a]) (h' := (n, sl, wKK k, I, L, wQQ q)) 1 rfl ?_
  refine ev_gfa rfl (Or.inr rfl) (am_acK ha) ?_
  refine ev_b (pc' := (if (I a 8) = 0 then 19 else 7)) (ls' := [some (.ref a), some (.int s)]) (st' := []) (h' := (n, sl, wKK k, I, L, wQQ q)) 1 rfl ?_
  refine ev_ifIs (fun c4 => ?_) (fun c4 => ?_)
  · refine ev_b (pc' := 20) (ls' := [some (.ref a), some (.int s)]) (st' := [.int 0]) (h' := (n, sl, wKK k, I, L, wQQ q)) 1 rfl ?_
    exact ev_rz rfl (Or.inl rfl) rfl rfl
  · refine ev_b (pc' := 8) (ls' := [some (.ref a), some (.int s)]) (st' := [.ref a]) (h' := (n, sl, wKK k, I, L, wQQ q)) 1 rfl ?_
    refine ev_gfa rfl (Or.inl rfl) (am_acK ha) ?_
    refine ev_b (pc' := (if (I a 0) = s then 15 else 19)) (ls' := [some (.ref a), some (.int s)]) (st' := []) (h' := (n, sl, wKK k, I, L, wQQ q)) 2 rfl ?_
    refine ev_ifIs (fun c12 => ?_) (fun c12 => ?_)
    · refine ev_b (pc' := 20) (ls' := [some (.ref a), some (.int s)]) (st' := [.int 1]) (h' := (n, sl, wKK k, I, L, wQQ q)) 2 rfl ?_
      exact ev_rz rfl (Or.inr rfl) rfl rfl
    · refine ev_b (pc' := 20) (ls' := [some (.ref a), some (.int s)]) (st' := [.int 0]) (h' := (n, sl, wKK k, I, L, wQQ q)) 1 rfl ?_
      exact ev_rz rfl (Or.inl rfl) rfl rfl
def sp_a_isWork (a : Nat) (I : Nat → Nat → Int32) (L : Nat → Nat → Int64) : Int32 := (if (I a 0) < 0 then 0 else (if 2 < (I a 0) then 0 else 1))
theorem ev_a_isWork {d : Nat} {n sl : Nat} {k : Nat → Nat × Nat} {I : Nat → Nat → Int32} {L : Nat → Nat → Int64} {q : Nat → Nat → Option Nat} {a : Nat} (ha : 131 ≤ a ∧ k a = (0, 0)) : am_Ev (d) 3 0 (am_ent 1 [.ref a]) [] (n, sl, wKK k, I, L, wQQ q) (some (.int (sp_a_isWork a I L)), (n, sl, wKK k, I, L, wQQ q)) := by
  show am_Ev _ _ 0 [some (.ref a)] _ _ (some (.int (if (I a 0) < 0 then 0 else (if 2 < (I a 0) then 0 else 1))), (n, sl, wKK k, I, L, wQQ q))
  refine ev_b (pc' := 1) (ls' := [some (.ref a)]) (st' := [.ref a]) (h' := (n, sl, wKK k, I, L, wQQ q)) 1 rfl ?_
  refine ev_gfa rfl (Or.inl rfl) (am_acK ha) ?_
  refine ev_b (pc' := (if (I a 0) < 0 then 19 else 7)) (ls' := [some (.ref a)]) (st' := []) (h' := (n, sl, wKK k, I, L, wQQ q)) 1 rfl ?_
  refine ev_ifIs (fun c4 => ?_) (fun c4 => ?_)
  · refine ev_b (pc' := 20) (ls' := [some (.ref a)]) (st' := [.int 0]) (h' := (n, sl, wKK k, I, L, wQQ q)) 1 rfl ?_
    exact ev_rz rfl (Or.inl rfl) rfl rfl
  · refine ev_b (pc' := 8) (ls' := [some (.ref a)]) (st' := [.ref a]) (h' := (n, sl, wKK k, I, L, wQQ q)) 1 rfl ?_
    refine ev_gfa rfl (Or.inl rfl) (am_acK ha) ?_
    refine ev_b (pc' := (if 2 < (I a 0) then 19 else 15)) (ls' := [some (.ref a)]) (st' := []) (h' := (n, sl, wKK k, I, L, wQQ q)) 2 rfl ?_
    refine ev_ifIs (fun c12 => ?_) (fun c12 => ?_)
    · refine ev_b (pc' := 20) (ls' := [some (.ref a)]) (st' := [.int 0]) (h' := (n, sl, wKK k, I, L, wQQ q)) 1 rfl ?_
      exact ev_rz rfl (Or.inl rfl) rfl rfl
    · refine ev_b (pc' := 20) (ls' := [some (.ref a)]) (st' := [.int 1]) (h' := (n, sl, wKK k, I, L, wQQ q)) 2 rfl ?_
      exact ev_rz rfl (Or.inr rfl) rfl rfl
