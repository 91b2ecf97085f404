/-! THE REFERENCE: bursts, causes told, acts struck, as of -/
def bd_m_isBurst (A : Nat) (l : Int64) (u : Int64) (v : Int64) (k : Nat) (I : Nat → Nat → Int32) (L : Nat → Nat → Int64) : Int64 × Int64 := ((u + ((I 95 (A + k)).toInt64)), (v + (((I 95 (A + k)).toInt64) * ((sp_m_overhang (nI (A + k)) l I L) - (sp_m_overhang (nI A) l I L)))))
def it_m_isBurst (A : Nat) (l : Int64) (u : Int64) (v : Int64) (I : Nat → Nat → Int32) (L : Nat → Nat → Int64) : Nat → Int64 × Int64
  | 0 => (u, v)
  | k + 1 => bd_m_isBurst A l (it_m_isBurst A l u v I L k).1 (it_m_isBurst A l u v I L k).2 k I L
theorem sg_m_isBurst {d n sl : Nat} {kk : Nat → Nat × Nat} {q : Nat → Nat → Option Nat} {r : Option Value × am_H} (A : Nat) (l : Int64) (u : Int64) (v : Int64) {k : Nat} (I : Nat → Nat → Int32) (L : Nat → Nat → Int64) (hA : A < 8) (hk : k < 8 - A) (h9 : am_Ev (d + 2) 235 9 [some (.ref 80), some (.int (nI A)), some (.long l), none, some (.long ((bd_m_isBurst A l u v k I L).1)), none, some (.long ((bd_m_isBurst A l u v k I L).2)), none, some (.int (nI (A + (k + 1))))] [] (n, sl, wKK kk, I, L, wQQ q) r) : am_Ev (d + 2) 235 9 [some (.ref 80), some (.int (nI A)), some (.long l), none, some (.long u), none, some (.long v), none, some (.int (nI (A + k)))] [] (n, sl, wKK kk, I, L, wQQ q) r := by
  have h8 : am_Ev (d + 2) 235 9 [some (.ref 80), some (.int (nI A)), some (.long l), none, some (.long (u + ((I 95 (A + k)).toInt64))), none, some (.long (v + (((I 95 (A + k)).toInt64) * ((sp_m_overhang (nI (A + k)) l I L) - (sp_m_overhang (nI A) l I L))))), none, some (.int (nI (A + (k + 1))))] [] (n, sl, wKK kk, I, L, wQQ q) r := h9
  refine ev_b (pc' := (if 8 ≤ (nI (A + k)) then 63 else 16)) (ls' := [some (.ref 80), some (.int (nI A)), some (.long l), none, some (.long u), none, some (.long v), none, some (.int (nI (A + k)))]) (st' := []) (h' := (n, sl, wKK kk, I, L, wQQ q)) 3 rfl ?_
  refine ev_f (nI_ge (a := A + k) (b := 8) (by omega) (by omega)) ?_
  refine ev_b (pc' := 24) (ls' := [some (.ref 80), some (.int (nI A)), some (.long l), none, some (.long u), none, some (.long v), none, some (.int (nI (A + k)))]) (st' := [.int (nI (A + k)), .ref 95, .long u]) (h' := (n, sl, wKK kk, I, L, wQQ q)) 4 rfl ?_
  refine ev_ialN (k := (A + k)) rfl (rfl) (by omega) ?_
  refine ev_b (pc' := 37) (ls' := [some (.ref 80), some (.int (nI A)), some (.long l), none, some (.long (u + ((I 95 (A + k)).toInt64))), none, some (.long v), none, some (.int (nI (A + k)))]) (st' := [.int (nI (A + k)), .ref 95, .long v]) (h' := (n, sl, wKK kk, I, L, wQQ q)) 7 rfl ?_
  refine ev_ialN (k := (A + k)) rfl (rfl) (by omega) ?_
  refine ev_b (pc' := 43) (ls' := [some (.ref 80), some (.int (nI A)), some (.long l), none, some (.long (u + ((I 95 (A + k)).toInt64))), none, some (.long v), none, some (.int (nI (A + k)))]) (st' := [.long l, .int (nI (A + k)), .ref 80, .long ((I 95 (A + k)).toInt64), .long v]) (h' := (n, sl, wKK kk, I, L, wQQ q)) 4 rfl ?_
  refine ev_cv [.int (nI (A + k)), .long l] [.long ((I 95 (A + k)).toInt64), .long v] rfl rfl (by omega) rfl (Nat.le_of_ble_eq_true rfl) (Nat.le_of_ble_eq_true rfl) (Or.inr (Or.inr rfl)) (ev_m_overhang (ev_ix (by omega) (by omega))) ?_
  refine ev_b (pc' := 49) (ls' := [some (.ref 80), some (.int (nI A)), some (.long l), none, some (.long (u + ((I 95 (A + k)).toInt64))), none, some (.long v), none, some (.int (nI (A + k)))]) (st' := [.long l, .int (nI A), .ref 80, .long (sp_m_overhang (nI (A + k)) l I L), .long ((I 95 (A + k)).toInt64), .long v]) (h' := (n, sl, wKK kk, I, L, wQQ q)) 3 rfl ?_
  refine ev_cv [.int (nI A), .long l] [.long (sp_m_overhang (nI (A + k)) l I L), .long ((I 95 (A + k)).toInt64), .long v] rfl rfl (by omega) rfl (Nat.le_of_ble_eq_true rfl) (Nat.le_of_ble_eq_true rfl) (Or.inr (Or.inr rfl)) (ev_m_overhang (ev_ix (by omega) (by omega))) ?_
  refine ev_b (pc' := 57) (ls' := [some (.ref 80), some (.int (nI A)), some (.long l), none, some (.long (u + ((I 95 (A + k)).toInt64))), none, some (.long (v + (((I 95 (A + k)).toInt64) * ((sp_m_overhang (nI (A + k)) l I L) - (sp_m_overhang (nI A) l I L))))), none, some (.int (nI (A + k)))]) (st' := []) (h' := (n, sl, wKK kk, I, L, wQQ q)) 4 rfl ?_
  refine ev_iincN (k := (A + k)) (ls' := [some (.ref 80), some (.int (nI A)), some (.long l), none, some (.long (u + ((I 95 (A + k)).toInt64))), none, some (.long (v + (((I 95 (A + k)).toInt64) * ((sp_m_overhang (nI (A + k)) l I L) - (sp_m_overhang (nI A) l I L))))), none, some (.int (nI (A + k + 1)))]) rfl rfl rfl ?_
  refine ev_b (pc' := 9) (ls' := [some (.ref 80), some (.int (nI A)), some (.long l), none, some (.long (u + ((I 95 (A + k)).toInt64))), none, some (.long (v + (((I 95 (A + k)).toInt64) * ((sp_m_overhang (nI (A + k)) l I L) - (sp_m_overhang (nI A) l I L))))), none, some (.int (nI (A + k + 1)))]) (st' := []) (h' := (n, sl, wKK kk, I, L, wQQ q)) 1 rfl ?_
  exact h8
theorem lp_m_isBurst {d n sl : Nat} {kk : Nat → Nat × Nat} {q : Nat → Nat → Option Nat} {r : Option Value × am_H} (A : Nat) (l : Int64) (u : Int64) (v : Int64) (I : Nat → Nat → Int32) (L : Nat → Nat → Int64) (hA : A < 8) (h9 : am_Ev (d + 2) 235 63 [some (.ref 80), some (.int (nI A)), some (.long l), none, some (.long ((it_m_isBurst A l u v I L (8 - A)).1)), none, some (.long ((it_m_isBurst A l u v I L (8 - A)).2)), none, some (.int (nI (A + (8 - A))))] [] (n, sl, wKK kk, I, L, wQQ q) r) : am_Ev (d + 2) 235 9 [some (.ref 80), some (.int (nI A)), some (.long l), none, some (.long u), none, some (.long v), none, some (.int (nI A))] [] (n, sl, wKK kk, I, L, wQQ q) r := by
  have loop : ∀ zz k : Nat, k + zz = 8 - A → am_Ev (d + 2) 235 9 [some (.ref 80), some (.int (nI A)), some (.long l), none, some (.long ((it_m_isBurst A l u v I L k).1)), none, some (.long ((it_m_isBurst A l u v I L k).2)), none, some (.int (nI (A + k)))] [] (n, sl, wKK kk, I, L, wQQ q) r := by
    intro zz
    induction zz with
    | zero =>
      intro k hk
      have hk9 : k = 8 - A := by omega
      rw [hk9]
      refine ev_b (pc' := (if 8 ≤ (nI (A + (8 - A))) then 63 else 16)) (ls' := [some (.ref 80), some (.int (nI A)), some (.long l), none, some (.long ((it_m_isBurst A l u v I L (8 - A)).1)), none, some (.long ((it_m_isBurst A l u v I L (8 - A)).2)), none, some (.int (nI (A + (8 - A))))]) (st' := []) (h' := (n, sl, wKK kk, I, L, wQQ q)) 3 rfl ?_
      refine ev_t ((nI_leI (a := 8) (b := A + (8 - A)) (by omega) (by omega)).mpr (by omega)) ?_
      exact h9
    | succ zz ih =>
      intro k hk
      exact sg_m_isBurst A l _ _ _ _ hA (by omega) (ih (k + 1) (by omega))
  exact loop (8 - A) 0 (by omega)
def sp_m_isBurst (A : Nat) (l : Int64) (I : Nat → Nat → Int32) (L : Nat → Nat → Int64) : Int32 := (if 0 ≤ (lg_cmp ((it_m_isBurst A l 0 0 I L (8 - A)).2) 0) then (if (lg_cmp ((((it_m_isBurst A l 0 0 I L (8 - A)).1) * 1000) + (((it_m_isBurst A l 0 0 I L (8 - A)).2) / ((I 98 A).toInt64))) ((I 99 A).toInt64)) ≤ 0 then 0 else 1) else (if (lg_cmp ((((it_m_isBurst A l 0 0 I L (8 - A)).1) * 1000) + ((-((it_m_isBurst A l 0 0 I L (8 - A)).2)) / ((I 98 A).toInt64))) ((I 99 A).toInt64)) ≤ 0 then 0 else 1))
theorem ev_m_isBurst {d : Nat} {n sl : Nat} {k : Nat → Nat × Nat} {I : Nat → Nat → Int32} {L : Nat → Nat → Int64} {q : Nat → Nat → Option Nat} {A : Nat} {l : Int64} (hA : A < 8) (hw : ∀ j, ¬ (I 98 j).toInt64 = 0) : am_Ev (d + 2) 235 0 (am_ent 9 [.ref 80, .int (nI A), .long l]) [] (n, sl, wKK k, I, L, wQQ q) (some (.int (sp_m_isBurst A l I L)), (n, sl, wKK k, I, L, wQQ q)) := by
  show am_Ev _ _ 0 [some (.ref 80), some (.int (nI A)), some (.long l), none, none, none, none, none, none] _ _ (some (.int (if 0 ≤ (lg_cmp ((it_m_isBurst A l 0 0 I L (8 - A)).2) 0) then (if (lg_cmp ((((it_m_isBurst A l 0 0 I L (8 - A)).1) * 1000) + (((it_m_isBurst A l 0 0 I L (8 - A)).2) / ((I 98 A).toInt64))) ((I 99 A).toInt64)) ≤ 0 then 0 else 1) else (if (lg_cmp ((((it_m_isBurst A l 0 0 I L (8 - A)).1) * 1000) + ((-((it_m_isBurst A l 0 0 I L (8 - A)).2)) / ((I 98 A).toInt64))) ((I 99 A).toInt64)) ≤ 0 then 0 else 1))), (n, sl, wKK k, I, L, wQQ q))
  refine ev_b (pc' := 9) (ls' := [some (.ref 80), some (.int (nI A)), some (.long l), none, some (.long 0), none, some (.long 0), none, some (.int (nI A))]) (st' := []) (h' := (n, sl, wKK k, I, L, wQQ q)) 6 rfl ?_
  refine lp_m_isBurst A l 0 0 I L hA (?_)
  refine ev_b (pc' := (if 0 ≤ (lg_cmp ((it_m_isBurst A l 0 0 I L (8 - A)).2) 0) then 76 else 70)) (ls' := [some (.ref 80), some (.int (nI A)), some (.long l), none, some (.long ((it_m_isBurst A l 0 0 I L (8 - A)).1)), none, some (.long ((it_m_isBurst A l 0 0 I L (8 - A)).2)), none, (some (.int (nI (A + (8 - A)))))]) (st' := []) (h' := (n, sl, wKK k, I, L, wQQ q)) 4 rfl ?_
  refine ev_ifIs (fun c67 => ?_) (fun c67 => ?_)
  · refine ev_b (pc' := 93) (ls' := [some (.ref 80), some (.int (nI A)), some (.long l), none, some (.long ((it_m_isBurst A l 0 0 I L (8 - A)).1)), none, some (.long ((it_m_isBurst A l 0 0 I L (8 - A)).2)), none, (some (.int (nI (A + (8 - A)))))]) (st' := [.int (nI A), .ref 98, .long ((it_m_isBurst A l 0 0 I L (8 - A)).2), .long (((it_m_isBurst A l 0 0 I L (8 - A)).1) * 1000)]) (h' := (n, sl, wKK k, I, L, wQQ q)) 9 rfl ?_
    refine ev_ialN (k := A) rfl (rfl) (by omega) ?_
    refine ev_b (pc' := 95) (ls' := [some (.ref 80), some (.int (nI A)), some (.long l), none, some (.long ((it_m_isBurst A l 0 0 I L (8 - A)).1)), none, some (.long ((it_m_isBurst A l 0 0 I L (8 - A)).2)), none, (some (.int (nI (A + (8 - A)))))]) (st' := [.long ((I 98 A).toInt64), .long ((it_m_isBurst A l 0 0 I L (8 - A)).2), .long (((it_m_isBurst A l 0 0 I L (8 - A)).1) * 1000)]) (h' := (n, sl, wKK k, I, L, wQQ q)) 1 rfl ?_
    refine ev_ldiv rfl (hw _) ?_
    refine ev_b (pc' := 102) (ls' := [some (.ref 80), some (.int (nI A)), some (.long l), none, some (.long ((it_m_isBurst A l 0 0 I L (8 - A)).1)), none, some (.long ((it_m_isBurst A l 0 0 I L (8 - A)).2)), none, (some (.int (nI (A + (8 - A)))))]) (st' := [.int (nI A), .ref 99, .long ((((it_m_isBurst A l 0 0 I L (8 - A)).1) * 1000) + (((it_m_isBurst A l 0 0 I L (8 - A)).2) / ((I 98 A).toInt64)))]) (h' := (n, sl, wKK k, I, L, wQQ q)) 4 rfl ?_
    refine ev_ialN (k := A) rfl (rfl) (by omega) ?_
    refine ev_b (pc' := (if (lg_cmp ((((it_m_isBurst A l 0 0 I L (8 - A)).1) * 1000) + (((it_m_isBurst A l 0 0 I L (8 - A)).2) / ((I 98 A).toInt64))) ((I 99 A).toInt64)) ≤ 0 then 112 else 108)) (ls' := [some (.ref 80), some (.int (nI A)), some (.long l), none, some (.long ((it_m_isBurst A l 0 0 I L (8 - A)).1)), none, some (.long ((it_m_isBurst A l 0 0 I L (8 - A)).2)), none, (some (.int (nI (A + (8 - A)))))]) (st' := []) (h' := (n, sl, wKK k, I, L, wQQ q)) 3 rfl ?_
    refine ev_ifIs (fun c105 => ?_) (fun c105 => ?_)
    · refine ev_b (pc' := 113) (ls' := [some (.ref 80), some (.int (nI A)), some (.long l), none, some (.long ((it_m_isBurst A l 0 0 I L (8 - A)).1)), none, some (.long ((it_m_isBurst A l 0 0 I L (8 - A)).2)), none, (some (.int (nI (A + (8 - A)))))]) (st' := [.int 0]) (h' := (n, sl, wKK k, I, L, wQQ q)) 1 rfl ?_
      exact ev_rz rfl (Or.inl rfl) rfl rfl
    · refine ev_b (pc' := 113) (ls' := [some (.ref 80), some (.int (nI A)), some (.long l), none, some (.long ((it_m_isBurst A l 0 0 I L (8 - A)).1)), none, some (.long ((it_m_isBurst A l 0 0 I L (8 - A)).2)), none, (some (.int (nI (A + (8 - A)))))]) (st' := [.int 1]) (h' := (n, sl, wKK k, I, L, wQQ q)) 2 rfl ?_
      exact ev_rz rfl (Or.inr rfl) rfl rfl
  · refine ev_b (pc' := 93) (ls' := [some (.ref 80), some (.int (nI A)), some (.long l), none, some (.long ((it_m_isBurst A l 0 0 I L (8 - A)).1)), none, some (.long (-((it_m_isBurst A l 0 0 I L (8 - A)).2))), none, (some (.int (nI (A + (8 - A)))))]) (st' := [.int (nI A), .ref 98, .long (-((it_m_isBurst A l 0 0 I L (8 - A)).2)), .long (((it_m_isBurst A l 0 0 I L (8 - A)).1) * 1000)]) (h' := (n, sl, wKK k, I, L, wQQ q)) 11 rfl ?_
    refine ev_ialN (k := A) rfl (rfl) (by omega) ?_
    refine ev_b (pc' := 95) (ls' := [some (.ref 80), some (.int (nI A)), some (.long l), none, some (.long ((it_m_isBurst A l 0 0 I L (8 - A)).1)), none, some (.long (-((it_m_isBurst A l 0 0 I L (8 - A)).2))), none, (some (.int (nI (A + (8 - A)))))]) (st' := [.long ((I 98 A).toInt64), .long (-((it_m_isBurst A l 0 0 I L (8 - A)).2)), .long (((it_m_isBurst A l 0 0 I L (8 - A)).1) * 1000)]) (h' := (n, sl, wKK k, I, L, wQQ q)) 1 rfl ?_
    refine ev_ldiv rfl (hw _) ?_
    refine ev_b (pc' := 102) (ls' := [some (.ref 80), some (.int (nI A)), some (.long l), none, some (.long ((it_m_isBurst A l 0 0 I L (8 - A)).1)), none, some (.long (-((it_m_isBurst A l 0 0 I L (8 - A)).2))), none, (some (.int (nI (A + (8 - A)))))]) (st' := [.int (nI A), .ref 99, .long ((((it_m_isBurst A l 0 0 I L (8 - A)).1) * 1000) + ((-((it_m_isBurst A l 0 0 I L (8 - A)).2)) / ((I 98 A).toInt64)))]) (h' := (n, sl, wKK k, I, L, wQQ q)) 4 rfl ?_
    refine ev_ialN (k := A) rfl (rfl) (by omega) ?_
    refine ev_b (pc' := (if (lg_cmp ((((it_m_isBurst A l 0 0 I L (8 - A)).1) * 1000) + ((-((it_m_isBurst A l 0 0 I L (8 - A)).2)) / ((I 98 A).toInt64))) ((I 99 A).toInt64)) ≤ 0 then 112 else 108)) (ls' := [some (.ref 80), some (.int (nI A)), some (.long l), none, some (.long ((it_m_isBurst A l 0 0 I L (8 - A)).1)), none, some (.long (-((it_m_isBurst A l 0 0 I L (8 - A)).2))), none, (some (.int (nI (A + (8 - A)))))]) (st' := []) (h' := (n, sl, wKK k, I, L, wQQ q)) 3 rfl ?_
    refine ev_ifIs (fun c105 => ?_) (fun c105 => ?_)
    · refine ev_b (pc' := 113) (ls' := [some (.ref 80), some (.int (nI A)), some (.long l), none, some (.long ((it_m_isBurst A l 0 0 I L (8 - A)).1)), none, some (.long (-((it_m_isBurst A l 0 0 I L (8 - A)).2))), none, (some (.int (nI (A + (8 - A)))))]) (st' := [.int 0]) (h' := (n, sl, wKK k, I, L, wQQ q)) 1 rfl ?_
      exact ev_rz rfl (Or.inl rfl) rfl rfl
    · refine ev_b (pc' := 113) (ls' := [some (.ref 80), some (.int (nI A)), some (.long l), none, some (.long ((it_m_isBurst A l 0 0 I L (8 - A)).1)), none, some (.long (-((it_m_isBurst A l 0 0 I L (8 - A)).2))), none, (some (.int (nI (A + (8 - A)))))]) (st' := [.int 1]) (h' := (n, sl, wKK k, I, L, wQQ q)) 2 rfl ?_
      exact ev_rz rfl (Or.inr rfl) rfl rfl
def sp_m_cause (x : Int32) (y : Int32) (I : Nat → Nat → Int32) (L : Nat → Nat → Int64) : Int32 := (if (sp_m_is x (-1000000) 1000000) = 0 then (-1) else (if (sp_m_is y x 1000000) = 0 then (-1) else (if (I 80 71) = 10 then (-1) else ((I 80 71) + 1) - 1)))
def sI_m_cause (x : Int32) (y : Int32) (I : Nat → Nat → Int32) (L : Nat → Nat → Int64) : Nat → Nat → Int32 := (if (sp_m_is x (-1000000) 1000000) = 0 then I else (if (sp_m_is y x 1000000) = 0 then I else (if (I 80 71) = 10 then I else (va_up (va_up (va_up I 125 (upd (I 125) ((I 80 71).toNatClampNeg) x)) 126 (upd ((va_up I 125 (upd (I 125) ((I 80 71).toNatClampNeg) x)) 126) ((I 80 71).toNatClampNeg) y)) 80 (upd ((va_up (va_up I 125 (upd (I 125) ((I 80 71).toNatClampNeg) x)) 126 (upd ((va_up I 125 (upd (I 125) ((I 80 71).toNatClampNeg) x)) 126) ((I 80 71).toNatClampNeg) y)) 80) 71 ((I 80 71) + 1))))))
def sL_m_cause (x : Int32) (y : Int32) (I : Nat → Nat → Int32) (L : Nat → Nat → Int64) : Nat → Nat → Int64 := (if (sp_m_is x (-1000000) 1000000) = 0 then L else (if (sp_m_is y x 1000000) = 0 then L else (if (I 80 71) = 10 then L else L)))
theorem ev_m_cause {d : Nat} {n sl : Nat} {k : Nat → Nat × Nat} {I : Nat → Nat → Int32} {L : Nat → Nat → Int64} {q : Nat → Nat → Option Nat} {x : Int32} {y : Int32} (hx : ¬ (I 80 71 < 0 ∨ 10 ≤ (I 80 71).toNatClampNeg)) : am_Ev (d + 1) 238 0 (am_ent 3 [.ref 80, .int x, .int y]) [] (n, sl, wKK k, I, L, wQQ q) (some (.int (sp_m_cause x y I L)), (n, sl, wKK k, sI_m_cause x y I L, sL_m_cause x y I L, wQQ q)) := by
  show am_Ev _ _ 0 [some (.ref 80), some (.int x), some (.int y)] _ _ (some (.int (if (sp_m_is x (-1000000) 1000000) = 0 then (-1) else (if (sp_m_is y x 1000000) = 0 then (-1) else (if (I 80 71) = 10 then (-1) else ((I 80 71) + 1) - 1)))), (n, sl, wKK k, (if (sp_m_is x (-1000000) 1000000) = 0 then I else (if (sp_m_is y x 1000000) = 0 then I else (if (I 80 71) = 10 then I else (va_up (va_up (va_up I 125 (upd (I 125) ((I 80 71).toNatClampNeg) x)) 126 (upd ((va_up I 125 (upd (I 125) ((I 80 71).toNatClampNeg) x)) 126) ((I 80 71).toNatClampNeg) y)) 80 (upd ((va_up (va_up I 125 (upd (I 125) ((I 80 71).toNatClampNeg) x)) 126 (upd ((va_up I 125 (upd (I 125) ((I 80 71).toNatClampNeg) x)) 126) ((I 80 71).toNatClampNeg) y)) 80) 71 ((I 80 71) + 1)))))), (if (sp_m_is x (-1000000) 1000000) = 0 then L else (if (sp_m_is y x 1000000) = 0 then L else (if (I 80 71) = 10 then L else L))), wQQ q))
  refine ev_b (pc' := 6) (ls' := [some (.ref 80), some (.int x), some (.int y)]) (st' := [.int 1000000, .int (-1000000), .int x]) (h' := (n, sl, wKK k, I, L, wQQ q)) 3 rfl ?_
  refine ev_cs [.int x, .int (-1000000), .int 1000000] [] rfl rfl (by omega) rfl (Nat.le_of_ble_eq_true rfl) (Nat.le_of_ble_eq_true rfl) (ev_m_is) ?_
  refine ev_b (pc' := (if (sp_m_is x (-1000000) 1000000) = 0 then 31 else 12)) (ls' := [some (.ref 80), some (.int x), some (.int y)]) (st' := []) (h' := (n, sl, wKK k, I, L, wQQ q)) 1 rfl ?_
  refine ev_ifIw (fun c9 => ?_) (fun c9 => ?_)
  · refine ev_b (pc' := 32) (ls' := [some (.ref 80), some (.int x), some (.int y)]) (st' := [.int (-1)]) (h' := (n, sl, wKK k, I, L, wQQ q)) 1 rfl ?_
    exact ev_ri rfl rfl rfl
  · refine ev_b (pc' := 16) (ls' := [some (.ref 80), some (.int x), some (.int y)]) (st' := [.int 1000000, .int x, .int y]) (h' := (n, sl, wKK k, I, L, wQQ q)) 3 rfl ?_
    refine ev_cs [.int y, .int x, .int 1000000] [] rfl rfl (by omega) rfl (Nat.le_of_ble_eq_true rfl) (Nat.le_of_ble_eq_true rfl) (ev_m_is) ?_
    refine ev_b (pc' := (if (sp_m_is y x 1000000) = 0 then 31 else 22)) (ls' := [some (.ref 80), some (.int x), some (.int y)]) (st' := []) (h' := (n, sl, wKK k, I, L, wQQ q)) 1 rfl ?_
    refine ev_ifIw (fun c19 => ?_) (fun c19 => ?_)
    · refine ev_b (pc' := 32) (ls' := [some (.ref 80), some (.int x), some (.int y)]) (st' := [.int (-1)]) (h' := (n, sl, wKK k, I, L, wQQ q)) 1 rfl ?_
      exact ev_ri rfl rfl rfl
    · refine ev_b (pc' := (if (I 80 71) = 10 then 31 else 33)) (ls' := [some (.ref 80), some (.int x), some (.int y)]) (st' := []) (h' := (n, sl, wKK k, I, L, wQQ q)) 4 rfl ?_
      refine ev_ifIw (fun c28 => ?_) (fun c28 => ?_)
      · refine ev_b (pc' := 32) (ls' := [some (.ref 80), some (.int x), some (.int y)]) (st' := [.int (-1)]) (h' := (n, sl, wKK k, I, L, wQQ q)) 1 rfl ?_
        exact ev_ri rfl rfl rfl
      · refine ev_b (pc' := 42) (ls' := [some (.ref 80), some (.int x), some (.int y)]) (st' := [.int x, .int (I 80 71), .ref 125]) (h' := (n, sl, wKK k, I, L, wQQ q)) 5 rfl ?_
        refine ev_ias rfl (rfl) (hx) ?_
        refine ev_b (pc' := 52) (ls' := [some (.ref 80), some (.int x), some (.int y)]) (st' := [.int y, .int (I 80 71), .ref 126]) (h' := (n, sl, wKK k, va_up I 125 (upd (I 125) ((I 80 71).toNatClampNeg) x), L, wQQ q)) 5 rfl ?_
        refine ev_ias rfl (rfl) (hx) ?_
        refine ev_b (pc' := 69) (ls' := [some (.ref 80), some (.int x), some (.int y)]) (st' := [.int (((I 80 71) + 1) - 1)]) (h' := (n, sl, wKK k, va_up (va_up (va_up I 125 (upd (I 125) ((I 80 71).toNatClampNeg) x)) 126 (upd ((va_up I 125 (upd (I 125) ((I 80 71).toNatClampNeg) x)) 126) ((I 80 71).toNatClampNeg) y)) 80 (upd ((va_up (va_up I 125 (upd (I 125) ((I 80 71).toNatClampNeg) x)) 126 (upd ((va_up I 125 (upd (I 125) ((I 80 71).toNatClampNeg) x)) 126) ((I 80 71).toNatClampNeg) y)) 80) 71 ((I 80 71) + 1)), L, wQQ q)) 10 rfl ?_
        exact ev_ri rfl rfl rfl
theorem sLe_m_cause (x : Int32) (y : Int32) (I : Nat → Nat → Int32) (L : Nat → Nat → Int64) : sL_m_cause x y I L = L := by
  unfold sL_m_cause
  try (repeat' split) <;> rfl
def sp_m_annul (x : Int32) (I : Nat → Nat → Int32) (L : Nat → Nat → Int64) : Int32 := (if x < 1 then (-1) else (if (I 80 45) < x then (-1) else (if (I 107 x.toNatClampNeg) = 5 then (-1) else (if 0 < (I 112 x.toNatClampNeg) then (-1) else (if (I 80 45) = 200 then (-1) else sp_m_enter 5 0 x 0 0 I L)))))
def sI_m_annul (x : Int32) (I : Nat → Nat → Int32) (L : Nat → Nat → Int64) : Nat → Nat → Int32 := (if x < 1 then I else (if (I 80 45) < x then I else (if (I 107 x.toNatClampNeg) = 5 then I else (if 0 < (I 112 x.toNatClampNeg) then I else (if (I 80 45) = 200 then I else (va_up (sI_m_enter 5 0 x 0 0 I L) 112 (upd ((sI_m_enter 5 0 x 0 0 I L) 112) x.toNatClampNeg (sp_m_enter 5 0 x 0 0 I L))))))))
def sL_m_annul (x : Int32) (I : Nat → Nat → Int32) (L : Nat → Nat → Int64) : Nat → Nat → Int64 := (if x < 1 then L else (if (I 80 45) < x then L else (if (I 107 x.toNatClampNeg) = 5 then L else (if 0 < (I 112 x.toNatClampNeg) then L else (if (I 80 45) = 200 then L else (sL_m_enter 5 0 x 0 0 I L))))))
theorem ev_m_annul {d : Nat} {n sl : Nat} {k : Nat → Nat × Nat} {I : Nat → Nat → Int32} {L : Nat → Nat → Int64} {q : Nat → Nat → Option Nat} {x : Int32} (he : ¬ I 80 45 = 200 → ¬ (I 80 45 + 1 < 0 ∨ 201 ≤ (I 80 45 + 1).toNatClampNeg)) (hx : ¬ x < 1 → ¬ I 80 45 < x → ¬ (x < 0 ∨ 201 ≤ x.toNatClampNeg)) : am_Ev (d + 1) 196 0 (am_ent 3 [.ref 80, .int x]) [] (n, sl, wKK k, I, L, wQQ q) (some (.int (sp_m_annul x I L)), (n, sl, wKK k, sI_m_annul x I L, sL_m_annul x I L, wQQ q)) := by
  show am_Ev _ _ 0 [some (.ref 80), some (.int x), none] _ _ (some (.int (if x < 1 then (-1) else (if (I 80 45) < x then (-1) else (if (I 107 x.toNatClampNeg) = 5 then (-1) else (if 0 < (I 112 x.toNatClampNeg) then (-1) else (if (I 80 45) = 200 then (-1) else sp_m_enter 5 0 x 0 0 I L)))))), (n, sl, wKK k, (if x < 1 then I else (if (I 80 45) < x then I else (if (I 107 x.toNatClampNeg) = 5 then I else (if 0 < (I 112 x.toNatClampNeg) then I else (if (I 80 45) = 200 then I else (va_up (sI_m_enter 5 0 x 0 0 I L) 112 (upd ((sI_m_enter 5 0 x 0 0 I L) 112) x.toNatClampNeg (sp_m_enter 5 0 x 0 0 I L)))))))), (if x < 1 then L else (if (I 80 45) < x then L else (if (I 107 x.toNatClampNeg) = 5 then L else (if 0 < (I 112 x.toNatClampNeg) then L else (if (I 80 45) = 200 then L else (sL_m_enter 5 0 x 0 0 I L)))))), wQQ q))
  refine ev_b (pc' := (if x < 1 then 42 else 5)) (ls' := [some (.ref 80), some (.int x), none]) (st' := []) (h' := (n, sl, wKK k, I, L, wQQ q)) 3 rfl ?_
  refine ev_ifIw (fun c2 => ?_) (fun c2 => ?_)
  · refine ev_b (pc' := 43) (ls' := [some (.ref 80), some (.int x), none]) (st' := [.int (-1)]) (h' := (n, sl, wKK k, I, L, wQQ q)) 1 rfl ?_
    exact ev_ri rfl rfl rfl
  · refine ev_b (pc' := (if (I 80 45) < x then 42 else 13)) (ls' := [some (.ref 80), some (.int x), none]) (st' := []) (h' := (n, sl, wKK k, I, L, wQQ q)) 4 rfl ?_
    refine ev_ifIw (fun c10 => ?_) (fun c10 => ?_)
    · refine ev_b (pc' := 43) (ls' := [some (.ref 80), some (.int x), none]) (st' := [.int (-1)]) (h' := (n, sl, wKK k, I, L, wQQ q)) 1 rfl ?_
      exact ev_ri rfl rfl rfl
    · refine ev_b (pc' := 18) (ls' := [some (.ref 80), some (.int x), none]) (st' := [.int x, .ref 107]) (h' := (n, sl, wKK k, I, L, wQQ q)) 3 rfl ?_
      refine ev_ial rfl (rfl) (hx c2 c10) ?_
      refine ev_b (pc' := (if (I 107 x.toNatClampNeg) = 5 then 42 else 23)) (ls' := [some (.ref 80), some (.int x), none]) (st' := []) (h' := (n, sl, wKK k, I, L, wQQ q)) 2 rfl ?_
      refine ev_ifIw (fun c20 => ?_) (fun c20 => ?_)
      · refine ev_b (pc' := 43) (ls' := [some (.ref 80), some (.int x), none]) (st' := [.int (-1)]) (h' := (n, sl, wKK k, I, L, wQQ q)) 1 rfl ?_
        exact ev_ri rfl rfl rfl
      · refine ev_b (pc' := 28) (ls' := [some (.ref 80), some (.int x), none]) (st' := [.int x, .ref 112]) (h' := (n, sl, wKK k, I, L, wQQ q)) 3 rfl ?_
        refine ev_ial rfl (rfl) (hx c2 c10) ?_
        refine ev_b (pc' := (if 0 < (I 112 x.toNatClampNeg) then 42 else 32)) (ls' := [some (.ref 80), some (.int x), none]) (st' := []) (h' := (n, sl, wKK k, I, L, wQQ q)) 1 rfl ?_
        refine ev_ifIw (fun c29 => ?_) (fun c29 => ?_)
        · refine ev_b (pc' := 43) (ls' := [some (.ref 80), some (.int x), none]) (st' := [.int (-1)]) (h' := (n, sl, wKK k, I, L, wQQ q)) 1 rfl ?_
          exact ev_ri rfl rfl rfl
        · refine ev_b (pc' := (if (I 80 45) = 200 then 42 else 44)) (ls' := [some (.ref 80), some (.int x), none]) (st' := []) (h' := (n, sl, wKK k, I, L, wQQ q)) 4 rfl ?_
          refine ev_ifIw (fun c39 => ?_) (fun c39 => ?_)
          · refine ev_b (pc' := 43) (ls' := [some (.ref 80), some (.int x), none]) (st' := [.int (-1)]) (h' := (n, sl, wKK k, I, L, wQQ q)) 1 rfl ?_
            exact ev_ri rfl rfl rfl
          · refine ev_b (pc' := 50) (ls' := [some (.ref 80), some (.int x), none]) (st' := [.int 0, .int 0, .int x, .int 0, .int 5, .ref 80]) (h' := (n, sl, wKK k, I, L, wQQ q)) 6 rfl ?_
            refine ev_cv [.int 5, .int 0, .int x, .int 0, .int 0] [] rfl rfl (by omega) rfl (Nat.le_of_ble_eq_true rfl) (Nat.le_of_ble_eq_true rfl) (Or.inr (Or.inr rfl)) (ev_m_enter he) ?_
            refine ev_b (pc' := 60) (ls' := [some (.ref 80), some (.int x), some (.int (sp_m_enter 5 0 x 0 0 I L))]) (st' := [.int (sp_m_enter 5 0 x 0 0 I L), .int x, .ref 112]) (h' := (n, sl, wKK k, sI_m_enter 5 0 x 0 0 I L, sL_m_enter 5 0 x 0 0 I L, wQQ q)) 5 rfl ?_
            refine ev_ias rfl (rfl) (hx c2 c10) ?_
            refine ev_b (pc' := 62) (ls' := [some (.ref 80), some (.int x), some (.int (sp_m_enter 5 0 x 0 0 I L))]) (st' := [.int (sp_m_enter 5 0 x 0 0 I L)]) (h' := (n, sl, wKK k, va_up (sI_m_enter 5 0 x 0 0 I L) 112 (upd ((sI_m_enter 5 0 x 0 0 I L) 112) x.toNatClampNeg (sp_m_enter 5 0 x 0 0 I L)), sL_m_enter 5 0 x 0 0 I L, wQQ q)) 1 rfl ?_
            exact ev_ri rfl rfl rfl
def bd_m_all (x : Int32) (N : Nat) (u : Int32) (k : Nat) (I : Nat → Nat → Int32) (L : Nat → Nat → Int64) : Int32 := ((if (sp_m_isKnown (nI (k + 1)) I L) = 0 then (u + 0) else (if x = 2 then (if (I 107 (k + 1)) = 3 then (u + 1) else (u + 0)) else (if 2 < (I 107 (k + 1)) then (u + 0) else (u + 1)))))
def it_m_all (x : Int32) (N : Nat) (u : Int32) (I : Nat → Nat → Int32) (L : Nat → Nat → Int64) : Nat → Int32
  | 0 => (u)
  | k + 1 => bd_m_all x N (it_m_all x N u I L k) k I L
theorem sg_m_all {d n sl : Nat} {kk : Nat → Nat × Nat} {q : Nat → Nat → Option Nat} {r : Option Value × am_H} (x : Int32) (N : Nat) (u : Int32) {k : Nat} (I : Nat → Nat → Int32) (L : Nat → Nat → Int64) (hN : sp_m_now I L = nI N) (hN2 : N ≤ 200) (hk : k < N) (h9 : am_Ev (d + 2) 244 45 [some (.ref 80), some (.int x), some (.int (bd_m_all x N u k I L)), some (.int (nI ((k + 1) + 1)))] [] (n, sl, wKK kk, I, L, wQQ q) r) : am_Ev (d + 2) 244 45 [some (.ref 80), some (.int x), some (.int u), some (.int (nI (k + 1)))] [] (n, sl, wKK kk, I, L, wQQ q) r := by
  have h8 : am_Ev (d + 2) 244 45 [some (.ref 80), some (.int x), some (.int (if (sp_m_isKnown (nI (k + 1)) I L) = 0 then (u + 0) else (if x = 2 then (if (I 107 (k + 1)) = 3 then (u + 1) else (u + 0)) else (if 2 < (I 107 (k + 1)) then (u + 0) else (u + 1))))), some (.int (nI ((k + 1) + 1)))] [] (n, sl, wKK kk, I, L, wQQ q) r := h9
  refine ev_b (pc' := 47) (ls' := [some (.ref 80), some (.int x), some (.int u), some (.int (nI (k + 1)))]) (st' := [.ref 80, .int (nI (k + 1))]) (h' := (n, sl, wKK kk, I, L, wQQ q)) 2 rfl ?_
  refine ev_cv [] [.int (nI (k + 1))] rfl rfl (by omega) rfl (Nat.le_of_ble_eq_true rfl) (Nat.le_of_ble_eq_true rfl) (Or.inr (Or.inr rfl)) (ev_m_now) ?_
  refine ev_b (pc' := (if (sp_m_now I L) < (nI (k + 1)) then 103 else 53)) (ls' := [some (.ref 80), some (.int x), some (.int u), some (.int (nI (k + 1)))]) (st' := []) (h' := (n, sl, wKK kk, I, L, wQQ q)) 1 rfl ?_
  refine ev_f (by rw [hN]; exact nI_notlt (by omega) (by omega)) ?_
  refine ev_b (pc' := 56) (ls' := [some (.ref 80), some (.int x), some (.int u), some (.int (nI (k + 1)))]) (st' := [.int (nI (k + 1)), .ref 80, .int u]) (h' := (n, sl, wKK kk, I, L, wQQ q)) 3 rfl ?_
  refine ev_cv [.int (nI (k + 1))] [.int u] rfl rfl (by omega) rfl (Nat.le_of_ble_eq_true rfl) (Nat.le_of_ble_eq_true rfl) (Or.inr (Or.inr rfl)) (ev_m_isKnown (fun _ _ => ev_ix (by omega) (by omega))) ?_
  refine ev_b (pc' := (if (sp_m_isKnown (nI (k + 1)) I L) = 0 then 94 else 62)) (ls' := [some (.ref 80), some (.int x), some (.int u), some (.int (nI (k + 1)))]) (st' := [.int u]) (h' := (n, sl, wKK kk, I, L, wQQ q)) 1 rfl ?_
  refine ev_if (fun c59 => ?_) (fun c59 => ?_)
  · refine ev_b (pc' := 97) (ls' := [some (.ref 80), some (.int x), some (.int (u + 0)), some (.int (nI (k + 1)))]) (st' := []) (h' := (n, sl, wKK kk, I, L, wQQ q)) 3 rfl ?_
    refine ev_iincN (k := (k + 1)) (ls' := [some (.ref 80), some (.int x), some (.int (u + 0)), some (.int (nI (k + 1 + 1)))]) rfl rfl rfl ?_
    refine ev_b (pc' := 45) (ls' := [some (.ref 80), some (.int x), some (.int (u + 0)), some (.int (nI (k + 1 + 1)))]) (st' := []) (h' := (n, sl, wKK kk, I, L, wQQ q)) 1 rfl ?_
    simp only [if_pos c59] at h8; exact h8
  · refine ev_b (pc' := (if x = 2 then 67 else 80)) (ls' := [some (.ref 80), some (.int x), some (.int u), some (.int (nI (k + 1)))]) (st' := [.int u]) (h' := (n, sl, wKK kk, I, L, wQQ q)) 3 rfl ?_
    refine ev_if (fun c64 => ?_) (fun c64 => ?_)
    · refine ev_b (pc' := 72) (ls' := [some (.ref 80), some (.int x), some (.int u), some (.int (nI (k + 1)))]) (st' := [.int (nI (k + 1)), .ref 107, .int u]) (h' := (n, sl, wKK kk, I, L, wQQ q)) 3 rfl ?_
      refine ev_ialN (k := (k + 1)) rfl (rfl) (by omega) ?_
      refine ev_b (pc' := (if (I 107 (k + 1)) = 3 then 77 else 94)) (ls' := [some (.ref 80), some (.int x), some (.int u), some (.int (nI (k + 1)))]) (st' := [.int u]) (h' := (n, sl, wKK kk, I, L, wQQ q)) 2 rfl ?_
      refine ev_if (fun c74 => ?_) (fun c74 => ?_)
      · refine ev_b (pc' := 97) (ls' := [some (.ref 80), some (.int x), some (.int (u + 1)), some (.int (nI (k + 1)))]) (st' := []) (h' := (n, sl, wKK kk, I, L, wQQ q)) 5 rfl ?_
        refine ev_iincN (k := (k + 1)) (ls' := [some (.ref 80), some (.int x), some (.int (u + 1)), some (.int (nI (k + 1 + 1)))]) rfl rfl rfl ?_
        refine ev_b (pc' := 45) (ls' := [some (.ref 80), some (.int x), some (.int (u + 1)), some (.int (nI (k + 1 + 1)))]) (st' := []) (h' := (n, sl, wKK kk, I, L, wQQ q)) 1 rfl ?_
        simp only [if_neg c59, if_pos c64, if_pos c74] at h8; exact h8
      · refine ev_b (pc' := 97) (ls' := [some (.ref 80), some (.int x), some (.int (u + 0)), some (.int (nI (k + 1)))]) (st' := []) (h' := (n, sl, wKK kk, I, L, wQQ q)) 3 rfl ?_
        refine ev_iincN (k := (k + 1)) (ls' := [some (.ref 80), some (.int x), some (.int (u + 0)), some (.int (nI (k + 1 + 1)))]) rfl rfl rfl ?_
        refine ev_b (pc' := 45) (ls' := [some (.ref 80), some (.int x), some (.int (u + 0)), some (.int (nI (k + 1 + 1)))]) (st' := []) (h' := (n, sl, wKK kk, I, L, wQQ q)) 1 rfl ?_
        simp only [if_neg c59, if_pos c64, if_neg c74] at h8; exact h8
    · refine ev_b (pc' := 85) (ls' := [some (.ref 80), some (.int x), some (.int u), some (.int (nI (k + 1)))]) (st' := [.int (nI (k + 1)), .ref 107, .int u]) (h' := (n, sl, wKK kk, I, L, wQQ q)) 3 rfl ?_
      refine ev_ialN (k := (k + 1)) rfl (rfl) (by omega) ?_
      refine ev_b (pc' := (if 2 < (I 107 (k + 1)) then 94 else 90)) (ls' := [some (.ref 80), some (.int x), some (.int u), some (.int (nI (k + 1)))]) (st' := [.int u]) (h' := (n, sl, wKK kk, I, L, wQQ q)) 2 rfl ?_
      refine ev_if (fun c87 => ?_) (fun c87 => ?_)
      · refine ev_b (pc' := 97) (ls' := [some (.ref 80), some (.int x), some (.int (u + 0)), some (.int (nI (k + 1)))]) (st' := []) (h' := (n, sl, wKK kk, I, L, wQQ q)) 3 rfl ?_
        refine ev_iincN (k := (k + 1)) (ls' := [some (.ref 80), some (.int x), some (.int (u + 0)), some (.int (nI (k + 1 + 1)))]) rfl rfl rfl ?_
        refine ev_b (pc' := 45) (ls' := [some (.ref 80), some (.int x), some (.int (u + 0)), some (.int (nI (k + 1 + 1)))]) (st' := []) (h' := (n, sl, wKK kk, I, L, wQQ q)) 1 rfl ?_
        simp only [if_neg c59, if_neg c64, if_pos c87] at h8; exact h8
      · refine ev_b (pc' := 97) (ls' := [some (.ref 80), some (.int x), some (.int (u + 1)), some (.int (nI (k + 1)))]) (st' := []) (h' := (n, sl, wKK kk, I, L, wQQ q)) 4 rfl ?_
        refine ev_iincN (k := (k + 1)) (ls' := [some (.ref 80), some (.int x), some (.int (u + 1)), some (.int (nI (k + 1 + 1)))]) rfl rfl rfl ?_
        refine ev_b (pc' := 45) (ls' := [some (.ref 80), some (.int x), some (.int (u + 1)), some (.int (nI (k + 1 + 1)))]) (st' := []) (h' := (n, sl, wKK kk, I, L, wQQ q)) 1 rfl ?_
        simp only [if_neg c59, if_neg c64, if_neg c87] at h8; exact h8
theorem lp_m_all {d n sl : Nat} {kk : Nat → Nat × Nat} {q : Nat → Nat → Option Nat} {r : Option Value × am_H} (x : Int32) (N : Nat) (u : Int32) (I : Nat → Nat → Int32) (L : Nat → Nat → Int64) (hN : sp_m_now I L = nI N) (hN2 : N ≤ 200) (h9 : am_Ev (d + 2) 244 103 [some (.ref 80), some (.int x), some (.int (it_m_all x N u I L N)), some (.int (nI (N + 1)))] [] (n, sl, wKK kk, I, L, wQQ q) r) : am_Ev (d + 2) 244 45 [some (.ref 80), some (.int x), some (.int u), some (.int 1)] [] (n, sl, wKK kk, I, L, wQQ q) r := by
  have loop : ∀ zz k : Nat, k + zz = N → am_Ev (d + 2) 244 45 [some (.ref 80), some (.int x), some (.int (it_m_all x N u I L k)), some (.int (nI (k + 1)))] [] (n, sl, wKK kk, I, L, wQQ q) r := by
    intro zz
    induction zz with
    | zero =>
      intro k hk
      have hk9 : k = N := by omega
      rw [hk9]
      refine ev_b (pc' := 47) (ls' := [some (.ref 80), some (.int x), some (.int (it_m_all x N u I L N)), some (.int (nI (N + 1)))]) (st' := [.ref 80, .int (nI (N + 1))]) (h' := (n, sl, wKK kk, I, L, wQQ q)) 2 rfl ?_
      refine ev_cv [] [.int (nI (N + 1))] rfl rfl (by omega) rfl (Nat.le_of_ble_eq_true rfl) (Nat.le_of_ble_eq_true rfl) (Or.inr (Or.inr rfl)) (ev_m_now) ?_
      refine ev_b (pc' := (if (sp_m_now I L) < (nI (N + 1)) then 103 else 53)) (ls' := [some (.ref 80), some (.int x), some (.int (it_m_all x N u I L N)), some (.int (nI (N + 1)))]) (st' := []) (h' := (n, sl, wKK kk, I, L, wQQ q)) 1 rfl ?_
      refine ev_t (by rw [hN]; exact nI_lt (by omega) (by omega)) ?_
      exact h9
    | succ zz ih =>
      intro k hk
      exact sg_m_all x N _ _ _ hN hN2 (by omega) (ih (k + 1) (by omega))
  exact loop N 0 (by omega)
def sp_m_all (x : Int32) (I : Nat → Nat → Int32) (L : Nat → Nat → Int64) : Int32 := (if x = 0 then I 80 45 else (if x = 1 then sp_m_now I L else (if x = 4 then I 80 71 else (if x = 2 then (it_m_all x ((sp_m_now I L).toNatClampNeg) 0 I L ((sp_m_now I L).toNatClampNeg)) else (if x = 3 then (it_m_all x ((sp_m_now I L).toNatClampNeg) 0 I L ((sp_m_now I L).toNatClampNeg)) else (-1))))))
theorem ev_m_all {d : Nat} {n sl : Nat} {k : Nat → Nat × Nat} {I : Nat → Nat → Int32} {L : Nat → Nat → Int64} {q : Nat → Nat → Option Nat} {x : Int32} (hN : sp_m_now I L = nI (sp_m_now I L).toNatClampNeg) (hN2 : (sp_m_now I L).toNatClampNeg ≤ 200) : am_Ev (d + 2) 244 0 (am_ent 4 [.ref 80, .int x]) [] (n, sl, wKK k, I, L, wQQ q) (some (.int (sp_m_all x I L)), (n, sl, wKK k, I, L, wQQ q)) := by
  show am_Ev _ _ 0 [some (.ref 80), some (.int x), none, none] _ _ (some (.int (if x = 0 then I 80 45 else (if x = 1 then sp_m_now I L else (if x = 4 then I 80 71 else (if x = 2 then (it_m_all x ((sp_m_now I L).toNatClampNeg) 0 I L ((sp_m_now I L).toNatClampNeg)) else (if x = 3 then (it_m_all x ((sp_m_now I L).toNatClampNeg) 0 I L ((sp_m_now I L).toNatClampNeg)) else (-1))))))), (n, sl, wKK k, I, L, wQQ q))
  refine ev_b (pc' := (if x = 0 then 4 else 9)) (ls' := [some (.ref 80), some (.int x), none, none]) (st' := []) (h' := (n, sl, wKK k, I, L, wQQ q)) 2 rfl ?_
  refine ev_ifIs (fun c1 => ?_) (fun c1 => ?_)
  · refine ev_b (pc' := 8) (ls' := [some (.ref 80), some (.int x), none, none]) (st' := [.int (I 80 45)]) (h' := (n, sl, wKK k, I, L, wQQ q)) 2 rfl ?_
    exact ev_ri rfl rfl rfl
  · refine ev_b (pc' := (if x = 1 then 14 else 19)) (ls' := [some (.ref 80), some (.int x), none, none]) (st' := []) (h' := (n, sl, wKK k, I, L, wQQ q)) 3 rfl ?_
    refine ev_ifIs (fun c11 => ?_) (fun c11 => ?_)
    · refine ev_b (pc' := 15) (ls' := [some (.ref 80), some (.int x), none, none]) (st' := [.ref 80]) (h' := (n, sl, wKK k, I, L, wQQ q)) 1 rfl ?_
      refine ev_cv [] [] rfl rfl (by omega) rfl (Nat.le_of_ble_eq_true rfl) (Nat.le_of_ble_eq_true rfl) (Or.inr (Or.inr rfl)) (ev_m_now) ?_
      exact ev_ri rfl rfl rfl
    · refine ev_b (pc' := (if x = 4 then 24 else 29)) (ls' := [some (.ref 80), some (.int x), none, none]) (st' := []) (h' := (n, sl, wKK k, I, L, wQQ q)) 3 rfl ?_
      refine ev_ifIs (fun c21 => ?_) (fun c21 => ?_)
      · refine ev_b (pc' := 28) (ls' := [some (.ref 80), some (.int x), none, none]) (st' := [.int (I 80 71)]) (h' := (n, sl, wKK k, I, L, wQQ q)) 2 rfl ?_
        exact ev_ri rfl rfl rfl
      · refine ev_b (pc' := (if x = 2 then 41 else 34)) (ls' := [some (.ref 80), some (.int x), none, none]) (st' := []) (h' := (n, sl, wKK k, I, L, wQQ q)) 3 rfl ?_
        refine ev_ifIs (fun c31 => ?_) (fun c31 => ?_)
        · refine ev_b (pc' := 45) (ls' := [some (.ref 80), some (.int x), some (.int 0), some (.int 1)]) (st' := []) (h' := (n, sl, wKK k, I, L, wQQ q)) 4 rfl ?_
          refine lp_m_all x ((sp_m_now I L).toNatClampNeg) 0 I L hN hN2 (?_)
          refine ev_b (pc' := 104) (ls' := [some (.ref 80), some (.int x), some (.int (it_m_all x ((sp_m_now I L).toNatClampNeg) 0 I L ((sp_m_now I L).toNatClampNeg))), some (.int (nI (((sp_m_now I L).toNatClampNeg) + 1)))]) (st' := [.int (it_m_all x ((sp_m_now I L).toNatClampNeg) 0 I L ((sp_m_now I L).toNatClampNeg))]) (h' := (n, sl, wKK k, I, L, wQQ q)) 1 rfl ?_
          exact ev_ri rfl rfl rfl
        · refine ev_b (pc' := (if x = 3 then 41 else 39)) (ls' := [some (.ref 80), some (.int x), none, none]) (st' := []) (h' := (n, sl, wKK k, I, L, wQQ q)) 3 rfl ?_
          refine ev_ifIs (fun c36 => ?_) (fun c36 => ?_)
          · refine ev_b (pc' := 45) (ls' := [some (.ref 80), some (.int x), some (.int 0), some (.int 1)]) (st' := []) (h' := (n, sl, wKK k, I, L, wQQ q)) 4 rfl ?_
            refine lp_m_all x ((sp_m_now I L).toNatClampNeg) 0 I L hN hN2 (?_)
            refine ev_b (pc' := 104) (ls' := [some (.ref 80), some (.int x), some (.int (it_m_all x ((sp_m_now I L).toNatClampNeg) 0 I L ((sp_m_now I L).toNatClampNeg))), some (.int (nI (((sp_m_now I L).toNatClampNeg) + 1)))]) (st' := [.int (it_m_all x ((sp_m_now I L).toNatClampNeg) 0 I L ((sp_m_now I L).toNatClampNeg))]) (h' := (n, sl, wKK k, I, L, wQQ q)) 1 rfl ?_
            exact ev_ri rfl rfl rfl
          · refine ev_b (pc' := 40) (ls' := [some (.ref 80), some (.int x), none, none]) (st' := [.int (-1)]) (h' := (n, sl, wKK k, I, L, wQQ q)) 1 rfl ?_
            exact ev_ri rfl rfl rfl
