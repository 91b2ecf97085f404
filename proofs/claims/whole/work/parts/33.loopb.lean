/-! LOOPS OVER THE BOOK -/
def bd_j_ruling (x : Int32) (C : Nat) (ah : (Nat → Nat)) (u : Int32) (w : Int32) (k : Nat) (I : Nat → Nat → Int32) (L : Nat → Nat → Int64) : Int32 × Int32 := ((if (sp_a_isKnown (ah k) 4 I L) = 0 then u else (if x < (I (ah k) 1) then u else (if (I (ah k) 1) < w then u else (nI (k + 1))))), (if (sp_a_isKnown (ah k) 4 I L) = 0 then w else (if x < (I (ah k) 1) then w else (if (I (ah k) 1) < w then w else (I (ah k) 1)))))
def it_j_ruling (x : Int32) (C : Nat) (ah : (Nat → Nat)) (u : Int32) (w : Int32) (I : Nat → Nat → Int32) (L : Nat → Nat → Int64) : Nat → Int32 × Int32
  | 0 => (u, w)
  | k + 1 => bd_j_ruling x C ah (it_j_ruling x C ah u w I L k).1 (it_j_ruling x C ah u w I L k).2 k I L
theorem sg_j_ruling {d n sl : Nat} {kk : Nat → Nat × Nat} {q : Nat → Nat → Option Nat} {r : Option Value × am_H} (x : Int32) (C : Nat) (ah : (Nat → Nat)) (u : Int32) (w : Int32) {o5 : Option Value} {k : Nat} (I : Nat → Nat → Int32) (L : Nat → Nat → Int64) (hB : am_Bk kk q C ah) (hC : I 55 2 = nI C) (hC2 : C ≤ 200) (hk : k < C) (h9 : ∀ (o5 : Option Value), am_Ev (d + 1) 48 7 [some (.ref 60), some (.int x), some (.int ((bd_j_ruling x C ah u w k I L).1)), some (.int ((bd_j_ruling x C ah u w k I L).2)), some (.int (nI ((k + 1) + 1))), o5] [] (n, sl, wKK kk, I, L, wQQ q) r) : am_Ev (d + 1) 48 7 [some (.ref 60), some (.int x), some (.int u), some (.int w), some (.int (nI (k + 1))), o5] [] (n, sl, wKK kk, I, L, wQQ q) r := by
  have h8 : ∀ (o5 : Option Value), am_Ev (d + 1) 48 7 [some (.ref 60), some (.int x), some (.int (if (sp_a_isKnown (ah k) 4 I L) = 0 then u else (if x < (I (ah k) 1) then u else (if (I (ah k) 1) < w then u else (nI (k + 1)))))), some (.int (if (sp_a_isKnown (ah k) 4 I L) = 0 then w else (if x < (I (ah k) 1) then w else (if (I (ah k) 1) < w then w else (I (ah k) 1))))), some (.int (nI ((k + 1) + 1))), o5] [] (n, sl, wKK kk, I, L, wQQ q) r := h9
  refine ev_b (pc' := 13) (ls' := [some (.ref 60), some (.int x), some (.int u), some (.int w), some (.int (nI (k + 1))), o5]) (st' := [.ref 55, .int (nI (k + 1))]) (h' := (n, sl, wKK kk, I, L, wQQ q)) 3 rfl ?_
  refine ev_cv [] [.int (nI (k + 1))] rfl rfl (by omega) rfl (Nat.le_of_ble_eq_true rfl) (Nat.le_of_ble_eq_true rfl) (Or.inr (Or.inr rfl)) (ev_b_size) ?_
  refine ev_b (pc' := (if (sp_b_size I L) < (nI (k + 1)) then 77 else 19)) (ls' := [some (.ref 60), some (.int x), some (.int u), some (.int w), some (.int (nI (k + 1))), o5]) (st' := []) (h' := (n, sl, wKK kk, I, L, wQQ q)) 1 rfl ?_
  refine ev_f (by show ¬ I 55 2 < _; rw [hC]; exact nI_notlt (by omega) (by omega)) ?_
  refine ev_b (pc' := 25) (ls' := [some (.ref 60), some (.int x), some (.int u), some (.int w), some (.int (nI (k + 1))), o5]) (st' := [.int (nI (k + 1)), .ref 55]) (h' := (n, sl, wKK kk, I, L, wQQ q)) 3 rfl ?_
  refine ev_cv [.int (nI (k + 1))] [] rfl rfl (by omega) rfl (Nat.le_of_ble_eq_true rfl) (Nat.le_of_ble_eq_true rfl) (Or.inr (Or.inr rfl)) (ev_b_act hB hC hC2 hk) ?_
  refine ev_b (pc' := 38) (ls' := [some (.ref 60), some (.int x), some (.int u), some (.int w), some (.int (nI (k + 1))), some (.ref (ah k))]) (st' := [.int 4, .ref (ah k)]) (h' := (n, sl, wKK kk, I, L, wQQ q)) 5 rfl ?_
  refine ev_cv [.int 4] [] rfl rfl (by omega) rfl (Nat.le_of_ble_eq_true rfl) (Nat.le_of_ble_eq_true rfl) (Or.inr (Or.inr (am_acK (hB k hk).2))) (ev_a_isKnown (hB k hk).2) ?_
  refine ev_b (pc' := (if (sp_a_isKnown (ah k) 4 I L) = 0 then 71 else 44)) (ls' := [some (.ref 60), some (.int x), some (.int u), some (.int w), some (.int (nI (k + 1))), some (.ref (ah k))]) (st' := []) (h' := (n, sl, wKK kk, I, L, wQQ q)) 1 rfl ?_
  refine ev_if (fun c41 => ?_) (fun c41 => ?_)
  · refine ev_iincN (k := (k + 1)) (ls' := [some (.ref 60), some (.int x), some (.int u), some (.int w), some (.int (nI (k + 1 + 1))), some (.ref (ah k))]) rfl rfl rfl ?_
    refine ev_b (pc' := 7) (ls' := [some (.ref 60), some (.int x), some (.int u), some (.int w), some (.int (nI (k + 1 + 1))), some (.ref (ah k))]) (st' := []) (h' := (n, sl, wKK kk, I, L, wQQ q)) 1 rfl ?_
    simp only [if_pos c41] at h8; exact h8 (some (.ref (ah k)))
  · refine ev_b (pc' := 46) (ls' := [some (.ref 60), some (.int x), some (.int u), some (.int w), some (.int (nI (k + 1))), some (.ref (ah k))]) (st' := [.ref (ah k)]) (h' := (n, sl, wKK kk, I, L, wQQ q)) 1 rfl ?_
    refine ev_gfa rfl (Or.inl rfl) (am_acK (hB k hk).2) ?_
    refine ev_b (pc' := (if x < (I (ah k) 1) then 71 else 53)) (ls' := [some (.ref 60), some (.int x), some (.int u), some (.int w), some (.int (nI (k + 1))), some (.ref (ah k))]) (st' := []) (h' := (n, sl, wKK kk, I, L, wQQ q)) 2 rfl ?_
    refine ev_if (fun c50 => ?_) (fun c50 => ?_)
    · refine ev_iincN (k := (k + 1)) (ls' := [some (.ref 60), some (.int x), some (.int u), some (.int w), some (.int (nI (k + 1 + 1))), some (.ref (ah k))]) rfl rfl rfl ?_
      refine ev_b (pc' := 7) (ls' := [some (.ref 60), some (.int x), some (.int u), some (.int w), some (.int (nI (k + 1 + 1))), some (.ref (ah k))]) (st' := []) (h' := (n, sl, wKK kk, I, L, wQQ q)) 1 rfl ?_
      simp only [if_neg c41, if_pos c50] at h8; exact h8 (some (.ref (ah k)))
    · refine ev_b (pc' := 55) (ls' := [some (.ref 60), some (.int x), some (.int u), some (.int w), some (.int (nI (k + 1))), some (.ref (ah k))]) (st' := [.ref (ah k)]) (h' := (n, sl, wKK kk, I, L, wQQ q)) 1 rfl ?_
      refine ev_gfa rfl (Or.inl rfl) (am_acK (hB k hk).2) ?_
      refine ev_b (pc' := (if (I (ah k) 1) < w then 71 else 62)) (ls' := [some (.ref 60), some (.int x), some (.int u), some (.int w), some (.int (nI (k + 1))), some (.ref (ah k))]) (st' := []) (h' := (n, sl, wKK kk, I, L, wQQ q)) 2 rfl ?_
      refine ev_if (fun c59 => ?_) (fun c59 => ?_)
      · refine ev_iincN (k := (k + 1)) (ls' := [some (.ref 60), some (.int x), some (.int u), some (.int w), some (.int (nI (k + 1 + 1))), some (.ref (ah k))]) rfl rfl rfl ?_
        refine ev_b (pc' := 7) (ls' := [some (.ref 60), some (.int x), some (.int u), some (.int w), some (.int (nI (k + 1 + 1))), some (.ref (ah k))]) (st' := []) (h' := (n, sl, wKK kk, I, L, wQQ q)) 1 rfl ?_
        simp only [if_neg c41, if_neg c50, if_pos c59] at h8; exact h8 (some (.ref (ah k)))
      · refine ev_b (pc' := 67) (ls' := [some (.ref 60), some (.int x), some (.int (nI (k + 1))), some (.int w), some (.int (nI (k + 1))), some (.ref (ah k))]) (st' := [.ref (ah k)]) (h' := (n, sl, wKK kk, I, L, wQQ q)) 3 rfl ?_
        refine ev_gfa rfl (Or.inl rfl) (am_acK (hB k hk).2) ?_
        refine ev_b (pc' := 71) (ls' := [some (.ref 60), some (.int x), some (.int (nI (k + 1))), some (.int (I (ah k) 1)), some (.int (nI (k + 1))), some (.ref (ah k))]) (st' := []) (h' := (n, sl, wKK kk, I, L, wQQ q)) 1 rfl ?_
        refine ev_iincN (k := (k + 1)) (ls' := [some (.ref 60), some (.int x), some (.int (nI (k + 1))), some (.int (I (ah k) 1)), some (.int (nI (k + 1 + 1))), some (.ref (ah k))]) rfl rfl rfl ?_
        refine ev_b (pc' := 7) (ls' := [some (.ref 60), some (.int x), some (.int (nI (k + 1))), some (.int (I (ah k) 1)), some (.int (nI (k + 1 + 1))), some (.ref (ah k))]) (st' := []) (h' := (n, sl, wKK kk, I, L, wQQ q)) 1 rfl ?_
        simp only [if_neg c41, if_neg c50, if_neg c59] at h8; exact h8 (some (.ref (ah k)))
theorem lp_j_ruling {d n sl : Nat} {kk : Nat → Nat × Nat} {q : Nat → Nat → Option Nat} {r : Option Value × am_H} (x : Int32) (C : Nat) (ah : (Nat → Nat)) (u : Int32) (w : Int32) {o5 : Option Value} (I : Nat → Nat → Int32) (L : Nat → Nat → Int64) (hB : am_Bk kk q C ah) (hC : I 55 2 = nI C) (hC2 : C ≤ 200) (h9 : ∀ (o5 : Option Value), am_Ev (d + 1) 48 77 [some (.ref 60), some (.int x), some (.int ((it_j_ruling x C ah u w I L C).1)), some (.int ((it_j_ruling x C ah u w I L C).2)), some (.int (nI (C + 1))), o5] [] (n, sl, wKK kk, I, L, wQQ q) r) : am_Ev (d + 1) 48 7 [some (.ref 60), some (.int x), some (.int u), some (.int w), some (.int 1), o5] [] (n, sl, wKK kk, I, L, wQQ q) r := by
  have loop : ∀ zz k : Nat, k + zz = C → ∀ (o5 : Option Value), am_Ev (d + 1) 48 7 [some (.ref 60), some (.int x), some (.int ((it_j_ruling x C ah u w I L k).1)), some (.int ((it_j_ruling x C ah u w I L k).2)), some (.int (nI (k + 1))), o5] [] (n, sl, wKK kk, I, L, wQQ q) r := by
    intro zz
    induction zz with
    | zero =>
      intro k hk o5
      have hk9 : k = C := by omega
      rw [hk9]
      refine ev_b (pc' := 13) (ls' := [some (.ref 60), some (.int x), some (.int ((it_j_ruling x C ah u w I L C).1)), some (.int ((it_j_ruling x C ah u w I L C).2)), some (.int (nI (C + 1))), o5]) (st' := [.ref 55, .int (nI (C + 1))]) (h' := (n, sl, wKK kk, I, L, wQQ q)) 3 rfl ?_
      refine ev_cv [] [.int (nI (C + 1))] rfl rfl (by omega) rfl (Nat.le_of_ble_eq_true rfl) (Nat.le_of_ble_eq_true rfl) (Or.inr (Or.inr rfl)) (ev_b_size) ?_
      refine ev_b (pc' := (if (sp_b_size I L) < (nI (C + 1)) then 77 else 19)) (ls' := [some (.ref 60), some (.int x), some (.int ((it_j_ruling x C ah u w I L C).1)), some (.int ((it_j_ruling x C ah u w I L C).2)), some (.int (nI (C + 1))), o5]) (st' := []) (h' := (n, sl, wKK kk, I, L, wQQ q)) 1 rfl ?_
      refine ev_t (by show I 55 2 < _; rw [hC]; exact nI_lt (by omega) (by omega)) ?_
      exact h9 _
    | succ zz ih =>
      intro k hk o5
      exact sg_j_ruling x C ah _ _ _ _ hB hC hC2 (by omega) (ih (k + 1) (by omega))
  exact loop C 0 (by omega) _
def sp_j_ruling (x : Int32) (ah : (Nat → Nat)) (I : Nat → Nat → Int32) (L : Nat → Nat → Int64) : Int32 := (it_j_ruling x ((I 55 2).toNatClampNeg) ah (-1) 0 I L ((I 55 2).toNatClampNeg)).1
theorem ev_j_ruling {d : Nat} {n sl : Nat} {k : Nat → Nat × Nat} {I : Nat → Nat → Int32} {L : Nat → Nat → Int64} {q : Nat → Nat → Option Nat} {x : Int32} {ah : (Nat → Nat)} (hB : am_Bk k q (I 55 2).toNatClampNeg ah) (hC : I 55 2 = nI (I 55 2).toNatClampNeg) (hC2 : (I 55 2).toNatClampNeg ≤ 200) : am_Ev (d + 1) 48 0 (am_ent 6 [.ref 60, .int x]) [] (n, sl, wKK k, I, L, wQQ q) (some (.int (sp_j_ruling x ah I L)), (n, sl, wKK k, I, L, wQQ q)) := by
  show am_Ev _ _ 0 [some (.ref 60), some (.int x), none, none, none, none] _ _ (some (.int ((it_j_ruling x ((I 55 2).toNatClampNeg) ah (-1) 0 I L ((I 55 2).toNatClampNeg)).1)), (n, sl, wKK k, I, L, wQQ q))
  refine ev_b (pc' := 7) (ls' := [some (.ref 60), some (.int x), some (.int (-1)), some (.int 0), some (.int 1), none]) (st' := []) (h' := (n, sl, wKK k, I, L, wQQ q)) 6 rfl ?_
  refine lp_j_ruling x ((I 55 2).toNatClampNeg) ah (-1) 0 I L hB hC hC2 (fun o5 => ?_)
  refine ev_b (pc' := 78) (ls' := [some (.ref 60), some (.int x), some (.int ((it_j_ruling x ((I 55 2).toNatClampNeg) ah (-1) 0 I L ((I 55 2).toNatClampNeg)).1)), some (.int ((it_j_ruling x ((I 55 2).toNatClampNeg) ah (-1) 0 I L ((I 55 2).toNatClampNeg)).2)), some (.int (nI (((I 55 2).toNatClampNeg) + 1))), o5]) (st' := [.int ((it_j_ruling x ((I 55 2).toNatClampNeg) ah (-1) 0 I L ((I 55 2).toNatClampNeg)).1)]) (h' := (n, sl, wKK k, I, L, wQQ q)) 1 rfl ?_
  exact ev_ri rfl rfl rfl
def bd_b_countKnown (x : Int32) (y : Int32) (C : Nat) (ah : (Nat → Nat)) (u : Int32) (k : Nat) (I : Nat → Nat → Int32) (L : Nat → Nat → Int64) : Int32 := ((if (I (ah k) 8) = 0 then u else (if (I (ah k) 0) < x then u else (if y < (I (ah k) 0) then u else (u + Int32.ofInt 1)))))
def it_b_countKnown (x : Int32) (y : Int32) (C : Nat) (ah : (Nat → Nat)) (u : Int32) (I : Nat → Nat → Int32) (L : Nat → Nat → Int64) : Nat → Int32
  | 0 => (u)
  | k + 1 => bd_b_countKnown x y C ah (it_b_countKnown x y C ah u I L k) k I L
theorem sg_b_countKnown {d n sl : Nat} {kk : Nat → Nat × Nat} {q : Nat → Nat → Option Nat} {r : Option Value × am_H} (x : Int32) (y : Int32) (C : Nat) (ah : (Nat → Nat)) (u : Int32) {o5 : Option Value} {k : Nat} (I : Nat → Nat → Int32) (L : Nat → Nat → Int64) (hB : am_Bk kk q C ah) (hC : I 55 2 = nI C) (hC2 : C ≤ 200) (hk : k < C) (h9 : ∀ (o5 : Option Value), am_Ev (d + 1) 13 5 [some (.ref 55), some (.int x), some (.int y), some (.int (bd_b_countKnown x y C ah u k I L)), some (.int (nI ((k + 1) + 1))), o5] [] (n, sl, wKK kk, I, L, wQQ q) r) : am_Ev (d + 1) 13 5 [some (.ref 55), some (.int x), some (.int y), some (.int u), some (.int (nI (k + 1))), o5] [] (n, sl, wKK kk, I, L, wQQ q) r := by
  have h8 : ∀ (o5 : Option Value), am_Ev (d + 1) 13 5 [some (.ref 55), some (.int x), some (.int y), some (.int (if (I (ah k) 8) = 0 then u else (if (I (ah k) 0) < x then u else (if y < (I (ah k) 0) then u else (u + Int32.ofInt 1))))), some (.int (nI ((k + 1) + 1))), o5] [] (n, sl, wKK kk, I, L, wQQ q) r := h9
  refine ev_b (pc' := (if (I 55 2) < (nI (k + 1)) then 62 else 14)) (ls' := [some (.ref 55), some (.int x), some (.int y), some (.int u), some (.int (nI (k + 1))), o5]) (st' := []) (h' := (n, sl, wKK kk, I, L, wQQ q)) 4 rfl ?_
  refine ev_f (by rw [hC]; exact nI_notlt (by omega) (by omega)) ?_
  refine ev_b (pc' := 17) (ls' := [some (.ref 55), some (.int x), some (.int y), some (.int u), some (.int (nI (k + 1))), o5]) (st' := [.int (nI (k + 1)), .ref 55]) (h' := (n, sl, wKK kk, I, L, wQQ q)) 2 rfl ?_
  refine ev_cv [.int (nI (k + 1))] [] rfl rfl (by omega) rfl (Nat.le_of_ble_eq_true rfl) (Nat.le_of_ble_eq_true rfl) (Or.inr (Or.inr rfl)) (ev_b_act hB hC hC2 hk) ?_
  refine ev_b (pc' := 29) (ls' := [some (.ref 55), some (.int x), some (.int y), some (.int u), some (.int (nI (k + 1))), some (.ref (ah k))]) (st' := [.ref (ah k)]) (h' := (n, sl, wKK kk, I, L, wQQ q)) 4 rfl ?_
  refine ev_gfa rfl (Or.inr rfl) (am_acK (hB k hk).2) ?_
  refine ev_b (pc' := (if (I (ah k) 8) = 0 then 56 else 35)) (ls' := [some (.ref 55), some (.int x), some (.int y), some (.int u), some (.int (nI (k + 1))), some (.ref (ah k))]) (st' := []) (h' := (n, sl, wKK kk, I, L, wQQ q)) 1 rfl ?_
  refine ev_if (fun c32 => ?_) (fun c32 => ?_)
  · refine ev_iincN (k := (k + 1)) (ls' := [some (.ref 55), some (.int x), some (.int y), some (.int u), some (.int (nI (k + 1 + 1))), some (.ref (ah k))]) rfl rfl rfl ?_
    refine ev_b (pc' := 5) (ls' := [some (.ref 55), some (.int x), some (.int y), some (.int u), some (.int (nI (k + 1 + 1))), some (.ref (ah k))]) (st' := []) (h' := (n, sl, wKK kk, I, L, wQQ q)) 1 rfl ?_
    simp only [if_pos c32] at h8; exact h8 (some (.ref (ah k)))
  · refine ev_b (pc' := 37) (ls' := [some (.ref 55), some (.int x), some (.int y), some (.int u), some (.int (nI (k + 1))), some (.ref (ah k))]) (st' := [.ref (ah k)]) (h' := (n, sl, wKK kk, I, L, wQQ q)) 1 rfl ?_
    refine ev_gfa rfl (Or.inl rfl) (am_acK (hB k hk).2) ?_
    refine ev_b (pc' := (if (I (ah k) 0) < x then 56 else 44)) (ls' := [some (.ref 55), some (.int x), some (.int y), some (.int u), some (.int (nI (k + 1))), some (.ref (ah k))]) (st' := []) (h' := (n, sl, wKK kk, I, L, wQQ q)) 2 rfl ?_
    refine ev_if (fun c41 => ?_) (fun c41 => ?_)
    · refine ev_iincN (k := (k + 1)) (ls' := [some (.ref 55), some (.int x), some (.int y), some (.int u), some (.int (nI (k + 1 + 1))), some (.ref (ah k))]) rfl rfl rfl ?_
      refine ev_b (pc' := 5) (ls' := [some (.ref 55), some (.int x), some (.int y), some (.int u), some (.int (nI (k + 1 + 1))), some (.ref (ah k))]) (st' := []) (h' := (n, sl, wKK kk, I, L, wQQ q)) 1 rfl ?_
      simp only [if_neg c32, if_pos c41] at h8; exact h8 (some (.ref (ah k)))
    · refine ev_b (pc' := 46) (ls' := [some (.ref 55), some (.int x), some (.int y), some (.int u), some (.int (nI (k + 1))), some (.ref (ah k))]) (st' := [.ref (ah k)]) (h' := (n, sl, wKK kk, I, L, wQQ q)) 1 rfl ?_
      refine ev_gfa rfl (Or.inl rfl) (am_acK (hB k hk).2) ?_
      refine ev_b (pc' := (if y < (I (ah k) 0) then 56 else 53)) (ls' := [some (.ref 55), some (.int x), some (.int y), some (.int u), some (.int (nI (k + 1))), some (.ref (ah k))]) (st' := []) (h' := (n, sl, wKK kk, I, L, wQQ q)) 2 rfl ?_
      refine ev_if (fun c50 => ?_) (fun c50 => ?_)
      · refine ev_iincN (k := (k + 1)) (ls' := [some (.ref 55), some (.int x), some (.int y), some (.int u), some (.int (nI (k + 1 + 1))), some (.ref (ah k))]) rfl rfl rfl ?_
        refine ev_b (pc' := 5) (ls' := [some (.ref 55), some (.int x), some (.int y), some (.int u), some (.int (nI (k + 1 + 1))), some (.ref (ah k))]) (st' := []) (h' := (n, sl, wKK kk, I, L, wQQ q)) 1 rfl ?_
        simp only [if_neg c32, if_neg c41, if_pos c50] at h8; exact h8 (some (.ref (ah k)))
      · refine ev_b (pc' := 56) (ls' := [some (.ref 55), some (.int x), some (.int y), some (.int (u + Int32.ofInt 1)), some (.int (nI (k + 1))), some (.ref (ah k))]) (st' := []) (h' := (n, sl, wKK kk, I, L, wQQ q)) 1 rfl ?_
        refine ev_iincN (k := (k + 1)) (ls' := [some (.ref 55), some (.int x), some (.int y), some (.int (u + Int32.ofInt 1)), some (.int (nI (k + 1 + 1))), some (.ref (ah k))]) rfl rfl rfl ?_
        refine ev_b (pc' := 5) (ls' := [some (.ref 55), some (.int x), some (.int y), some (.int (u + Int32.ofInt 1)), some (.int (nI (k + 1 + 1))), some (.ref (ah k))]) (st' := []) (h' := (n, sl, wKK kk, I, L, wQQ q)) 1 rfl ?_
        simp only [if_neg c32, if_neg c41, if_neg c50] at h8; exact h8 (some (.ref (ah k)))
theorem lp_b_countKnown {d n sl : Nat} {kk : Nat → Nat × Nat} {q : Nat → Nat → Option Nat} {r : Option Value × am_H} (x : Int32) (y : Int32) (C : Nat) (ah : (Nat → Nat)) (u : Int32) {o5 : Option Value} (I : Nat → Nat → Int32) (L : Nat → Nat → Int64) (hB : am_Bk kk q C ah) (hC : I 55 2 = nI C) (hC2 : C ≤ 200) (h9 : ∀ (o5 : Option Value), am_Ev (d + 1) 13 62 [some (.ref 55), some (.int x), some (.int y), some (.int (it_b_countKnown x y C ah u I L C)), some (.int (nI (C + 1))), o5] [] (n, sl, wKK kk, I, L, wQQ q) r) : am_Ev (d + 1) 13 5 [some (.ref 55), some (.int x), some (.int y), some (.int u), some (.int 1), o5] [] (n, sl, wKK kk, I, L, wQQ q) r := by
  have loop : ∀ zz k : Nat, k + zz = C → ∀ (o5 : Option Value), am_Ev (d + 1) 13 5 [some (.ref 55), some (.int x), some (.int y), some (.int (it_b_countKnown x y C ah u I L k)), some (.int (nI (k + 1))), o5] [] (n, sl, wKK kk, I, L, wQQ q) r := by
    intro zz
    induction zz with
    | zero =>
      intro k hk o5
      have hk9 : k = C := by omega
      rw [hk9]
      refine ev_b (pc' := (if (I 55 2) < (nI (C + 1)) then 62 else 14)) (ls' := [some (.ref 55), some (.int x), some (.int y), some (.int (it_b_countKnown x y C ah u I L C)), some (.int (nI (C + 1))), o5]) (st' := []) (h' := (n, sl, wKK kk, I, L, wQQ q)) 4 rfl ?_
      refine ev_t (by rw [hC]; exact nI_lt (by omega) (by omega)) ?_
      exact h9 _
    | succ zz ih =>
      intro k hk o5
      exact sg_b_countKnown x y C ah _ _ _ hB hC hC2 (by omega) (ih (k + 1) (by omega))
  exact loop C 0 (by omega) _
def sp_b_countKnown (x : Int32) (y : Int32) (ah : (Nat → Nat)) (I : Nat → Nat → Int32) (L : Nat → Nat → Int64) : Int32 := (it_b_countKnown x y ((I 55 2).toNatClampNeg) ah 0 I L ((I 55 2).toNatClampNeg))
theorem ev_b_countKnown {d : Nat} {n sl : Nat} {k : Nat → Nat × Nat} {I : Nat → Nat → Int32} {L : Nat → Nat → Int64} {q : Nat → Nat → Option Nat} {x : Int32} {y : Int32} {ah : (Nat → Nat)} (hB : am_Bk k q (I 55 2).toNatClampNeg ah) (hC : I 55 2 = nI (I 55 2).toNatClampNeg) (hC2 : (I 55 2).toNatClampNeg ≤ 200) : am_Ev (d + 1) 13 0 (am_ent 6 [.ref 55, .int x, .int y]) [] (n, sl, wKK k, I, L, wQQ q) (some (.int (sp_b_countKnown x y ah I L)), (n, sl, wKK k, I, L, wQQ q)) := by
  show am_Ev _ _ 0 [some (.ref 55), some (.int x), some (.int y), none, none, none] _ _ (some (.int (it_b_countKnown x y ((I 55 2).toNatClampNeg) ah 0 I L ((I 55 2).toNatClampNeg))), (n, sl, wKK k, I, L, wQQ q))
  refine ev_b (pc' := 5) (ls' := [some (.ref 55), some (.int x), some (.int y), some (.int 0), some (.int 1), none]) (st' := []) (h' := (n, sl, wKK k, I, L, wQQ q)) 4 rfl ?_
  refine lp_b_countKnown x y ((I 55 2).toNatClampNeg) ah 0 I L hB hC hC2 (fun o5 => ?_)
  refine ev_b (pc' := 63) (ls' := [some (.ref 55), some (.int x), some (.int y), some (.int (it_b_countKnown x y ((I 55 2).toNatClampNeg) ah 0 I L ((I 55 2).toNatClampNeg))), some (.int (nI (((I 55 2).toNatClampNeg) + 1))), o5]) (st' := [.int (it_b_countKnown x y ((I 55 2).toNatClampNeg) ah 0 I L ((I 55 2).toNatClampNeg))]) (h' := (n, sl, wKK k, I, L, wQQ q)) 1 rfl ?_
  exact ev_ri rfl rfl rfl
