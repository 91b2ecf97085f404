/-! WHAT IS TOLD OF A DAY HOLDS UP TO THE NEXT DAY TOLD OF -/
/-- how many days from A on were not told of -/
def tlN (f : Nat → Int32) : Nat → Nat → Nat
  | _, 0 => 0
  | A, m + 1 => if f A = 0 then tlN f (A + 1) m + 1 else 0
theorem tlN_le (f : Nat → Int32) : ∀ m A, tlN f A m ≤ m := by
  intro m
  induction m with
  | zero => intro A; exact Nat.le_refl _
  | succ m ih =>
    intro A
    show (if f A = 0 then tlN f (A + 1) m + 1 else 0) ≤ _
    split
    · have := ih (A + 1); omega
    · omega
theorem tlN_z (f : Nat → Int32) : ∀ m A j, j < tlN f A m → f (A + j) = 0 := by
  intro m
  induction m with
  | zero => intro A j h; exact absurd h (Nat.not_lt_zero _)
  | succ m ih =>
    intro A j h
    have h2 : j < (if f A = 0 then tlN f (A + 1) m + 1 else 0) := h
    split at h2
    · rename_i c
      cases j with
      | zero => exact c
      | succ j => rw [show A + (j + 1) = A + 1 + j by omega]; exact ih (A + 1) j (by omega)
    · omega
theorem tlN_e (f : Nat → Int32) : ∀ m A, tlN f A m = m ∨ (tlN f A m < m ∧ ¬ f (A + tlN f A m) = 0) := by
  intro m
  induction m with
  | zero => intro A; exact Or.inl rfl
  | succ m ih =>
    intro A
    show (if f A = 0 then tlN f (A + 1) m + 1 else 0) = m + 1 ∨ ((if f A = 0 then tlN f (A + 1) m + 1 else 0) < m + 1 ∧ ¬ f (A + (if f A = 0 then tlN f (A + 1) m + 1 else 0)) = 0)
    by_cases c : f A = 0
    · rw [if_pos c]
      rcases ih (A + 1) with h | ⟨h, h2⟩
      · left; omega
      · right
        refine ⟨by omega, ?_⟩
        rw [show A + (tlN f (A + 1) m + 1) = A + 1 + tlN f (A + 1) m by omega]
        exact h2
    · rw [if_neg c]
      exact Or.inr ⟨by omega, c⟩
def bd_lwet_tell (x : Int32) (A : Nat) (N : Nat) (k : Nat) (I : Nat → Nat → Int32) (L : Nat → Nat → Int64) : (Nat → Nat → Int32) := ((va_up I 2 (upd (I 2) (A + k) x)))
def it_lwet_tell (x : Int32) (A : Nat) (N : Nat) (I : Nat → Nat → Int32) (L : Nat → Nat → Int64) : Nat → (Nat → Nat → Int32)
  | 0 => (I)
  | k + 1 => bd_lwet_tell x A N k (it_lwet_tell x A N I L k) L
theorem fI_lwet_tell (x : Int32) (A : Nat) (N : Nat) (I : Nat → Nat → Int32) (L : Nat → Nat → Int64) {j : Nat} (h0 : j ≠ 2) : ∀ k, (it_lwet_tell x A N I L k) j = I j := by
  intro k
  induction k with
  | zero => rfl
  | succ k ih =>
    rw [← ih]
    show (bd_lwet_tell x A N k (it_lwet_tell x A N I L k) L) j = _
    unfold bd_lwet_tell
    try dsimp only
    (repeat' split) <;> simp only [va_up, if_neg h0]
theorem sg_lwet_tell {d n sl : Nat} {kk : Nat → Nat × Nat} {q : Nat → Nat → Option Nat} {r : Option Value × am_H} (x : Int32) (A : Nat) (N : Nat) {k : Nat} (I : Nat → Nat → Int32) (L : Nat → Nat → Int64) {oD : Option Value} (h4 : A + N ≤ 400) (hz : ∀ j, j < N → I 3 (A + j) = 0) (hE : A + N = 400 ∨ (A + N < 400 ∧ ¬ I 3 (A + N) = 0)) (hk : k < N) (h9 : am_Ev (d) 106 26 [some (.ref 1), oD, some (.int x), some (.int (nI (A + (k + 1))))] [] (n, sl, wKK kk, (bd_lwet_tell x A N k I L), L, wQQ q) r) : am_Ev (d) 106 26 [some (.ref 1), oD, some (.int x), some (.int (nI (A + k)))] [] (n, sl, wKK kk, I, L, wQQ q) r := by
  have h8 : am_Ev (d) 106 26 [some (.ref 1), oD, some (.int x), some (.int (nI (A + (k + 1))))] [] (n, sl, wKK kk, (va_up I 2 (upd (I 2) (A + k) x)), L, wQQ q) r := h9
  refine ev_b (pc' := (if 400 ≤ (nI (A + k)) then 55 else 33)) (ls' := [some (.ref 1), oD, some (.int x), some (.int (nI (A + k)))]) (st' := []) (h' := (n, sl, wKK kk, I, L, wQQ q)) 3 rfl ?_
  refine ev_f (nI_ge (a := A + k) (b := 400) (by omega) (by omega)) ?_
  refine ev_b (pc' := 38) (ls' := [some (.ref 1), oD, some (.int x), some (.int (nI (A + k)))]) (st' := [.int (nI (A + k)), .ref 3]) (h' := (n, sl, wKK kk, I, L, wQQ q)) 3 rfl ?_
  refine ev_balN (k := (A + k)) rfl (rfl) (⟨Or.inr rfl, by omega, by omega⟩) ?_
  refine ev_b (pc' := (if (I 3 (A + k)) = 0 then 42 else 55)) (ls' := [some (.ref 1), oD, some (.int x), some (.int (nI (A + k)))]) (st' := []) (h' := (n, sl, wKK kk, I, L, wQQ q)) 1 rfl ?_
  refine ev_t (hz k hk) ?_
  refine ev_b (pc' := 48) (ls' := [some (.ref 1), oD, some (.int x), some (.int (nI (A + k)))]) (st' := [.int x, .int (nI (A + k)), .ref 2]) (h' := (n, sl, wKK kk, I, L, wQQ q)) 4 rfl ?_
  refine ev_iasN (k := (A + k)) rfl (rfl) (by omega) ?_
  refine ev_iincN (k := (A + k)) (ls' := [some (.ref 1), oD, some (.int x), some (.int (nI (A + k + 1)))]) rfl rfl rfl ?_
  refine ev_b (pc' := 26) (ls' := [some (.ref 1), oD, some (.int x), some (.int (nI (A + k + 1)))]) (st' := []) (h' := (n, sl, wKK kk, va_up I 2 (upd (I 2) (A + k) x), L, wQQ q)) 1 rfl ?_
  exact h8
theorem lp_lwet_tell {d n sl : Nat} {kk : Nat → Nat × Nat} {q : Nat → Nat → Option Nat} {r : Option Value × am_H} (x : Int32) (A : Nat) (N : Nat) (I : Nat → Nat → Int32) (L : Nat → Nat → Int64) {oD : Option Value} (h4 : A + N ≤ 400) (hz : ∀ j, j < N → I 3 (A + j) = 0) (hE : A + N = 400 ∨ (A + N < 400 ∧ ¬ I 3 (A + N) = 0)) (h9 : am_Ev (d) 106 55 [some (.ref 1), oD, some (.int x), some (.int (nI (A + N)))] [] (n, sl, wKK kk, (it_lwet_tell x A N I L N), L, wQQ q) r) : am_Ev (d) 106 26 [some (.ref 1), oD, some (.int x), some (.int (nI A))] [] (n, sl, wKK kk, I, L, wQQ q) r := by
  have loop : ∀ zz k : Nat, k + zz = N → am_Ev (d) 106 26 [some (.ref 1), oD, some (.int x), some (.int (nI (A + k)))] [] (n, sl, wKK kk, (it_lwet_tell x A N I L k), L, wQQ q) r := by
    intro zz
    induction zz with
    | zero =>
      intro k hk
      have hk9 : k = N := by omega
      rw [hk9]
      rcases hE with hE | hE
      · refine ev_b (pc' := (if 400 ≤ (nI (A + N)) then 55 else 33)) (ls' := [some (.ref 1), oD, some (.int x), some (.int (nI (A + N)))]) (st' := []) (h' := (n, sl, wKK kk, (it_lwet_tell x A N I L N), L, wQQ q)) 3 rfl ?_
        refine ev_t ((nI_leI (a := 400) (by omega) (by omega)).mpr (by omega)) ?_
        exact h9
      · refine ev_b (pc' := (if 400 ≤ (nI (A + N)) then 55 else 33)) (ls' := [some (.ref 1), oD, some (.int x), some (.int (nI (A + N)))]) (st' := []) (h' := (n, sl, wKK kk, (it_lwet_tell x A N I L N), L, wQQ q)) 3 rfl ?_
        refine ev_f (nI_ge (a := A + N) (b := 400) (by omega) (by omega)) ?_
        refine ev_b (pc' := 38) (ls' := [some (.ref 1), oD, some (.int x), some (.int (nI (A + N)))]) (st' := [.int (nI (A + N)), .ref 3]) (h' := (n, sl, wKK kk, (it_lwet_tell x A N I L N), L, wQQ q)) 3 rfl ?_
        refine ev_balN (k := (A + N)) rfl (rfl) (⟨Or.inr rfl, by omega, by omega⟩) ?_
        refine ev_b (pc' := (if ((it_lwet_tell x A N I L N) 3 (A + N)) = 0 then 42 else 55)) (ls' := [some (.ref 1), oD, some (.int x), some (.int (nI (A + N)))]) (st' := []) (h' := (n, sl, wKK kk, (it_lwet_tell x A N I L N), L, wQQ q)) 1 rfl ?_
        refine ev_f (by rw [fI_lwet_tell x A N I L (j := 3) (by decide) N]; exact hE.2) ?_
        exact h9
    | succ zz ih =>
      intro k hk
      exact sg_lwet_tell x A N _ _ h4 (fun j hj => by rw [fI_lwet_tell x A N I L (j := 3) (by decide) k]; exact hz j hj) (by rw [fI_lwet_tell x A N I L (j := 3) (by decide) k]; exact hE) (by omega) (ih (k + 1) (by omega))
  exact loop N 0 (by omega)
def sI_wet_tell (D : Nat) (x : Int32) (I : Nat → Nat → Int32) (L : Nat → Nat → Int64) : Nat → Nat → Int32 := (it_lwet_tell x (D + 1) (tlN ((va_up (va_up I 3 (upd (I 3) D (vp_nar .boolean 1))) 2 (upd ((va_up I 3 (upd (I 3) D (vp_nar .boolean 1))) 2) D x)) 3) (D + 1) (400 - (D + 1))) (va_up (va_up I 3 (upd (I 3) D (vp_nar .boolean 1))) 2 (upd ((va_up I 3 (upd (I 3) D (vp_nar .boolean 1))) 2) D x)) L (tlN ((va_up (va_up I 3 (upd (I 3) D (vp_nar .boolean 1))) 2 (upd ((va_up I 3 (upd (I 3) D (vp_nar .boolean 1))) 2) D x)) 3) (D + 1) (400 - (D + 1))))
def sL_wet_tell (D : Nat) (x : Int32) (I : Nat → Nat → Int32) (L : Nat → Nat → Int64) : Nat → Nat → Int64 := L
theorem ev_wet_tell {d : Nat} {n sl : Nat} {k : Nat → Nat × Nat} {I : Nat → Nat → Int32} {L : Nat → Nat → Int64} {q : Nat → Nat → Option Nat} {D : Nat} {x : Int32} (hD : D < 400) : am_Ev (d + 1) 106 0 (am_ent 4 [.ref 1, .int (nI D), .int x]) [] (n, sl, wKK k, I, L, wQQ q) (none, (n, sl, wKK k, sI_wet_tell D x I L, sL_wet_tell D x I L, wQQ q)) := by
  show am_Ev _ _ 0 [some (.ref 1), some (.int (nI D)), some (.int x), none] _ _ (none, (n, sl, wKK k, (it_lwet_tell x (D + 1) (tlN ((va_up (va_up I 3 (upd (I 3) D (vp_nar .boolean 1))) 2 (upd ((va_up I 3 (upd (I 3) D (vp_nar .boolean 1))) 2) D x)) 3) (D + 1) (400 - (D + 1))) (va_up (va_up I 3 (upd (I 3) D (vp_nar .boolean 1))) 2 (upd ((va_up I 3 (upd (I 3) D (vp_nar .boolean 1))) 2) D x)) L (tlN ((va_up (va_up I 3 (upd (I 3) D (vp_nar .boolean 1))) 2 (upd ((va_up I 3 (upd (I 3) D (vp_nar .boolean 1))) 2) D x)) 3) (D + 1) (400 - (D + 1)))), L, wQQ q))
  refine ev_b (pc' := 1) (ls' := [some (.ref 1), some (.int (nI D)), some (.int x), none]) (st' := [.int (nI D)]) (h' := (n, sl, wKK k, I, L, wQQ q)) 1 rfl ?_
  refine ev_cs [.int (nI D)] [] rfl rfl (by omega) rfl (Nat.le_of_ble_eq_true rfl) (Nat.le_of_ble_eq_true rfl) (ev_isDay) ?_
  refine ev_b (pc' := (if (sp_isDay (nI D)) = 0 then 7 else 8)) (ls' := [some (.ref 1), some (.int (nI D)), some (.int x), none]) (st' := []) (h' := (n, sl, wKK k, I, L, wQQ q)) 1 rfl ?_
  refine ev_f (sp_isDay_nI hD) ?_
  refine ev_b (pc' := 14) (ls' := [some (.ref 1), some (.int (nI D)), some (.int x), none]) (st' := [.int 1, .int (nI D), .ref 3]) (h' := (n, sl, wKK k, I, L, wQQ q)) 4 rfl ?_
  refine ev_basZN (k := D) rfl (rfl) (by omega) ?_
  refine ev_b (pc' := 21) (ls' := [some (.ref 1), some (.int (nI D)), some (.int x), none]) (st' := [.int x, .int (nI D), .ref 2]) (h' := (n, sl, wKK k, va_up I 3 (upd (I 3) D (vp_nar .boolean 1)), L, wQQ q)) 4 rfl ?_
  refine ev_iasN (k := D) rfl (rfl) (by omega) ?_
  refine ev_b (pc' := 24) (ls' := [some (.ref 1), some (.int (nI D)), some (.int x), none]) (st' := [.int 1, .int (nI D)]) (h' := (n, sl, wKK k, va_up (va_up I 3 (upd (I 3) D (vp_nar .boolean 1))) 2 (upd ((va_up I 3 (upd (I 3) D (vp_nar .boolean 1))) 2) D x), L, wQQ q)) 2 rfl ?_
  refine ev_b (pc' := 25) (ls' := [some (.ref 1), some (.int (nI D)), some (.int x), none]) (st' := [.int ((nI D) + 1)]) (h' := (n, sl, wKK k, va_up (va_up I 3 (upd (I 3) D (vp_nar .boolean 1))) 2 (upd ((va_up I 3 (upd (I 3) D (vp_nar .boolean 1))) 2) D x), L, wQQ q)) 1 rfl ?_
  refine ev_top (show (nI D) + 1 = nI (D + 1) from nI_add D 1) ?_
  refine ev_b (pc' := 26) (ls' := [some (.ref 1), some (.int (nI D)), some (.int x), some (.int (nI (D + 1)))]) (st' := []) (h' := (n, sl, wKK k, va_up (va_up I 3 (upd (I 3) D (vp_nar .boolean 1))) 2 (upd ((va_up I 3 (upd (I 3) D (vp_nar .boolean 1))) 2) D x), L, wQQ q)) 1 rfl ?_
  refine lp_lwet_tell x (D + 1) (tlN ((va_up (va_up I 3 (upd (I 3) D (vp_nar .boolean 1))) 2 (upd ((va_up I 3 (upd (I 3) D (vp_nar .boolean 1))) 2) D x)) 3) (D + 1) (400 - (D + 1))) (va_up (va_up I 3 (upd (I 3) D (vp_nar .boolean 1))) 2 (upd ((va_up I 3 (upd (I 3) D (vp_nar .boolean 1))) 2) D x)) L (by have := tlN_le ((va_up (va_up I 3 (upd (I 3) D (vp_nar .boolean 1))) 2 (upd ((va_up I 3 (upd (I 3) D (vp_nar .boolean 1))) 2) D x)) 3) (400 - (D + 1)) (D + 1); omega) (tlN_z _ _ _) ((tlN_e ((va_up (va_up I 3 (upd (I 3) D (vp_nar .boolean 1))) 2 (upd ((va_up I 3 (upd (I 3) D (vp_nar .boolean 1))) 2) D x)) 3) (400 - (D + 1)) (D + 1)).elim (fun e => Or.inl (by omega)) (fun e => Or.inr ⟨by omega, e.2⟩)) (?_)
  exact ev_rv rfl rfl
theorem sLe_wet_tell (D : Nat) (x : Int32) (I : Nat → Nat → Int32) (L : Nat → Nat → Int64) : sL_wet_tell D x I L = L := by
  unfold sL_wet_tell
  try (repeat' split) <;> rfl
def bd_lwarm_tell (x : Int32) (A : Nat) (N : Nat) (k : Nat) (I : Nat → Nat → Int32) (L : Nat → Nat → Int64) : (Nat → Nat → Int32) := ((va_up I 5 (upd (I 5) (A + k) x)))
def it_lwarm_tell (x : Int32) (A : Nat) (N : Nat) (I : Nat → Nat → Int32) (L : Nat → Nat → Int64) : Nat → (Nat → Nat → Int32)
  | 0 => (I)
  | k + 1 => bd_lwarm_tell x A N k (it_lwarm_tell x A N I L k) L
theorem fI_lwarm_tell (x : Int32) (A : Nat) (N : Nat) (I : Nat → Nat → Int32) (L : Nat → Nat → Int64) {j : Nat} (h0 : j ≠ 5) : ∀ k, (it_lwarm_tell x A N I L k) j = I j := by
  intro k
  induction k with
  | zero => rfl
  | succ k ih =>
    rw [← ih]
    show (bd_lwarm_tell x A N k (it_lwarm_tell x A N I L k) L) j = _
    unfold bd_lwarm_tell
    try dsimp only
    (repeat' split) <;> simp only [va_up, if_neg h0]
theorem sg_lwarm_tell {d n sl : Nat} {kk : Nat → Nat × Nat} {q : Nat → Nat → Option Nat} {r : Option Value × am_H} (x : Int32) (A : Nat) (N : Nat) {k : Nat} (I : Nat → Nat → Int32) (L : Nat → Nat → Int64) {oD : Option Value} (h4 : A + N ≤ 400) (hz : ∀ j, j < N → I 6 (A + j) = 0) (hE : A + N = 400 ∨ (A + N < 400 ∧ ¬ I 6 (A + N) = 0)) (hk : k < N) (h9 : am_Ev (d) 106 26 [some (.ref 4), oD, some (.int x), some (.int (nI (A + (k + 1))))] [] (n, sl, wKK kk, (bd_lwarm_tell x A N k I L), L, wQQ q) r) : am_Ev (d) 106 26 [some (.ref 4), oD, some (.int x), some (.int (nI (A + k)))] [] (n, sl, wKK kk, I, L, wQQ q) r := by
  have h8 : am_Ev (d) 106 26 [some (.ref 4), oD, some (.int x), some (.int (nI (A + (k + 1))))] [] (n, sl, wKK kk, (va_up I 5 (upd (I 5) (A + k) x)), L, wQQ q) r := h9
  refine ev_b (pc' := (if 400 ≤ (nI (A + k)) then 55 else 33)) (ls' := [some (.ref 4), oD, some (.int x), some (.int (nI (A + k)))]) (st' := []) (h' := (n, sl, wKK kk, I, L, wQQ q)) 3 rfl ?_
  refine ev_f (nI_ge (a := A + k) (b := 400) (by omega) (by omega)) ?_
  refine ev_b (pc' := 38) (ls' := [some (.ref 4), oD, some (.int x), some (.int (nI (A + k)))]) (st' := [.int (nI (A + k)), .ref 6]) (h' := (n, sl, wKK kk, I, L, wQQ q)) 3 rfl ?_
  refine ev_balN (k := (A + k)) rfl (rfl) (⟨Or.inr rfl, by omega, by omega⟩) ?_
  refine ev_b (pc' := (if (I 6 (A + k)) = 0 then 42 else 55)) (ls' := [some (.ref 4), oD, some (.int x), some (.int (nI (A + k)))]) (st' := []) (h' := (n, sl, wKK kk, I, L, wQQ q)) 1 rfl ?_
  refine ev_t (hz k hk) ?_
  refine ev_b (pc' := 48) (ls' := [some (.ref 4), oD, some (.int x), some (.int (nI (A + k)))]) (st' := [.int x, .int (nI (A + k)), .ref 5]) (h' := (n, sl, wKK kk, I, L, wQQ q)) 4 rfl ?_
  refine ev_iasN (k := (A + k)) rfl (rfl) (by omega) ?_
  refine ev_iincN (k := (A + k)) (ls' := [some (.ref 4), oD, some (.int x), some (.int (nI (A + k + 1)))]) rfl rfl rfl ?_
  refine ev_b (pc' := 26) (ls' := [some (.ref 4), oD, some (.int x), some (.int (nI (A + k + 1)))]) (st' := []) (h' := (n, sl, wKK kk, va_up I 5 (upd (I 5) (A + k) x), L, wQQ q)) 1 rfl ?_
  exact h8
theorem lp_lwarm_tell {d n sl : Nat} {kk : Nat → Nat × Nat} {q : Nat → Nat → Option Nat} {r : Option Value × am_H} (x : Int32) (A : Nat) (N : Nat) (I : Nat → Nat → Int32) (L : Nat → Nat → Int64) {oD : Option Value} (h4 : A + N ≤ 400) (hz : ∀ j, j < N → I 6 (A + j) = 0) (hE : A + N = 400 ∨ (A + N < 400 ∧ ¬ I 6 (A + N) = 0)) (h9 : am_Ev (d) 106 55 [some (.ref 4), oD, some (.int x), some (.int (nI (A + N)))] [] (n, sl, wKK kk, (it_lwarm_tell x A N I L N), L, wQQ q) r) : am_Ev (d) 106 26 [some (.ref 4), oD, some (.int x), some (.int (nI A))] [] (n, sl, wKK kk, I, L, wQQ q) r := by
  have loop : ∀ zz k : Nat, k + zz = N → am_Ev (d) 106 26 [some (.ref 4), oD, some (.int x), some (.int (nI (A + k)))] [] (n, sl, wKK kk, (it_lwarm_tell x A N I L k), L, wQQ q) r := by
    intro zz
    induction zz with
    | zero =>
      intro k hk
      have hk9 : k = N := by omega
      rw [hk9]
      rcases hE with hE | hE
      · refine ev_b (pc' := (if 400 ≤ (nI (A + N)) then 55 else 33)) (ls' := [some (.ref 4), oD, some (.int x), some (.int (nI (A + N)))]) (st' := []) (h' := (n, sl, wKK kk, (it_lwarm_tell x A N I L N), L, wQQ q)) 3 rfl ?_
        refine ev_t ((nI_leI (a := 400) (by omega) (by omega)).mpr (by omega)) ?_
        exact h9
      · refine ev_b (pc' := (if 400 ≤ (nI (A + N)) then 55 else 33)) (ls' := [some (.ref 4), oD, some (.int x), some (.int (nI (A + N)))]) (st' := []) (h' := (n, sl, wKK kk, (it_lwarm_tell x A N I L N), L, wQQ q)) 3 rfl ?_
        refine ev_f (nI_ge (a := A + N) (b := 400) (by omega) (by omega)) ?_
        refine ev_b (pc' := 38) (ls' := [some (.ref 4), oD, some (.int x), some (.int (nI (A + N)))]) (st' := [.int (nI (A + N)), .ref 6]) (h' := (n, sl, wKK kk, (it_lwarm_tell x A N I L N), L, wQQ q)) 3 rfl ?_
        refine ev_balN (k := (A + N)) rfl (rfl) (⟨Or.inr rfl, by omega, by omega⟩) ?_
        refine ev_b (pc' := (if ((it_lwarm_tell x A N I L N) 6 (A + N)) = 0 then 42 else 55)) (ls' := [some (.ref 4), oD, some (.int x), some (.int (nI (A + N)))]) (st' := []) (h' := (n, sl, wKK kk, (it_lwarm_tell x A N I L N), L, wQQ q)) 1 rfl ?_
        refine ev_f (by rw [fI_lwarm_tell x A N I L (j := 6) (by decide) N]; exact hE.2) ?_
        exact h9
    | succ zz ih =>
      intro k hk
      exact sg_lwarm_tell x A N _ _ h4 (fun j hj => by rw [fI_lwarm_tell x A N I L (j := 6) (by decide) k]; exact hz j hj) (by rw [fI_lwarm_tell x A N I L (j := 6) (by decide) k]; exact hE) (by omega) (ih (k + 1) (by omega))
  exact loop N 0 (by omega)
def sI_warm_tell (D : Nat) (x : Int32) (I : Nat → Nat → Int32) (L : Nat → Nat → Int64) : Nat → Nat → Int32 := (it_lwarm_tell x (D + 1) (tlN ((va_up (va_up I 6 (upd (I 6) D (vp_nar .boolean 1))) 5 (upd ((va_up I 6 (upd (I 6) D (vp_nar .boolean 1))) 5) D x)) 6) (D + 1) (400 - (D + 1))) (va_up (va_up I 6 (upd (I 6) D (vp_nar .boolean 1))) 5 (upd ((va_up I 6 (upd (I 6) D (vp_nar .boolean 1))) 5) D x)) L (tlN ((va_up (va_up I 6 (upd (I 6) D (vp_nar .boolean 1))) 5 (upd ((va_up I 6 (upd (I 6) D (vp_nar .boolean 1))) 5) D x)) 6) (D + 1) (400 - (D + 1))))
def sL_warm_tell (D : Nat) (x : Int32) (I : Nat → Nat → Int32) (L : Nat → Nat → Int64) : Nat → Nat → Int64 := L
theorem ev_warm_tell {d : Nat} {n sl : Nat} {k : Nat → Nat × Nat} {I : Nat → Nat → Int32} {L : Nat → Nat → Int64} {q : Nat → Nat → Option Nat} {D : Nat} {x : Int32} (hD : D < 400) : am_Ev (d + 1) 106 0 (am_ent 4 [.ref 4, .int (nI D), .int x]) [] (n, sl, wKK k, I, L, wQQ q) (none, (n, sl, wKK k, sI_warm_tell D x I L, sL_warm_tell D x I L, wQQ q)) := by
  show am_Ev _ _ 0 [some (.ref 4), some (.int (nI D)), some (.int x), none] _ _ (none, (n, sl, wKK k, (it_lwarm_tell x (D + 1) (tlN ((va_up (va_up I 6 (upd (I 6) D (vp_nar .boolean 1))) 5 (upd ((va_up I 6 (upd (I 6) D (vp_nar .boolean 1))) 5) D x)) 6) (D + 1) (400 - (D + 1))) (va_up (va_up I 6 (upd (I 6) D (vp_nar .boolean 1))) 5 (upd ((va_up I 6 (upd (I 6) D (vp_nar .boolean 1))) 5) D x)) L (tlN ((va_up (va_up I 6 (upd (I 6) D (vp_nar .boolean 1))) 5 (upd ((va_up I 6 (upd (I 6) D (vp_nar .boolean 1))) 5) D x)) 6) (D + 1) (400 - (D + 1)))), L, wQQ q))
  refine ev_b (pc' := 1) (ls' := [some (.ref 4), some (.int (nI D)), some (.int x), none]) (st' := [.int (nI D)]) (h' := (n, sl, wKK k, I, L, wQQ q)) 1 rfl ?_
  refine ev_cs [.int (nI D)] [] rfl rfl (by omega) rfl (Nat.le_of_ble_eq_true rfl) (Nat.le_of_ble_eq_true rfl) (ev_isDay) ?_
  refine ev_b (pc' := (if (sp_isDay (nI D)) = 0 then 7 else 8)) (ls' := [some (.ref 4), some (.int (nI D)), some (.int x), none]) (st' := []) (h' := (n, sl, wKK k, I, L, wQQ q)) 1 rfl ?_
  refine ev_f (sp_isDay_nI hD) ?_
  refine ev_b (pc' := 14) (ls' := [some (.ref 4), some (.int (nI D)), some (.int x), none]) (st' := [.int 1, .int (nI D), .ref 6]) (h' := (n, sl, wKK k, I, L, wQQ q)) 4 rfl ?_
  refine ev_basZN (k := D) rfl (rfl) (by omega) ?_
  refine ev_b (pc' := 21) (ls' := [some (.ref 4), some (.int (nI D)), some (.int x), none]) (st' := [.int x, .int (nI D), .ref 5]) (h' := (n, sl, wKK k, va_up I 6 (upd (I 6) D (vp_nar .boolean 1)), L, wQQ q)) 4 rfl ?_
  refine ev_iasN (k := D) rfl (rfl) (by omega) ?_
  refine ev_b (pc' := 24) (ls' := [some (.ref 4), some (.int (nI D)), some (.int x), none]) (st' := [.int 1, .int (nI D)]) (h' := (n, sl, wKK k, va_up (va_up I 6 (upd (I 6) D (vp_nar .boolean 1))) 5 (upd ((va_up I 6 (upd (I 6) D (vp_nar .boolean 1))) 5) D x), L, wQQ q)) 2 rfl ?_
  refine ev_b (pc' := 25) (ls' := [some (.ref 4), some (.int (nI D)), some (.int x), none]) (st' := [.int ((nI D) + 1)]) (h' := (n, sl, wKK k, va_up (va_up I 6 (upd (I 6) D (vp_nar .boolean 1))) 5 (upd ((va_up I 6 (upd (I 6) D (vp_nar .boolean 1))) 5) D x), L, wQQ q)) 1 rfl ?_
  refine ev_top (show (nI D) + 1 = nI (D + 1) from nI_add D 1) ?_
  refine ev_b (pc' := 26) (ls' := [some (.ref 4), some (.int (nI D)), some (.int x), some (.int (nI (D + 1)))]) (st' := []) (h' := (n, sl, wKK k, va_up (va_up I 6 (upd (I 6) D (vp_nar .boolean 1))) 5 (upd ((va_up I 6 (upd (I 6) D (vp_nar .boolean 1))) 5) D x), L, wQQ q)) 1 rfl ?_
  refine lp_lwarm_tell x (D + 1) (tlN ((va_up (va_up I 6 (upd (I 6) D (vp_nar .boolean 1))) 5 (upd ((va_up I 6 (upd (I 6) D (vp_nar .boolean 1))) 5) D x)) 6) (D + 1) (400 - (D + 1))) (va_up (va_up I 6 (upd (I 6) D (vp_nar .boolean 1))) 5 (upd ((va_up I 6 (upd (I 6) D (vp_nar .boolean 1))) 5) D x)) L (by have := tlN_le ((va_up (va_up I 6 (upd (I 6) D (vp_nar .boolean 1))) 5 (upd ((va_up I 6 (upd (I 6) D (vp_nar .boolean 1))) 5) D x)) 6) (400 - (D + 1)) (D + 1); omega) (tlN_z _ _ _) ((tlN_e ((va_up (va_up I 6 (upd (I 6) D (vp_nar .boolean 1))) 5 (upd ((va_up I 6 (upd (I 6) D (vp_nar .boolean 1))) 5) D x)) 6) (400 - (D + 1)) (D + 1)).elim (fun e => Or.inl (by omega)) (fun e => Or.inr ⟨by omega, e.2⟩)) (?_)
  exact ev_rv rfl rfl
theorem sLe_warm_tell (D : Nat) (x : Int32) (I : Nat → Nat → Int32) (L : Nat → Nat → Int64) : sL_warm_tell D x I L = L := by
  unfold sL_warm_tell
  try (repeat' split) <;> rfl
def sp_x_water (D : Nat) (e : Int32) (I : Nat → Nat → Int32) (L : Nat → Nat → Int64) : Int32 := (if (sp_isWithin e.toInt64 0 100) = 0 then 0 else 1)
def sI_x_water (D : Nat) (e : Int32) (I : Nat → Nat → Int32) (L : Nat → Nat → Int64) : Nat → Nat → Int32 := (if (sp_isWithin e.toInt64 0 100) = 0 then I else (sI_d_spoil (nI D) (sI_wet_tell D e I L) (sL_wet_tell D e I L)))
def sL_x_water (D : Nat) (e : Int32) (I : Nat → Nat → Int32) (L : Nat → Nat → Int64) : Nat → Nat → Int64 := (if (sp_isWithin e.toInt64 0 100) = 0 then L else (sL_d_spoil (nI D) (sI_wet_tell D e I L) (sL_wet_tell D e I L)))
theorem ev_x_water {d : Nat} {n sl : Nat} {k : Nat → Nat × Nat} {I : Nat → Nat → Int32} {L : Nat → Nat → Int64} {q : Nat → Nat → Option Nat} {D : Nat} {e : Int32} (hD : D < 400) : am_Ev (d + 2) 114 0 (am_ent 3 [.ref 0, .int (nI D), .int e]) [] (n, sl, wKK k, I, L, wQQ q) (some (.int (sp_x_water D e I L)), (n, sl, wKK k, sI_x_water D e I L, sL_x_water D e I L, wQQ q)) := by
  show am_Ev _ _ 0 [some (.ref 0), some (.int (nI D)), some (.int e)] _ _ (some (.int (if (sp_isWithin e.toInt64 0 100) = 0 then 0 else 1)), (n, sl, wKK k, (if (sp_isWithin e.toInt64 0 100) = 0 then I else (sI_d_spoil (nI D) (sI_wet_tell D e I L) (sL_wet_tell D e I L))), (if (sp_isWithin e.toInt64 0 100) = 0 then L else (sL_d_spoil (nI D) (sI_wet_tell D e I L) (sL_wet_tell D e I L))), wQQ q))
  refine ev_b (pc' := 1) (ls' := [some (.ref 0), some (.int (nI D)), some (.int e)]) (st' := [.int (nI D)]) (h' := (n, sl, wKK k, I, L, wQQ q)) 1 rfl ?_
  refine ev_cs [.int (nI D)] [] rfl rfl (by omega) rfl (Nat.le_of_ble_eq_true rfl) (Nat.le_of_ble_eq_true rfl) (ev_isDay) ?_
  refine ev_b (pc' := (if (sp_isDay (nI D)) = 0 then 19 else 7)) (ls' := [some (.ref 0), some (.int (nI D)), some (.int e)]) (st' := []) (h' := (n, sl, wKK k, I, L, wQQ q)) 1 rfl ?_
  refine ev_f (sp_isDay_nI hD) ?_
  refine ev_b (pc' := 13) (ls' := [some (.ref 0), some (.int (nI D)), some (.int e)]) (st' := [.long 100, .long 0, .long e.toInt64]) (h' := (n, sl, wKK k, I, L, wQQ q)) 4 rfl ?_
  refine ev_cs [.long e.toInt64, .long 0, .long 100] [] rfl rfl (by omega) rfl (Nat.le_of_ble_eq_true rfl) (Nat.le_of_ble_eq_true rfl) (ev_isWithin) ?_
  refine ev_b (pc' := (if (sp_isWithin e.toInt64 0 100) = 0 then 19 else 21)) (ls' := [some (.ref 0), some (.int (nI D)), some (.int e)]) (st' := []) (h' := (n, sl, wKK k, I, L, wQQ q)) 1 rfl ?_
  refine ev_ifIw (fun c16 => ?_) (fun c16 => ?_)
  · refine ev_b (pc' := 20) (ls' := [some (.ref 0), some (.int (nI D)), some (.int e)]) (st' := [.int 0]) (h' := (n, sl, wKK k, I, L, wQQ q)) 1 rfl ?_
    exact ev_rz rfl (Or.inl rfl) rfl rfl
  · refine ev_b (pc' := 27) (ls' := [some (.ref 0), some (.int (nI D)), some (.int e)]) (st' := [.int e, .int (nI D), .ref 1]) (h' := (n, sl, wKK k, I, L, wQQ q)) 4 rfl ?_
    refine ev_cv [.int (nI D), .int e] [] rfl rfl (by omega) rfl (Nat.le_of_ble_eq_true rfl) (Nat.le_of_ble_eq_true rfl) (Or.inr (Or.inr rfl)) (ev_wet_tell (by omega)) ?_
    refine ev_b (pc' := 35) (ls' := [some (.ref 0), some (.int (nI D)), some (.int e)]) (st' := [.int (nI D), .ref 13]) (h' := (n, sl, wKK k, sI_wet_tell D e I L, sL_wet_tell D e I L, wQQ q)) 3 rfl ?_
    refine ev_cv [.int (nI D)] [] rfl rfl (by omega) rfl (Nat.le_of_ble_eq_true rfl) (Nat.le_of_ble_eq_true rfl) (Or.inr (Or.inr rfl)) (ev_d_spoil) ?_
    refine ev_b (pc' := 39) (ls' := [some (.ref 0), some (.int (nI D)), some (.int e)]) (st' := [.int 1]) (h' := (n, sl, wKK k, sI_d_spoil (nI D) (sI_wet_tell D e I L) (sL_wet_tell D e I L), sL_d_spoil (nI D) (sI_wet_tell D e I L) (sL_wet_tell D e I L), wQQ q)) 1 rfl ?_
    exact ev_rz rfl (Or.inr rfl) rfl rfl
def sp_x_warmth (D : Nat) (e : Int32) (I : Nat → Nat → Int32) (L : Nat → Nat → Int64) : Int32 := (if (sp_isWithin e.toInt64 (-20) 50) = 0 then 0 else 1)
def sI_x_warmth (D : Nat) (e : Int32) (I : Nat → Nat → Int32) (L : Nat → Nat → Int64) : Nat → Nat → Int32 := (if (sp_isWithin e.toInt64 (-20) 50) = 0 then I else (sI_warm_tell D e I L))
def sL_x_warmth (D : Nat) (e : Int32) (I : Nat → Nat → Int32) (L : Nat → Nat → Int64) : Nat → Nat → Int64 := (if (sp_isWithin e.toInt64 (-20) 50) = 0 then L else (sL_warm_tell D e I L))
theorem ev_x_warmth {d : Nat} {n sl : Nat} {k : Nat → Nat × Nat} {I : Nat → Nat → Int32} {L : Nat → Nat → Int64} {q : Nat → Nat → Option Nat} {D : Nat} {e : Int32} (hD : D < 400) : am_Ev (d + 2) 115 0 (am_ent 3 [.ref 0, .int (nI D), .int e]) [] (n, sl, wKK k, I, L, wQQ q) (some (.int (sp_x_warmth D e I L)), (n, sl, wKK k, sI_x_warmth D e I L, sL_x_warmth D e I L, wQQ q)) := by
  show am_Ev _ _ 0 [some (.ref 0), some (.int (nI D)), some (.int e)] _ _ (some (.int (if (sp_isWithin e.toInt64 (-20) 50) = 0 then 0 else 1)), (n, sl, wKK k, (if (sp_isWithin e.toInt64 (-20) 50) = 0 then I else (sI_warm_tell D e I L)), (if (sp_isWithin e.toInt64 (-20) 50) = 0 then L else (sL_warm_tell D e I L)), wQQ q))
  refine ev_b (pc' := 1) (ls' := [some (.ref 0), some (.int (nI D)), some (.int e)]) (st' := [.int (nI D)]) (h' := (n, sl, wKK k, I, L, wQQ q)) 1 rfl ?_
  refine ev_cs [.int (nI D)] [] rfl rfl (by omega) rfl (Nat.le_of_ble_eq_true rfl) (Nat.le_of_ble_eq_true rfl) (ev_isDay) ?_
  refine ev_b (pc' := (if (sp_isDay (nI D)) = 0 then 21 else 7)) (ls' := [some (.ref 0), some (.int (nI D)), some (.int e)]) (st' := []) (h' := (n, sl, wKK k, I, L, wQQ q)) 1 rfl ?_
  refine ev_f (sp_isDay_nI hD) ?_
  refine ev_b (pc' := 15) (ls' := [some (.ref 0), some (.int (nI D)), some (.int e)]) (st' := [.long 50, .long (-20), .long e.toInt64]) (h' := (n, sl, wKK k, I, L, wQQ q)) 4 rfl ?_
  refine ev_cs [.long e.toInt64, .long (-20), .long 50] [] rfl rfl (by omega) rfl (Nat.le_of_ble_eq_true rfl) (Nat.le_of_ble_eq_true rfl) (ev_isWithin) ?_
  refine ev_b (pc' := (if (sp_isWithin e.toInt64 (-20) 50) = 0 then 21 else 23)) (ls' := [some (.ref 0), some (.int (nI D)), some (.int e)]) (st' := []) (h' := (n, sl, wKK k, I, L, wQQ q)) 1 rfl ?_
  refine ev_ifIw (fun c18 => ?_) (fun c18 => ?_)
  · refine ev_b (pc' := 22) (ls' := [some (.ref 0), some (.int (nI D)), some (.int e)]) (st' := [.int 0]) (h' := (n, sl, wKK k, I, L, wQQ q)) 1 rfl ?_
    exact ev_rz rfl (Or.inl rfl) rfl rfl
  · refine ev_b (pc' := 29) (ls' := [some (.ref 0), some (.int (nI D)), some (.int e)]) (st' := [.int e, .int (nI D), .ref 4]) (h' := (n, sl, wKK k, I, L, wQQ q)) 4 rfl ?_
    refine ev_cv [.int (nI D), .int e] [] rfl rfl (by omega) rfl (Nat.le_of_ble_eq_true rfl) (Nat.le_of_ble_eq_true rfl) (Or.inr (Or.inr rfl)) (ev_warm_tell (by omega)) ?_
    refine ev_b (pc' := 33) (ls' := [some (.ref 0), some (.int (nI D)), some (.int e)]) (st' := [.int 1]) (h' := (n, sl, wKK k, sI_warm_tell D e I L, sL_warm_tell D e I L, wQQ q)) 1 rfl ?_
    exact ev_rz rfl (Or.inr rfl) rfl rfl
