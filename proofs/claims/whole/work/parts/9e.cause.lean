/-! CAUSE, LURCH, SETS -/
def cdI (I : Nat → Nat → Int32) (e1 e2 : Int32) (j i : Nat) : Int32 := cond (Nat.beq j 80) (cond (Nat.beq i 74) e1 (cond (Nat.beq i 75) e2 (I 80 i))) (I j i)
theorem cdI_nb : ∀ {i k : Nat}, ¬ i = k → Nat.beq i k = false := fun h => Bool.eq_false_iff.mpr (fun q => h (Nat.eq_of_beq_eq_true q))
theorem cdI_w_e1 {I : Nat → Nat → Int32} {e1 e2 : Int32} {y : Int32} : va_up (cdI I e1 e2) 80 (upd ((cdI I e1 e2) 80) 74 y) = cdI I y e2 := by
  funext j i
  unfold va_up upd
  by_cases hj : j = 80
  · subst hj
    by_cases hi : i = 74
    · subst hi; rfl
    · rw [if_pos rfl, if_neg hi]; unfold cdI; simp only [cdI_nb hi, cond_false]
  · rw [if_neg hj]; unfold cdI; simp only [cdI_nb hj, cond_false]
theorem cdI_w_e2 {I : Nat → Nat → Int32} {e1 e2 : Int32} {y : Int32} : va_up (cdI I e1 e2) 80 (upd ((cdI I e1 e2) 80) 75 y) = cdI I e1 y := by
  funext j i
  unfold va_up upd
  by_cases hj : j = 80
  · subst hj
    by_cases hi : i = 75
    · subst hi; rfl
    · rw [if_pos rfl, if_neg hi]; unfold cdI; simp only [cdI_nb hi, cond_false]
  · rw [if_neg hj]; unfold cdI; simp only [cdI_nb hj, cond_false]
theorem cd_self {J : Nat → Nat → Int32} : J = cdI J (J 80 74) (J 80 75) := by
  funext j i
  unfold cdI
  by_cases hj : j = 80
  · subst hj
    by_cases h1 : i = 74
    · subst h1; rfl
    by_cases h2 : i = 75
    · subst h2; rfl
    simp only [rdI_nb h1, rdI_nb h2, cond_false]
    try rfl
  · simp only [rdI_nb hj, cond_false]
theorem cdI_o {I : Nat → Nat → Int32} {a b : Int32} {j : Nat} (h : j ≠ 80) : cdI I a b j = I j := by
  funext i
  unfold cdI
  rw [cdI_nb h]
  rfl
theorem cdI_8 {I : Nat → Nat → Int32} {a b : Int32} {k : Nat} (h1 : k ≠ 74) (h2 : k ≠ 75) : cdI I a b 80 k = I 80 k := by
  show cond (Nat.beq k 74) a (cond (Nat.beq k 75) b (I 80 k)) = _
  rw [cdI_nb h1, cdI_nb h2]
  rfl
/-- the sets weighed so far: how many, in all, in some -/
def wg (lo hi : Nat → Int32) (x a0 : Int32) : Nat → Int32 × Int32 × Int32
  | 0 => (0, a0, 0)
  | s + 1 => if x < lo s then wg lo hi x a0 s else if hi s < x then wg lo hi x a0 s else ((wg lo hi x a0 s).1 + 1, (wg lo hi x a0 s).2.1 &&& nI s, (wg lo hi x a0 s).2.2 ||| nI s)
theorem bit_t : ∀ s, s < 1024 → ∀ k, k < 10 → (((nI s >>> (nI k &&& 31)) &&& 1 = 1) ↔ s / 2 ^ k % 2 = 1) := by decide +kernel
theorem sh_t : ∀ N, N ≤ 10 → (1 <<< (nI N &&& 31) : Int32) = nI (2 ^ N) ∧ 2 ^ N ≤ 1024 := by decide +kernel
theorem bs_1 {f : Nat → Int} {F : Nat → Int32} {s j : Nat} (hF : f j = (F j).toInt) (h : s / 2 ^ j % 2 = 1) : jI (bsZ f s j) + F j = jI (bsZ f s (j + 1)) := by
  show _ = jI (bsZ f s j + (if s / 2 ^ j % 2 = 1 then f j else 0))
  rw [if_pos h, hF, ← jI_add, jI_self]
theorem bs_0 {f : Nat → Int} {s j : Nat} (h : ¬ s / 2 ^ j % 2 = 1) : jI (bsZ f s j) + 0 = jI (bsZ f s (j + 1)) := by
  show _ = jI (bsZ f s j + (if s / 2 ^ j % 2 = 1 then f j else 0))
  rw [if_neg h, Int32.add_zero, Int.add_zero]
theorem tv_m_bits {d n sl : Nat} {kk : Nat → Nat × Nat} {I : Nat → Nat → Int32} {L : Nat → Nat → Int64} {q : Nat → Nat → Option Nat} {P : Option Value → am_H → Prop} {x c e1 e2 : Int32} {N s : Nat} (hN : I 80 71 = nI N) (hN10 : N ≤ 10) (hs : s < 1024) (h : am_T d 240 107 [some (.ref 80), some (.int x), some (.int c), some (.int (nI s)), some (.int (jI (bsZ (fun k => (I 125 k).toInt) s N))), some (.int (jI (bsZ (fun k => (I 126 k).toInt) s N))), some (.int (nI N))] [] (n, sl, wKK kk, (cdI I e1 e2), L, wQQ q) P) : ∀ m j : Nat, j + m = N → am_T d 240 40 [some (.ref 80), some (.int x), some (.int c), some (.int (nI s)), some (.int (jI (bsZ (fun k => (I 125 k).toInt) s j))), some (.int (jI (bsZ (fun k => (I 126 k).toInt) s j))), some (.int (nI j))] [] (n, sl, wKK kk, (cdI I e1 e2), L, wQQ q) P := by
  intro m
  induction m with
  | zero =>
    intro j hj
    have hj2 : j = N := by omega
    subst hj2
    refine tv_b (pc' := 46) (ls' := [some (.ref 80), some (.int x), some (.int c), some (.int (nI s)), some (.int (jI (bsZ (fun k => (I 125 k).toInt) s j))), some (.int (jI (bsZ (fun k => (I 126 k).toInt) s j))), some (.int (nI j))]) (st' := [.int (I 80 71), .int (nI j)]) (h' := (n, sl, wKK kk, (cdI I e1 e2), L, wQQ q)) 3 rfl ?_
    refine tv_top (hN) ?_
    refine tv_b (pc' := (if (nI j) ≤ (nI j) then 107 else 49)) (ls' := [some (.ref 80), some (.int x), some (.int c), some (.int (nI s)), some (.int (jI (bsZ (fun k => (I 125 k).toInt) s j))), some (.int (jI (bsZ (fun k => (I 126 k).toInt) s j))), some (.int (nI j))]) (st' := []) (h' := (n, sl, wKK kk, (cdI I e1 e2), L, wQQ q)) 1 rfl ?_
    refine tv_t ((nI_leI (a := j) (b := j) (by omega) (by omega)).mpr (Nat.le_refl _)) ?_
    exact h
  | succ m ih =>
    intro j hj
    have hbt := bit_t s hs j (by omega)
    by_cases hb : s / 2 ^ j % 2 = 1
    · show am_T _ _ 40 [some (.ref 80), some (.int x), some (.int c), some (.int (nI s)), some (.int (jI (bsZ (fun k => (I 125 k).toInt) s j))), some (.int (jI (bsZ (fun k => (I 126 k).toInt) s j))), some (.int (nI j))] _ _ _
      refine tv_b (pc' := 46) (ls' := [some (.ref 80), some (.int x), some (.int c), some (.int (nI s)), some (.int (jI (bsZ (fun k => (I 125 k).toInt) s j))), some (.int (jI (bsZ (fun k => (I 126 k).toInt) s j))), some (.int (nI j))]) (st' := [.int (I 80 71), .int (nI j)]) (h' := (n, sl, wKK kk, (cdI I e1 e2), L, wQQ q)) 3 rfl ?_
      refine tv_top (hN) ?_
      refine tv_b (pc' := (if (nI N) ≤ (nI j) then 107 else 49)) (ls' := [some (.ref 80), some (.int x), some (.int c), some (.int (nI s)), some (.int (jI (bsZ (fun k => (I 125 k).toInt) s j))), some (.int (jI (bsZ (fun k => (I 126 k).toInt) s j))), some (.int (nI j))]) (st' := []) (h' := (n, sl, wKK kk, (cdI I e1 e2), L, wQQ q)) 1 rfl ?_
      refine tv_f (fun hq => absurd ((nI_leI (a := N) (b := j) (by omega) (by omega)).mp hq) (by omega)) ?_
      refine tv_b (pc' := (if (((nI s) >>> ((nI j) &&& 31)) &&& 1) = 1 then 61 else 71)) (ls' := [some (.ref 80), some (.int x), some (.int c), some (.int (nI s)), some (.int (jI (bsZ (fun k => (I 125 k).toInt) s j))), some (.int (jI (bsZ (fun k => (I 126 k).toInt) s j))), some (.int (nI j))]) (st' := [.int (jI (bsZ (fun k => (I 125 k).toInt) s j))]) (h' := (n, sl, wKK kk, (cdI I e1 e2), L, wQQ q)) 8 rfl ?_
      refine tv_t (hbt.mpr hb) ?_
      refine tv_b (pc' := 67) (ls' := [some (.ref 80), some (.int x), some (.int c), some (.int (nI s)), some (.int (jI (bsZ (fun k => (I 125 k).toInt) s j))), some (.int (jI (bsZ (fun k => (I 126 k).toInt) s j))), some (.int (nI j))]) (st' := [.int (nI j), .ref 125, .int (jI (bsZ (fun k => (I 125 k).toInt) s j))]) (h' := (n, sl, wKK kk, (cdI I e1 e2), L, wQQ q)) 3 rfl ?_
      refine tv_ialN (k := j) rfl (rfl) (⟨by omega, by omega⟩) ?_
      refine tv_b (pc' := (if (((nI s) >>> ((nI j) &&& 31)) &&& 1) = 1 then 87 else 97)) (ls' := [some (.ref 80), some (.int x), some (.int c), some (.int (nI s)), some (.int ((jI (bsZ (fun k => (I 125 k).toInt) s j)) + (I 125 j))), some (.int (jI (bsZ (fun k => (I 126 k).toInt) s j))), some (.int (nI j))]) (st' := [.int (jI (bsZ (fun k => (I 126 k).toInt) s j))]) (h' := (n, sl, wKK kk, (cdI I e1 e2), L, wQQ q)) 11 rfl ?_
      refine tv_t (hbt.mpr hb) ?_
      refine tv_b (pc' := 93) (ls' := [some (.ref 80), some (.int x), some (.int c), some (.int (nI s)), some (.int ((jI (bsZ (fun k => (I 125 k).toInt) s j)) + (I 125 j))), some (.int (jI (bsZ (fun k => (I 126 k).toInt) s j))), some (.int (nI j))]) (st' := [.int (nI j), .ref 126, .int (jI (bsZ (fun k => (I 126 k).toInt) s j))]) (h' := (n, sl, wKK kk, (cdI I e1 e2), L, wQQ q)) 3 rfl ?_
      refine tv_ialN (k := j) rfl (rfl) (⟨by omega, by omega⟩) ?_
      refine tv_b (pc' := 101) (ls' := [some (.ref 80), some (.int x), some (.int c), some (.int (nI s)), some (.int ((jI (bsZ (fun k => (I 125 k).toInt) s j)) + (I 125 j))), some (.int ((jI (bsZ (fun k => (I 126 k).toInt) s j)) + (I 126 j))), some (.int (nI j))]) (st' := []) (h' := (n, sl, wKK kk, (cdI I e1 e2), L, wQQ q)) 3 rfl ?_
      refine tv_iincN (k := j) (ls' := [some (.ref 80), some (.int x), some (.int c), some (.int (nI s)), some (.int ((jI (bsZ (fun k => (I 125 k).toInt) s j)) + (I 125 j))), some (.int ((jI (bsZ (fun k => (I 126 k).toInt) s j)) + (I 126 j))), some (.int (nI (j + 1)))]) rfl rfl rfl ?_
      refine tv_b (pc' := 40) (ls' := [some (.ref 80), some (.int x), some (.int c), some (.int (nI s)), some (.int ((jI (bsZ (fun k => (I 125 k).toInt) s j)) + (I 125 j))), some (.int ((jI (bsZ (fun k => (I 126 k).toInt) s j)) + (I 126 j))), some (.int (nI (j + 1)))]) (st' := []) (h' := (n, sl, wKK kk, (cdI I e1 e2), L, wQQ q)) 1 rfl ?_
      rw [bs_1 (f := fun k => (I 125 k).toInt) (F := I 125) rfl hb, bs_1 (f := fun k => (I 126 k).toInt) (F := I 126) rfl hb]
      exact ih (j + 1) (by omega)
    · show am_T _ _ 40 [some (.ref 80), some (.int x), some (.int c), some (.int (nI s)), some (.int (jI (bsZ (fun k => (I 125 k).toInt) s j))), some (.int (jI (bsZ (fun k => (I 126 k).toInt) s j))), some (.int (nI j))] _ _ _
      refine tv_b (pc' := 46) (ls' := [some (.ref 80), some (.int x), some (.int c), some (.int (nI s)), some (.int (jI (bsZ (fun k => (I 125 k).toInt) s j))), some (.int (jI (bsZ (fun k => (I 126 k).toInt) s j))), some (.int (nI j))]) (st' := [.int (I 80 71), .int (nI j)]) (h' := (n, sl, wKK kk, (cdI I e1 e2), L, wQQ q)) 3 rfl ?_
      refine tv_top (hN) ?_
      refine tv_b (pc' := (if (nI N) ≤ (nI j) then 107 else 49)) (ls' := [some (.ref 80), some (.int x), some (.int c), some (.int (nI s)), some (.int (jI (bsZ (fun k => (I 125 k).toInt) s j))), some (.int (jI (bsZ (fun k => (I 126 k).toInt) s j))), some (.int (nI j))]) (st' := []) (h' := (n, sl, wKK kk, (cdI I e1 e2), L, wQQ q)) 1 rfl ?_
      refine tv_f (fun hq => absurd ((nI_leI (a := N) (b := j) (by omega) (by omega)).mp hq) (by omega)) ?_
      refine tv_b (pc' := (if (((nI s) >>> ((nI j) &&& 31)) &&& 1) = 1 then 61 else 71)) (ls' := [some (.ref 80), some (.int x), some (.int c), some (.int (nI s)), some (.int (jI (bsZ (fun k => (I 125 k).toInt) s j))), some (.int (jI (bsZ (fun k => (I 126 k).toInt) s j))), some (.int (nI j))]) (st' := [.int (jI (bsZ (fun k => (I 125 k).toInt) s j))]) (h' := (n, sl, wKK kk, (cdI I e1 e2), L, wQQ q)) 8 rfl ?_
      refine tv_f (fun hq => hb (hbt.mp hq)) ?_
      refine tv_b (pc' := (if (((nI s) >>> ((nI j) &&& 31)) &&& 1) = 1 then 87 else 97)) (ls' := [some (.ref 80), some (.int x), some (.int c), some (.int (nI s)), some (.int ((jI (bsZ (fun k => (I 125 k).toInt) s j)) + 0)), some (.int (jI (bsZ (fun k => (I 126 k).toInt) s j))), some (.int (nI j))]) (st' := [.int (jI (bsZ (fun k => (I 126 k).toInt) s j))]) (h' := (n, sl, wKK kk, (cdI I e1 e2), L, wQQ q)) 11 rfl ?_
      refine tv_f (fun hq => hb (hbt.mp hq)) ?_
      refine tv_b (pc' := 101) (ls' := [some (.ref 80), some (.int x), some (.int c), some (.int (nI s)), some (.int ((jI (bsZ (fun k => (I 125 k).toInt) s j)) + 0)), some (.int ((jI (bsZ (fun k => (I 126 k).toInt) s j)) + 0)), some (.int (nI j))]) (st' := []) (h' := (n, sl, wKK kk, (cdI I e1 e2), L, wQQ q)) 3 rfl ?_
      refine tv_iincN (k := j) (ls' := [some (.ref 80), some (.int x), some (.int c), some (.int (nI s)), some (.int ((jI (bsZ (fun k => (I 125 k).toInt) s j)) + 0)), some (.int ((jI (bsZ (fun k => (I 126 k).toInt) s j)) + 0)), some (.int (nI (j + 1)))]) rfl rfl rfl ?_
      refine tv_b (pc' := 40) (ls' := [some (.ref 80), some (.int x), some (.int c), some (.int (nI s)), some (.int ((jI (bsZ (fun k => (I 125 k).toInt) s j)) + 0)), some (.int ((jI (bsZ (fun k => (I 126 k).toInt) s j)) + 0)), some (.int (nI (j + 1)))]) (st' := []) (h' := (n, sl, wKK kk, (cdI I e1 e2), L, wQQ q)) 1 rfl ?_
      rw [bs_0 (f := fun k => (I 125 k).toInt) hb, bs_0 (f := fun k => (I 126 k).toInt) hb]
      exact ih (j + 1) (by omega)
theorem tv_m_doesL {d n sl : Nat} {kk : Nat → Nat × Nat} {I : Nat → Nat → Int32} {L : Nat → Nat → Int64} {q : Nat → Nat → Option Nat} {x a0 : Int32} {N : Nat} {lo hi : Nat → Int32} (hN : I 80 71 = nI N) (hN10 : N ≤ 10) (hlo : ∀ s, s < 2 ^ N → jI (bsZ (fun k => (I 125 k).toInt) s N) = lo s ∧ jI (bsZ (fun k => (I 126 k).toInt) s N) = hi s) : ∀ m s : Nat, s + m = 2 ^ N → ∀ o4 o5 o6 : Option Value, am_T d 240 21 [some (.ref 80), some (.int x), some (.int ((wg lo hi x a0 s).1)), some (.int (nI s)), o4, o5, o6] [] (n, sl, wKK kk, (cdI I ((wg lo hi x a0 s).2.1) ((wg lo hi x a0 s).2.2)), L, wQQ q) (fun rv h' => rv = some (.int (wg lo hi x a0 (2 ^ N)).1) ∧ h' = (n, sl, wKK kk, (cdI I ((wg lo hi x a0 (2 ^ N)).2.1) ((wg lo hi x a0 (2 ^ N)).2.2)), L, wQQ q)) := by
  obtain ⟨hW, hW10⟩ := sh_t N hN10
  intro m
  induction m with
  | zero =>
    intro s hs o4 o5 o6
    have hs2 : s = 2 ^ N := by omega
    subst hs2
    show am_T _ _ 21 [some (.ref 80), some (.int x), some (.int ((wg lo hi x a0 (2 ^ N)).1)), some (.int (nI (2 ^ N))), o4, o5, o6] _ _ _
    refine tv_b (pc' := 27) (ls' := [some (.ref 80), some (.int x), some (.int ((wg lo hi x a0 (2 ^ N)).1)), some (.int (nI (2 ^ N))), o4, o5, o6]) (st' := [.int (I 80 71), .int 1, .int (nI (2 ^ N))]) (h' := (n, sl, wKK kk, (cdI I ((wg lo hi x a0 (2 ^ N)).2.1) ((wg lo hi x a0 (2 ^ N)).2.2)), L, wQQ q)) 4 rfl ?_
    refine tv_top (hN) ?_
    refine tv_b (pc' := (if (1 <<< ((nI N) &&& 31)) ≤ (nI (2 ^ N)) then 151 else 31)) (ls' := [some (.ref 80), some (.int x), some (.int ((wg lo hi x a0 (2 ^ N)).1)), some (.int (nI (2 ^ N))), o4, o5, o6]) (st' := []) (h' := (n, sl, wKK kk, (cdI I ((wg lo hi x a0 (2 ^ N)).2.1) ((wg lo hi x a0 (2 ^ N)).2.2)), L, wQQ q)) 2 rfl ?_
    refine tv_t (by rw [hW]; exact Int32.le_refl _) ?_
    refine tv_b (pc' := 152) (ls' := [some (.ref 80), some (.int x), some (.int ((wg lo hi x a0 (2 ^ N)).1)), some (.int (nI (2 ^ N))), o4, o5, o6]) (st' := [.int ((wg lo hi x a0 (2 ^ N)).1)]) (h' := (n, sl, wKK kk, (cdI I ((wg lo hi x a0 (2 ^ N)).2.1) ((wg lo hi x a0 (2 ^ N)).2.2)), L, wQQ q)) 1 rfl ?_
    exact tv_ri rfl ⟨rfl, rfl⟩
  | succ m ih =>
    intro s hs o4 o5 o6
    obtain ⟨hl1, hl2⟩ := hlo s (by omega)
    show am_T _ _ 21 [some (.ref 80), some (.int x), some (.int ((wg lo hi x a0 s).1)), some (.int (nI s)), o4, o5, o6] _ _ _
    refine tv_b (pc' := 27) (ls' := [some (.ref 80), some (.int x), some (.int ((wg lo hi x a0 s).1)), some (.int (nI s)), o4, o5, o6]) (st' := [.int (I 80 71), .int 1, .int (nI s)]) (h' := (n, sl, wKK kk, (cdI I ((wg lo hi x a0 s).2.1) ((wg lo hi x a0 s).2.2)), L, wQQ q)) 4 rfl ?_
    refine tv_top (hN) ?_
    refine tv_b (pc' := (if (1 <<< ((nI N) &&& 31)) ≤ (nI s) then 151 else 31)) (ls' := [some (.ref 80), some (.int x), some (.int ((wg lo hi x a0 s).1)), some (.int (nI s)), o4, o5, o6]) (st' := []) (h' := (n, sl, wKK kk, (cdI I ((wg lo hi x a0 s).2.1) ((wg lo hi x a0 s).2.2)), L, wQQ q)) 2 rfl ?_
    refine tv_f (fun hq => absurd ((nI_leI (by omega) (by omega)).mp (show nI (2 ^ N) ≤ nI s by rw [← hW]; exact hq)) (by omega)) ?_
    refine tv_b (pc' := 40) (ls' := [some (.ref 80), some (.int x), some (.int ((wg lo hi x a0 s).1)), some (.int (nI s)), some (.int 0), some (.int 0), some (.int 0)]) (st' := []) (h' := (n, sl, wKK kk, (cdI I ((wg lo hi x a0 s).2.1) ((wg lo hi x a0 s).2.2)), L, wQQ q)) 6 rfl ?_
    refine tv_m_bits hN hN10 (by omega) ?_ N 0 (Nat.zero_add N)
    rw [hl1, hl2]
    refine tv_b (pc' := (if x < (lo s) then 145 else 113)) (ls' := [some (.ref 80), some (.int x), some (.int ((wg lo hi x a0 s).1)), some (.int (nI s)), some (.int (lo s)), some (.int (hi s)), some (.int (nI N))]) (st' := []) (h' := (n, sl, wKK kk, (cdI I ((wg lo hi x a0 s).2.1) ((wg lo hi x a0 s).2.2)), L, wQQ q)) 3 rfl ?_
    refine tv_if (fun c110 => ?_) (fun c110 => ?_)
    · refine tv_iincN (k := s) (ls' := [some (.ref 80), some (.int x), some (.int ((wg lo hi x a0 s).1)), some (.int (nI (s + 1))), some (.int (lo s)), some (.int (hi s)), some (.int (nI N))]) rfl rfl rfl ?_
      refine tv_b (pc' := 21) (ls' := [some (.ref 80), some (.int x), some (.int ((wg lo hi x a0 s).1)), some (.int (nI (s + 1))), some (.int (lo s)), some (.int (hi s)), some (.int (nI N))]) (st' := []) (h' := (n, sl, wKK kk, (cdI I ((wg lo hi x a0 s).2.1) ((wg lo hi x a0 s).2.2)), L, wQQ q)) 1 rfl ?_
      have e : wg lo hi x a0 (s + 1) = _ := show (if x < lo s then wg lo hi x a0 s else if hi s < x then wg lo hi x a0 s else ((wg lo hi x a0 s).1 + 1, (wg lo hi x a0 s).2.1 &&& nI s, (wg lo hi x a0 s).2.2 ||| nI s)) = _ by rw [if_pos c110]
      have h := ih (s + 1) (by omega) (some (.int (lo s))) (some (.int (hi s))) (some (.int (nI N)))
      rw [e] at h
      exact h
    · refine tv_b (pc' := (if x ≤ (hi s) then 122 else 119)) (ls' := [some (.ref 80), some (.int x), some (.int ((wg lo hi x a0 s).1)), some (.int (nI s)), some (.int (lo s)), some (.int (hi s)), some (.int (nI N))]) (st' := []) (h' := (n, sl, wKK kk, (cdI I ((wg lo hi x a0 s).2.1) ((wg lo hi x a0 s).2.2)), L, wQQ q)) 3 rfl ?_
      refine tv_if (fun c116 => ?_) (fun c116 => ?_)
      · refine tv_b (pc' := 135) (ls' := [some (.ref 80), some (.int x), some (.int (((wg lo hi x a0 s).1) + Int32.ofInt 1)), some (.int (nI s)), some (.int (lo s)), some (.int (hi s)), some (.int (nI N))]) (st' := []) (h' := (n, sl, wKK kk, va_up (cdI I ((wg lo hi x a0 s).2.1) ((wg lo hi x a0 s).2.2)) 80 (upd ((cdI I ((wg lo hi x a0 s).2.1) ((wg lo hi x a0 s).2.2)) 80) 74 (((wg lo hi x a0 s).2.1) &&& (nI s))), L, wQQ q)) 7 rfl ?_
        refine tv_hI cdI_w_e1 ?_
        refine tv_b (pc' := 145) (ls' := [some (.ref 80), some (.int x), some (.int (((wg lo hi x a0 s).1) + Int32.ofInt 1)), some (.int (nI s)), some (.int (lo s)), some (.int (hi s)), some (.int (nI N))]) (st' := []) (h' := (n, sl, wKK kk, va_up (cdI I (((wg lo hi x a0 s).2.1) &&& (nI s)) ((wg lo hi x a0 s).2.2)) 80 (upd ((cdI I (((wg lo hi x a0 s).2.1) &&& (nI s)) ((wg lo hi x a0 s).2.2)) 80) 75 (((wg lo hi x a0 s).2.2) ||| (nI s))), L, wQQ q)) 6 rfl ?_
        refine tv_hI cdI_w_e2 ?_
        refine tv_iincN (k := s) (ls' := [some (.ref 80), some (.int x), some (.int (((wg lo hi x a0 s).1) + Int32.ofInt 1)), some (.int (nI (s + 1))), some (.int (lo s)), some (.int (hi s)), some (.int (nI N))]) rfl rfl rfl ?_
        refine tv_b (pc' := 21) (ls' := [some (.ref 80), some (.int x), some (.int (((wg lo hi x a0 s).1) + Int32.ofInt 1)), some (.int (nI (s + 1))), some (.int (lo s)), some (.int (hi s)), some (.int (nI N))]) (st' := []) (h' := (n, sl, wKK kk, (cdI I (((wg lo hi x a0 s).2.1) &&& (nI s)) (((wg lo hi x a0 s).2.2) ||| (nI s))), L, wQQ q)) 1 rfl ?_
        have e : wg lo hi x a0 (s + 1) = _ := show (if x < lo s then wg lo hi x a0 s else if hi s < x then wg lo hi x a0 s else ((wg lo hi x a0 s).1 + 1, (wg lo hi x a0 s).2.1 &&& nI s, (wg lo hi x a0 s).2.2 ||| nI s)) = _ by rw [if_neg c110, if_neg (fun q => absurd q (Int32.not_lt.mpr c116))]
        have h := ih (s + 1) (by omega) (some (.int (lo s))) (some (.int (hi s))) (some (.int (nI N)))
        rw [e] at h
        exact h
      · refine tv_b (pc' := 145) (ls' := [some (.ref 80), some (.int x), some (.int ((wg lo hi x a0 s).1)), some (.int (nI s)), some (.int (lo s)), some (.int (hi s)), some (.int (nI N))]) (st' := []) (h' := (n, sl, wKK kk, (cdI I ((wg lo hi x a0 s).2.1) ((wg lo hi x a0 s).2.2)), L, wQQ q)) 1 rfl ?_
        refine tv_iincN (k := s) (ls' := [some (.ref 80), some (.int x), some (.int ((wg lo hi x a0 s).1)), some (.int (nI (s + 1))), some (.int (lo s)), some (.int (hi s)), some (.int (nI N))]) rfl rfl rfl ?_
        refine tv_b (pc' := 21) (ls' := [some (.ref 80), some (.int x), some (.int ((wg lo hi x a0 s).1)), some (.int (nI (s + 1))), some (.int (lo s)), some (.int (hi s)), some (.int (nI N))]) (st' := []) (h' := (n, sl, wKK kk, (cdI I ((wg lo hi x a0 s).2.1) ((wg lo hi x a0 s).2.2)), L, wQQ q)) 1 rfl ?_
        have e : wg lo hi x a0 (s + 1) = _ := show (if x < lo s then wg lo hi x a0 s else if hi s < x then wg lo hi x a0 s else ((wg lo hi x a0 s).1 + 1, (wg lo hi x a0 s).2.1 &&& nI s, (wg lo hi x a0 s).2.2 ||| nI s)) = _ by rw [if_neg c110, if_pos (Int32.not_le.mp c116)]
        have h := ih (s + 1) (by omega) (some (.int (lo s))) (some (.int (hi s))) (some (.int (nI N)))
        rw [e] at h
        exact h
theorem tv_m_does {d n sl : Nat} {kk : Nat → Nat × Nat} {I : Nat → Nat → Int32} {L : Nat → Nat → Int64} {q : Nat → Nat → Option Nat} {x e1 e2 : Int32} {N : Nat} {lo hi : Nat → Int32} (hN : I 80 71 = nI N) (hN10 : N ≤ 10) (hlo : ∀ s, s < 2 ^ N → jI (bsZ (fun k => (I 125 k).toInt) s N) = lo s ∧ jI (bsZ (fun k => (I 126 k).toInt) s N) = hi s) : am_T d 240 0 (am_ent 7 [.ref 80, .int x]) [] (n, sl, wKK kk, (cdI I e1 e2), L, wQQ q) (fun rv h' => rv = some (.int (wg lo hi x ((1 <<< ((nI N) &&& 31)) - 1 : Int32) (2 ^ N)).1) ∧ h' = (n, sl, wKK kk, (cdI I ((wg lo hi x ((1 <<< ((nI N) &&& 31)) - 1 : Int32) (2 ^ N)).2.1) ((wg lo hi x ((1 <<< ((nI N) &&& 31)) - 1 : Int32) (2 ^ N)).2.2)), L, wQQ q)) := by
  show am_T _ _ 0 [some (.ref 80), some (.int x), none, none, none, none, none] _ _ _
  refine tv_b (pc' := 8) (ls' := [some (.ref 80), some (.int x), some (.int 0), none, none, none, none]) (st' := [.int (I 80 71), .int 1, .ref 80]) (h' := (n, sl, wKK kk, (cdI I e1 e2), L, wQQ q)) 6 rfl ?_
  refine tv_top (hN) ?_
  refine tv_b (pc' := 14) (ls' := [some (.ref 80), some (.int x), some (.int 0), none, none, none, none]) (st' := []) (h' := (n, sl, wKK kk, va_up (cdI I e1 e2) 80 (upd ((cdI I e1 e2) 80) 74 ((1 <<< ((nI N) &&& 31)) - 1)), L, wQQ q)) 4 rfl ?_
  refine tv_hI cdI_w_e1 ?_
  refine tv_b (pc' := 19) (ls' := [some (.ref 80), some (.int x), some (.int 0), none, none, none, none]) (st' := []) (h' := (n, sl, wKK kk, va_up (cdI I ((1 <<< ((nI N) &&& 31)) - 1) e2) 80 (upd ((cdI I ((1 <<< ((nI N) &&& 31)) - 1) e2) 80) 75 0), L, wQQ q)) 3 rfl ?_
  refine tv_hI cdI_w_e2 ?_
  refine tv_b (pc' := 21) (ls' := [some (.ref 80), some (.int x), some (.int 0), some (.int 0), none, none, none]) (st' := []) (h' := (n, sl, wKK kk, (cdI I ((1 <<< ((nI N) &&& 31)) - 1) 0), L, wQQ q)) 2 rfl ?_
  exact tv_m_doesL (a0 := ((1 <<< ((nI N) &&& 31)) - 1 : Int32)) hN hN10 hlo (2 ^ N) 0 (Nat.zero_add _) none none none
theorem cw_v {x a0 : Int32} {W : Nat} {J : Nat → Nat → Int32} {L : Nat → Nat → Int64} (h3 : J 77 3 = 0) (h4 : J 77 4 = a0) (h5 : J 77 5 = 0) : ∀ k, (∀ j, j ≠ 77 → it_c_weigh x W J L k j = J j) ∧ (∀ i, i ≠ 3 → i ≠ 4 → i ≠ 5 → it_c_weigh x W J L k 77 i = J 77 i) ∧ it_c_weigh x W J L k 77 3 = (wg (J 78) (J 79) x a0 k).1 ∧ it_c_weigh x W J L k 77 4 = (wg (J 78) (J 79) x a0 k).2.1 ∧ it_c_weigh x W J L k 77 5 = (wg (J 78) (J 79) x a0 k).2.2 := by
  intro k
  induction k with
  | zero => exact ⟨fun _ _ => rfl, fun _ _ _ _ => rfl, h3, h4, h5⟩
  | succ k ih =>
    obtain ⟨i1, i2, i3, i4, i5⟩ := ih
    have e1 : it_c_weigh x W J L (k + 1) = bd_c_weigh x W k (it_c_weigh x W J L k) L := rfl
    have e2 : wg (J 78) (J 79) x a0 (k + 1) = if x < J 78 k then wg (J 78) (J 79) x a0 k else if J 79 k < x then wg (J 78) (J 79) x a0 k else ((wg (J 78) (J 79) x a0 k).1 + 1, (wg (J 78) (J 79) x a0 k).2.1 &&& nI k, (wg (J 78) (J 79) x a0 k).2.2 ||| nI k) := rfl
    rw [e1, e2]
    generalize wg (J 78) (J 79) x a0 k = w at i3 i4 i5 ⊢
    generalize it_c_weigh x W J L k = K at i1 i2 i3 i4 i5 ⊢
    unfold bd_c_weigh
    rw [i1 78 (by decide), i1 79 (by decide)]
    by_cases c1 : x < J 78 k
    · rw [if_pos c1, if_pos c1]; exact ⟨i1, i2, i3, i4, i5⟩
    · rw [if_neg c1, if_neg c1]
      by_cases c2 : J 79 k < x
      · rw [if_pos c2, if_pos c2]; exact ⟨i1, i2, i3, i4, i5⟩
      · rw [if_neg c2, if_neg c2]
        refine ⟨fun j hj => by rw [va_n1 hj, va_n1 hj, va_n1 hj]; exact i1 j hj, fun i a b c => by rw [va_e1, upd_n c, va_e1, upd_n b, va_e1, upd_n a]; exact i2 i a b c, ?_, ?_, ?_⟩
        · rw [va_e1, upd_n (by decide), va_e1, upd_n (by decide), va_e1, upd_e, i3]
        · rw [va_e1, upd_n (by decide), va_e1, upd_e, i4]
        · rw [va_e1, upd_e, i5]
theorem weigh_r {x : Int32} {N : Nat} {I : Nat → Nat → Int32} {L : Nat → Nat → Int64} (h2 : I 77 2 = nI N) (hN : N ≤ 10) : (∀ j, j ≠ 77 → sI_c_weigh x I L j = I j) ∧ sI_c_weigh x I L 77 2 = I 77 2 ∧ sI_c_weigh x I L 77 3 = (wg (I 78) (I 79) x ((1 <<< ((nI N) &&& 31)) - 1 : Int32) (2 ^ N)).1 ∧ sI_c_weigh x I L 77 4 = (wg (I 78) (I 79) x ((1 <<< ((nI N) &&& 31)) - 1 : Int32) (2 ^ N)).2.1 ∧ sI_c_weigh x I L 77 5 = (wg (I 78) (I 79) x ((1 <<< ((nI N) &&& 31)) - 1 : Int32) (2 ^ N)).2.2 := by
  obtain ⟨hW, hW10⟩ := sh_t N hN
  have hcl : (1 <<< (nI N &&& 31) : Int32).toNatClampNeg = 2 ^ N := by rw [hW, nI_clamp (by omega)]
  unfold sI_c_weigh
  rw [h2, hcl]
  have lo : ∀ j, j ≠ 77 → (va_up (va_up (va_up I 77 (upd (I 77) 3 0)) 77 (upd ((va_up I 77 (upd (I 77) 3 0)) 77) 4 ((1 <<< ((nI N) &&& 31)) - 1))) 77 (upd ((va_up (va_up I 77 (upd (I 77) 3 0)) 77 (upd ((va_up I 77 (upd (I 77) 3 0)) 77) 4 ((1 <<< ((nI N) &&& 31)) - 1))) 77) 5 0)) j = I j := fun j hj => by rw [va_n1 hj, va_n1 hj, va_n1 hj]
  have l2 : (va_up (va_up (va_up I 77 (upd (I 77) 3 0)) 77 (upd ((va_up I 77 (upd (I 77) 3 0)) 77) 4 ((1 <<< ((nI N) &&& 31)) - 1))) 77 (upd ((va_up (va_up I 77 (upd (I 77) 3 0)) 77 (upd ((va_up I 77 (upd (I 77) 3 0)) 77) 4 ((1 <<< ((nI N) &&& 31)) - 1))) 77) 5 0)) 77 2 = I 77 2 := by rw [va_e1, upd_n (by decide), va_e1, upd_n (by decide), va_e1, upd_n (by decide)]
  have l3 : (va_up (va_up (va_up I 77 (upd (I 77) 3 0)) 77 (upd ((va_up I 77 (upd (I 77) 3 0)) 77) 4 ((1 <<< ((nI N) &&& 31)) - 1))) 77 (upd ((va_up (va_up I 77 (upd (I 77) 3 0)) 77 (upd ((va_up I 77 (upd (I 77) 3 0)) 77) 4 ((1 <<< ((nI N) &&& 31)) - 1))) 77) 5 0)) 77 3 = 0 := by rw [va_e1, upd_n (by decide), va_e1, upd_n (by decide), va_e1, upd_e]
  have l4 : (va_up (va_up (va_up I 77 (upd (I 77) 3 0)) 77 (upd ((va_up I 77 (upd (I 77) 3 0)) 77) 4 ((1 <<< ((nI N) &&& 31)) - 1))) 77 (upd ((va_up (va_up I 77 (upd (I 77) 3 0)) 77 (upd ((va_up I 77 (upd (I 77) 3 0)) 77) 4 ((1 <<< ((nI N) &&& 31)) - 1))) 77) 5 0)) 77 4 = (1 <<< ((nI N) &&& 31)) - 1 := by rw [va_e1, upd_n (by decide), va_e1, upd_e]
  have l5 : (va_up (va_up (va_up I 77 (upd (I 77) 3 0)) 77 (upd ((va_up I 77 (upd (I 77) 3 0)) 77) 4 ((1 <<< ((nI N) &&& 31)) - 1))) 77 (upd ((va_up (va_up I 77 (upd (I 77) 3 0)) 77 (upd ((va_up I 77 (upd (I 77) 3 0)) 77) 4 ((1 <<< ((nI N) &&& 31)) - 1))) 77) 5 0)) 77 5 = 0 := by rw [va_e1, upd_e]
  generalize (va_up (va_up (va_up I 77 (upd (I 77) 3 0)) 77 (upd ((va_up I 77 (upd (I 77) 3 0)) 77) 4 ((1 <<< ((nI N) &&& 31)) - 1))) 77 (upd ((va_up (va_up I 77 (upd (I 77) 3 0)) 77 (upd ((va_up I 77 (upd (I 77) 3 0)) 77) 4 ((1 <<< ((nI N) &&& 31)) - 1))) 77) 5 0)) = J at lo l2 l3 l4 l5 ⊢
  obtain ⟨w1, w2, w3, w4, w5⟩ := cw_v (x := x) (W := 2 ^ N) (L := L) l3 l4 l5 (2 ^ N)
  rw [lo 78 (by decide), lo 79 (by decide)] at w3 w4 w5
  exact ⟨fun j hj => (w1 j hj).trans (lo j hj), ((w2 2 (by decide) (by decide) (by decide)).trans l2).trans h2, w3, w4, w5⟩
theorem tv_m_sets {d n sl : Nat} {kk : Nat → Nat × Nat} {I : Nat → Nat → Int32} {L : Nat → Nat → Int64} {q : Nat → Nat → Option Nat} {x e1 e2 : Int32} {N : Nat} {lo hi : Nat → Int32} (hN : I 80 71 = nI N) (hN10 : N ≤ 10) (hlo : ∀ s, s < 2 ^ N → jI (bsZ (fun k => (I 125 k).toInt) s N) = lo s ∧ jI (bsZ (fun k => (I 126 k).toInt) s N) = hi s) (hx : ¬ sp_m_isLurch x = 0) : am_T (d + 2) 243 0 (am_ent 2 [.ref 80, .int x]) [] (n, sl, wKK kk, (cdI I e1 e2), L, wQQ q) (fun rv h' => rv = some (.int (wg lo hi x ((1 <<< ((nI N) &&& 31)) - 1 : Int32) (2 ^ N)).1) ∧ h' = (n, sl, wKK kk, (cdI I ((wg lo hi x ((1 <<< ((nI N) &&& 31)) - 1 : Int32) (2 ^ N)).2.1) ((wg lo hi x ((1 <<< ((nI N) &&& 31)) - 1 : Int32) (2 ^ N)).2.2)), L, wQQ q)) := by
  show am_T _ _ 0 [some (.ref 80), some (.int x)] _ _ _
  refine tv_b (pc' := 1) (ls' := [some (.ref 80), some (.int x)]) (st' := [.int x]) (h' := (n, sl, wKK kk, (cdI I e1 e2), L, wQQ q)) 1 rfl ?_
  refine tv_csE [.int x] [] rfl rfl (by omega) rfl (Nat.le_of_ble_eq_true rfl) (Nat.le_of_ble_eq_true rfl) (ev_m_isLurch) ?_
  refine tv_b (pc' := (if (sp_m_isLurch x) = 0 then 15 else 7)) (ls' := [some (.ref 80), some (.int x)]) (st' := []) (h' := (n, sl, wKK kk, (cdI I e1 e2), L, wQQ q)) 1 rfl ?_
  refine tv_f (hx) ?_
  refine tv_b (pc' := 9) (ls' := [some (.ref 80), some (.int x)]) (st' := [.int x, .ref 80]) (h' := (n, sl, wKK kk, (cdI I e1 e2), L, wQQ q)) 2 rfl ?_
  refine tv_cv [.int x] [] rfl rfl (by omega) rfl (Nat.le_of_ble_eq_true rfl) (Nat.le_of_ble_eq_true rfl) (Or.inr (Or.inr rfl)) (tv_m_does hN hN10 hlo) ?_
  rintro rv9 h9 ⟨rfl, rfl⟩
  refine tv_b (pc' := 16) (ls' := [some (.ref 80), some (.int x)]) (st' := [.int ((wg lo hi x ((1 <<< ((nI N) &&& 31)) - 1 : Int32) (2 ^ N)).1)]) (h' := (n, sl, wKK kk, (cdI I ((wg lo hi x ((1 <<< ((nI N) &&& 31)) - 1 : Int32) (2 ^ N)).2.1) ((wg lo hi x ((1 <<< ((nI N) &&& 31)) - 1 : Int32) (2 ^ N)).2.2)), L, wQQ q)) 1 rfl ?_
  exact tv_ri rfl ⟨rfl, rfl⟩
theorem ev_m_setsO {d n sl : Nat} {kk : Nat → Nat × Nat} {I : Nat → Nat → Int32} {L : Nat → Nat → Int64} {q : Nat → Nat → Option Nat} {x : Int32} (hx : sp_m_isLurch x = 0) : am_Ev (d + 2) 243 0 (am_ent 2 [.ref 80, .int x]) [] (n, sl, wKK kk, I, L, wQQ q) (some (.int (-1)), (n, sl, wKK kk, I, L, wQQ q)) := by
  refine tv_ev ?_
  show am_T _ _ 0 [some (.ref 80), some (.int x)] _ _ _
  refine tv_b (pc' := 1) (ls' := [some (.ref 80), some (.int x)]) (st' := [.int x]) (h' := (n, sl, wKK kk, I, L, wQQ q)) 1 rfl ?_
  refine tv_csE [.int x] [] rfl rfl (by omega) rfl (Nat.le_of_ble_eq_true rfl) (Nat.le_of_ble_eq_true rfl) (ev_m_isLurch) ?_
  refine tv_b (pc' := (if (sp_m_isLurch x) = 0 then 15 else 7)) (ls' := [some (.ref 80), some (.int x)]) (st' := []) (h' := (n, sl, wKK kk, I, L, wQQ q)) 1 rfl ?_
  refine tv_t (hx) ?_
  refine tv_b (pc' := 16) (ls' := [some (.ref 80), some (.int x)]) (st' := [.int (-1)]) (h' := (n, sl, wKK kk, I, L, wQQ q)) 1 rfl ?_
  exact tv_ri rfl ⟨rfl, rfl⟩
theorem tv_m_lurch {d n sl : Nat} {kk : Nat → Nat × Nat} {I : Nat → Nat → Int32} {L : Nat → Nat → Int64} {q : Nat → Nat → Option Nat} {x b e1 e2 : Int32} {N : Nat} {lo hi : Nat → Int32} (hN : I 80 71 = nI N) (hN10 : N ≤ 10) (hlo : ∀ s, s < 2 ^ N → jI (bsZ (fun k => (I 125 k).toInt) s N) = lo s ∧ jI (bsZ (fun k => (I 126 k).toInt) s N) = hi s) (hx : ¬ sp_m_isLurch x = 0) : am_T (d + 2) 242 0 (am_ent 3 [.ref 80, .int x, .int b]) [] (n, sl, wKK kk, (cdI I e1 e2), L, wQQ q) (fun rv h' => rv = some (.int (if (wg lo hi x ((1 <<< ((nI N) &&& 31)) - 1 : Int32) (2 ^ N)).1 = 0 then -2 else if b = 0 then (wg lo hi x ((1 <<< ((nI N) &&& 31)) - 1 : Int32) (2 ^ N)).2.2 else (wg lo hi x ((1 <<< ((nI N) &&& 31)) - 1 : Int32) (2 ^ N)).2.1)) ∧ h' = (n, sl, wKK kk, (cdI I ((wg lo hi x ((1 <<< ((nI N) &&& 31)) - 1 : Int32) (2 ^ N)).2.1) ((wg lo hi x ((1 <<< ((nI N) &&& 31)) - 1 : Int32) (2 ^ N)).2.2)), L, wQQ q)) := by
  show am_T _ _ 0 [some (.ref 80), some (.int x), some (.int b)] _ _ _
  refine tv_b (pc' := 1) (ls' := [some (.ref 80), some (.int x), some (.int b)]) (st' := [.int x]) (h' := (n, sl, wKK kk, (cdI I e1 e2), L, wQQ q)) 1 rfl ?_
  refine tv_csE [.int x] [] rfl rfl (by omega) rfl (Nat.le_of_ble_eq_true rfl) (Nat.le_of_ble_eq_true rfl) (ev_m_isLurch) ?_
  refine tv_b (pc' := (if (sp_m_isLurch x) = 0 then 7 else 9)) (ls' := [some (.ref 80), some (.int x), some (.int b)]) (st' := []) (h' := (n, sl, wKK kk, (cdI I e1 e2), L, wQQ q)) 1 rfl ?_
  refine tv_f (hx) ?_
  refine tv_b (pc' := 11) (ls' := [some (.ref 80), some (.int x), some (.int b)]) (st' := [.int x, .ref 80]) (h' := (n, sl, wKK kk, (cdI I e1 e2), L, wQQ q)) 2 rfl ?_
  refine tv_cv [.int x] [] rfl rfl (by omega) rfl (Nat.le_of_ble_eq_true rfl) (Nat.le_of_ble_eq_true rfl) (Or.inr (Or.inr rfl)) (tv_m_does hN hN10 hlo) ?_
  rintro rv9 h9 ⟨rfl, rfl⟩
  refine tv_b (pc' := (if ((wg lo hi x ((1 <<< ((nI N) &&& 31)) - 1 : Int32) (2 ^ N)).1) = 0 then 17 else 20)) (ls' := [some (.ref 80), some (.int x), some (.int b)]) (st' := []) (h' := (n, sl, wKK kk, (cdI I ((wg lo hi x ((1 <<< ((nI N) &&& 31)) - 1 : Int32) (2 ^ N)).2.1) ((wg lo hi x ((1 <<< ((nI N) &&& 31)) - 1 : Int32) (2 ^ N)).2.2)), L, wQQ q)) 1 rfl ?_
  refine tv_if (fun c14 => ?_) (fun c14 => ?_)
  · refine tv_b (pc' := 19) (ls' := [some (.ref 80), some (.int x), some (.int b)]) (st' := [.int (-2)]) (h' := (n, sl, wKK kk, (cdI I ((wg lo hi x ((1 <<< ((nI N) &&& 31)) - 1 : Int32) (2 ^ N)).2.1) ((wg lo hi x ((1 <<< ((nI N) &&& 31)) - 1 : Int32) (2 ^ N)).2.2)), L, wQQ q)) 1 rfl ?_
    exact tv_ri rfl ⟨by rw [if_pos c14], rfl⟩
  · refine tv_b (pc' := (if b = 0 then 31 else 24)) (ls' := [some (.ref 80), some (.int x), some (.int b)]) (st' := []) (h' := (n, sl, wKK kk, (cdI I ((wg lo hi x ((1 <<< ((nI N) &&& 31)) - 1 : Int32) (2 ^ N)).2.1) ((wg lo hi x ((1 <<< ((nI N) &&& 31)) - 1 : Int32) (2 ^ N)).2.2)), L, wQQ q)) 2 rfl ?_
    refine tv_if (fun c21 => ?_) (fun c21 => ?_)
    · refine tv_b (pc' := 35) (ls' := [some (.ref 80), some (.int x), some (.int b)]) (st' := [.int ((wg lo hi x ((1 <<< ((nI N) &&& 31)) - 1 : Int32) (2 ^ N)).2.2)]) (h' := (n, sl, wKK kk, (cdI I ((wg lo hi x ((1 <<< ((nI N) &&& 31)) - 1 : Int32) (2 ^ N)).2.1) ((wg lo hi x ((1 <<< ((nI N) &&& 31)) - 1 : Int32) (2 ^ N)).2.2)), L, wQQ q)) 2 rfl ?_
      exact tv_ri rfl ⟨by rw [if_neg c14, if_pos c21], rfl⟩
    · refine tv_b (pc' := 35) (ls' := [some (.ref 80), some (.int x), some (.int b)]) (st' := [.int ((wg lo hi x ((1 <<< ((nI N) &&& 31)) - 1 : Int32) (2 ^ N)).2.1)]) (h' := (n, sl, wKK kk, (cdI I ((wg lo hi x ((1 <<< ((nI N) &&& 31)) - 1 : Int32) (2 ^ N)).2.1) ((wg lo hi x ((1 <<< ((nI N) &&& 31)) - 1 : Int32) (2 ^ N)).2.2)), L, wQQ q)) 3 rfl ?_
      exact tv_ri rfl ⟨by rw [if_neg c14, if_neg c21], rfl⟩
theorem ev_m_lurchO {d n sl : Nat} {kk : Nat → Nat × Nat} {I : Nat → Nat → Int32} {L : Nat → Nat → Int64} {q : Nat → Nat → Option Nat} {x b : Int32} (hx : sp_m_isLurch x = 0) : am_Ev (d + 2) 242 0 (am_ent 3 [.ref 80, .int x, .int b]) [] (n, sl, wKK kk, I, L, wQQ q) (some (.int (-1)), (n, sl, wKK kk, I, L, wQQ q)) := by
  refine tv_ev ?_
  show am_T _ _ 0 [some (.ref 80), some (.int x), some (.int b)] _ _ _
  refine tv_b (pc' := 1) (ls' := [some (.ref 80), some (.int x), some (.int b)]) (st' := [.int x]) (h' := (n, sl, wKK kk, I, L, wQQ q)) 1 rfl ?_
  refine tv_csE [.int x] [] rfl rfl (by omega) rfl (Nat.le_of_ble_eq_true rfl) (Nat.le_of_ble_eq_true rfl) (ev_m_isLurch) ?_
  refine tv_b (pc' := (if (sp_m_isLurch x) = 0 then 7 else 9)) (ls' := [some (.ref 80), some (.int x), some (.int b)]) (st' := []) (h' := (n, sl, wKK kk, I, L, wQQ q)) 1 rfl ?_
  refine tv_t (hx) ?_
  refine tv_b (pc' := 8) (ls' := [some (.ref 80), some (.int x), some (.int b)]) (st' := [.int (-1)]) (h' := (n, sl, wKK kk, I, L, wQQ q)) 1 rfl ?_
  exact tv_ri rfl ⟨rfl, rfl⟩
theorem fin_77 {k n sl C : Nat} {kk : Nat → Nat × Nat} {q : Nat → Nat → Option Nat} {I J : Nat → Nat → Int32} {L : Nat → Nat → Int64} {ah : Nat → Nat} {M : Nat → List (Nat × Nat × List Nat)} {tx : Nat → Nat} {T : Nat} (hk : k ≤ 512) (g : gInv n kk q I L C ah M) (hr : rInv kk I tx T) (ht : tInv I) (hu : uInv I) (hs : sInv I) (hc : cInv J) (hj : jInv (201 * k) I C M) (hn : n ≤ 131 + 2 * k) (hsl : sl ≤ 231806 + 820 * k) (lo : ∀ j, (j ≠ 77 ∧ j ≠ 78 ∧ j ≠ 79 ∧ j ≠ 80 ∧ j ≠ 125 ∧ j ≠ 126) → J j = I j) (l8 : ∀ i, i ≠ 71 → i ≠ 74 → i ≠ 75 → J 80 i = I 80 i) : hInv (k + 1) (n, sl, wKK kk, J, L, wQQ q) := by
  have tf : tFr I J := ⟨fun j hj => lo j (by omega), l8 45 (by decide) (by decide) (by decide), l8 46 (by decide) (by decide) (by decide)⟩
  have h6 : rT6 I J := ⟨(lo 94 (by decide)).symm, (lo 95 (by decide)).symm, (lo 96 (by decide)).symm, (lo 97 (by decide)).symm⟩
  have hwz : ∀ d, watZ I d = watZ J d := fun d => by unfold watZ; rw [lo 100 (by decide), lo 101 (by decide)]
  have gg : gInv n kk q J L C ah M := gInv_t g tf (by
    unfold wfT
    rw [lo 94 (by decide), lo 95 (by decide), lo 96 (by decide), lo 97 (by decide), lo 98 (by decide), lo 99 (by decide), lo 100 (by decide)]
    exact g.1) (by
    unfold cTow
    rw [lo 8 (by decide), lo 9 (by decide), lo 10 (by decide), lo 11 (by decide), lo 12 (by decide), lo 14 (by decide), lo 94 (by decide), lo 95 (by decide), lo 96 (by decide), lo 97 (by decide), lo 98 (by decide), lo 99 (by decide)]
    exact g.2.2.1.1) (by
    unfold cWet
    rw [lo 2 (by decide), lo 100 (by decide), lo 101 (by decide)]
    exact g.2.2.1.2.1) (cDay_t tf g.2.2.1.2.2.2.2 (A := 400) (by decide) (fun R z1 z2 => by rw [lo 13 (by decide), Nat.min_eq_left z2]; exact z1) (fun _ => h6) (fun d z => hwz d))
  exact set_fin hr hn hsl (fun j hj => lo j (by omega)) (lo 57 (by decide)) (lo 58 (by decide)) (lo 81 (by decide)) (l8 1 (by decide) (by decide) (by decide)) (l8 10 (by decide) (by decide) (by decide)) (l8 11 (by decide) (by decide) (by decide)) gg (by unfold tInv; rw [lo 3 (by decide), lo 5 (by decide), lo 6 (by decide), lo 101 (by decide), lo 102 (by decide), lo 103 (by decide)]; exact ht) (by unfold uInv; rw [lo 65 (by decide), lo 66 (by decide), lo 67 (by decide), lo 104 (by decide), lo 105 (by decide), lo 106 (by decide)]; exact hu) (by unfold sInv; rw [l8 68 (by decide) (by decide) (by decide), lo 71 (by decide), lo 72 (by decide), lo 73 (by decide), lo 75 (by decide), lo 121 (by decide), lo 122 (by decide), lo 124 (by decide)]; exact hs) hc (jInv_t (by omega) hj g.2.1 g.2.2.1.2.2.1.2.1 tf h6 (fun d _ => hwz d) (by rw [lo 13 (by decide)]) (lo 60 (by decide)) (lo 63 (by decide)))
theorem ar_lurch {x : Int32} : sp_m_isLurch x = 0 ↔ ¬ (-1000000 ≤ x.toInt ∧ x.toInt ≤ 1000000) := ar_mi2 (A := -1000000) (B := 1000000) (a := -1000000) (b := 1000000) rfl rfl ⟨by decide, by decide⟩ ⟨by decide, by decide⟩
theorem ar_lurchx {x : Int32} : sp_isWithin x.toInt64 (-1000000) 1000000 = 0 ↔ ¬ (-1000000 ≤ x.toInt ∧ x.toInt ≤ 1000000) := ar_wi2 (A := -1000000) (B := 1000000) (a := -1000000) (b := 1000000) rfl rfl ⟨by decide, by decide⟩ ⟨by decide, by decide⟩
theorem jx_sets {x : Int32} : jx 144 (am_ent 2 [.ref 0, .int x]) 243 (am_ent 2 [.ref 80, .int x]) := by
  rintro k h hk ⟨n, sl, kk, I, L, q, rfl, C, ah, M, tx, T, g, hr, ht, hu, hs, hc, hj, hn, hsl⟩
  have same := h_same (q := q) hk g hr ht hu hs hc hj hn hsl
  obtain ⟨N, c1, c2, c3, c4, c5⟩ := hc
  obtain ⟨hW, hW10⟩ := sh_t N c1
  have hcl : (1 <<< (I 77 2 &&& 31) : Int32).toNatClampNeg = 2 ^ N := by rw [c2, hW, nI_clamp (by omega)]
  have e1 := ev_x_sets (d := 0) (n := n) (sl := sl) (k := kk) (q := q) (I := I) (L := L) (x := x) (by rw [hcl, c2, hW]) (by rw [hcl]; exact hW10)
  by_cases h : sp_isWithin x.toInt64 (-1000000) 1000000 = 0
  · unfold sp_x_sets sI_x_sets sL_x_sets at e1
    rw [if_pos h, if_pos h, if_pos h] at e1
    exact jx_e (d1 := 1) (d2 := 2) (by decide) (by decide) e1 (ev_m_setsO (d := 0) (ar_lurch.mpr (ar_lurchx.mp h))) same
  · have h' : ¬ sp_m_isLurch x = 0 := fun z => h (ar_lurchx.mpr (ar_lurch.mp z))
    unfold sp_x_sets sI_x_sets sL_x_sets at e1
    rw [if_neg h, if_neg h, if_neg h, sLe_c_weigh] at e1
    obtain ⟨w1, w2, w3, w4, w5⟩ := weigh_r (x := x) (L := L) c2 c1
    generalize sI_c_weigh x I L = J at w1 w2 w3 w4 w5 e1
    refine tv_e (ev_up (by decide) e1) ⟨_, Or.inl ⟨_, rfl⟩, rfl, ?_⟩
    refine tv_hI cd_self ?_
    refine tv_up (d := 2) (by decide) (tv_w (tv_m_sets (d := 0) (N := N) (lo := I 78) (hi := I 79) (by rw [w1 80 (by decide)]; exact c3) c1 (fun s hs => by rw [w1 125 (by decide), w1 126 (by decide)]; exact ⟨(c5 s hs).1.symm, (c5 s hs).2.symm⟩) h') (fun rv2 h2 ho => ?_))
    obtain ⟨rfl, rfl⟩ := ho
    refine ⟨?_, fin_77 (I := I) hk g hr ht hu hs ?_ hj hn hsl (fun j hj => by rw [cdI_o hj.2.2.2.1]; exact w1 j hj.1) (fun i h1 h2 h3 => by rw [cdI_8 h2 h3, w1 80 (by decide)])⟩
    · unfold sp_c_setCount
      rw [w3]
    · refine ⟨N, c1, by rw [cdI_o (by decide), w2]; exact c2, by rw [cdI_8 (by decide) (by decide), w1 80 (by decide)]; exact c3, ?_, ?_⟩
      · rw [cdI_o (j := 125) (by decide), cdI_o (j := 126) (by decide), w1 125 (by decide), w1 126 (by decide)]; exact c4
      · rw [cdI_o (j := 78) (by decide), cdI_o (j := 79) (by decide), cdI_o (j := 125) (by decide), cdI_o (j := 126) (by decide), w1 78 (by decide), w1 79 (by decide), w1 125 (by decide), w1 126 (by decide)]; exact c5
theorem jx_lurch {x b : Int32} : jx 143 (am_ent 3 [.ref 0, .int x, .int b]) 242 (am_ent 3 [.ref 80, .int x, .int b]) := by
  rintro k h hk ⟨n, sl, kk, I, L, q, rfl, C, ah, M, tx, T, g, hr, ht, hu, hs, hc, hj, hn, hsl⟩
  have same := h_same (q := q) hk g hr ht hu hs hc hj hn hsl
  obtain ⟨N, c1, c2, c3, c4, c5⟩ := hc
  obtain ⟨hW, hW10⟩ := sh_t N c1
  have hcl : (1 <<< (I 77 2 &&& 31) : Int32).toNatClampNeg = 2 ^ N := by rw [c2, hW, nI_clamp (by omega)]
  have e1 := ev_x_lurch (d := 0) (n := n) (sl := sl) (k := kk) (q := q) (I := I) (L := L) (x := x) (b := b) (by rw [hcl, c2, hW]) (by rw [hcl]; exact hW10)
  by_cases h : sp_isWithin x.toInt64 (-1000000) 1000000 = 0
  · unfold sp_x_lurch sI_x_lurch sL_x_lurch at e1
    rw [if_pos h, if_pos h, if_pos h] at e1
    exact jx_e (d1 := 1) (d2 := 2) (by decide) (by decide) e1 (ev_m_lurchO (d := 0) (ar_lurch.mpr (ar_lurchx.mp h))) same
  · have h' : ¬ sp_m_isLurch x = 0 := fun z => h (ar_lurchx.mpr (ar_lurch.mp z))
    unfold sp_x_lurch sI_x_lurch sL_x_lurch at e1
    rw [if_neg h, if_neg h, if_neg h, sLe_c_weigh] at e1
    obtain ⟨w1, w2, w3, w4, w5⟩ := weigh_r (x := x) (L := L) c2 c1
    generalize sI_c_weigh x I L = J at w1 w2 w3 w4 w5 e1
    refine tv_e (ev_up (by decide) e1) ⟨_, Or.inl ⟨_, rfl⟩, rfl, ?_⟩
    refine tv_hI cd_self ?_
    refine tv_up (d := 2) (by decide) (tv_w (tv_m_lurch (d := 0) (N := N) (lo := I 78) (hi := I 79) (by rw [w1 80 (by decide)]; exact c3) c1 (fun s hs => by rw [w1 125 (by decide), w1 126 (by decide)]; exact ⟨(c5 s hs).1.symm, (c5 s hs).2.symm⟩) h') (fun rv2 h2 ho => ?_))
    obtain ⟨rfl, rfl⟩ := ho
    refine ⟨?_, fin_77 (I := I) hk g hr ht hu hs ?_ hj hn hsl (fun j hj => by rw [cdI_o hj.2.2.2.1]; exact w1 j hj.1) (fun i h1 h2 h3 => by rw [cdI_8 h2 h3, w1 80 (by decide)])⟩
    · unfold sp_c_found
      rw [w3, w4, w5]
    · refine ⟨N, c1, by rw [cdI_o (by decide), w2]; exact c2, by rw [cdI_8 (by decide) (by decide), w1 80 (by decide)]; exact c3, ?_, ?_⟩
      · rw [cdI_o (j := 125) (by decide), cdI_o (j := 126) (by decide), w1 125 (by decide), w1 126 (by decide)]; exact c4
      · rw [cdI_o (j := 78) (by decide), cdI_o (j := 79) (by decide), cdI_o (j := 125) (by decide), cdI_o (j := 126) (by decide), w1 78 (by decide), w1 79 (by decide), w1 125 (by decide), w1 126 (by decide)]; exact c5
def ctP (x y : Int32) (W s : Nat) (I J : Nat → Nat → Int32) : Prop := (∀ j, j ≠ 78 → j ≠ 79 → J j = I j) ∧ (∀ t, J 78 t = if W ≤ t ∧ t < W + s then I 78 (t - W) + x else I 78 t) ∧ (∀ t, J 79 t = if W ≤ t ∧ t < W + s then I 79 (t - W) + y else I 79 t)
theorem ctP_s {x y : Int32} {W s : Nat} {I J : Nat → Nat → Int32} (h : ctP x y W s I J) (hs : s < W) : ctP x y W (s + 1) I (va_up (va_up J 78 (upd (J 78) (W + s) (J 78 s + x))) 79 (upd ((va_up J 78 (upd (J 78) (W + s) (J 78 s + x))) 79) (W + s) ((va_up J 78 (upd (J 78) (W + s) (J 78 s + x))) 79 s + y))) := by
  obtain ⟨h1, h2, h3⟩ := h
  have e8 := h2 s
  rw [if_neg (by omega)] at e8
  have e9 := h3 s
  rw [if_neg (by omega)] at e9
  have n9 : (va_up J 78 (upd (J 78) (W + s) (J 78 s + x))) 79 = J 79 := va_n1 (by decide)
  rw [n9, e8, e9]
  refine ⟨fun j j1 j2 => by rw [va_n1 j2, va_n1 j1]; exact h1 j j1 j2, fun t => ?_, fun t => ?_⟩
  · rw [va_n1 (by decide), va_e1]
    by_cases z : t = W + s
    · subst z
      rw [upd_e, if_pos ⟨by omega, by omega⟩, Nat.add_sub_cancel_left]
    · rw [upd_n z, h2 t]
      by_cases y : W ≤ t ∧ t < W + s
      · rw [if_pos y, if_pos ⟨y.1, by omega⟩]
      · rw [if_neg y, if_neg (by omega)]
  · rw [va_e1]
    by_cases z : t = W + s
    · subst z
      rw [upd_e, if_pos ⟨by omega, by omega⟩, Nat.add_sub_cancel_left]
    · rw [upd_n z, h3 t]
      by_cases y : W ≤ t ∧ t < W + s
      · rw [if_pos y, if_pos ⟨y.1, by omega⟩]
      · rw [if_neg y, if_neg (by omega)]
theorem tv_c_tellL {d n sl : Nat} {kk : Nat → Nat × Nat} {I : Nat → Nat → Int32} {L : Nat → Nat → Int64} {q : Nat → Nat → Option Nat} {x y : Int32} {N : Nat} (h2 : I 77 2 = nI N) (hN : N < 10) : ∀ m s : Nat, s + m = 2 ^ N → ∀ J : Nat → Nat → Int32, ctP x y (2 ^ N) s I J → am_T d 17 28 [some (.ref 77), some (.int x), some (.int y), some (.int (nI (2 ^ N))), some (.int (nI s))] [] (n, sl, wKK kk, J, L, wQQ q) (fun rv h' => rv = some (.int (nI N + 1 - 1)) ∧ ∃ J1, h' = (n, sl, wKK kk, va_up J1 77 (upd (J1 77) 2 (nI N + 1)), L, wQQ q) ∧ ctP x y (2 ^ N) (2 ^ N) I J1) := by
  have hW10 : 2 ^ N ≤ 512 := Nat.pow_le_pow_right (n := 2) (by decide) (show N ≤ 9 by omega)
  intro m
  induction m with
  | zero =>
    intro s hs J hP
    have hs2 : s = 2 ^ N := by omega
    subst hs2
    have hJ : J 77 2 = nI N := by rw [hP.1 77 (by decide) (by decide)]; exact h2
    show am_T _ _ 28 [some (.ref 77), some (.int x), some (.int y), some (.int (nI (2 ^ N))), some (.int (nI (2 ^ N)))] _ _ _
    refine tv_b (pc' := (if (nI (2 ^ N)) ≤ (nI (2 ^ N)) then 76 else 34)) (ls' := [some (.ref 77), some (.int x), some (.int y), some (.int (nI (2 ^ N))), some (.int (nI (2 ^ N)))]) (st' := []) (h' := (n, sl, wKK kk, J, L, wQQ q)) 3 rfl ?_
    refine tv_t ((nI_leI (a := (2 ^ N)) (b := (2 ^ N)) (by omega) (by omega)).mpr (Nat.le_refl _)) ?_
    refine tv_b (pc' := 81) (ls' := [some (.ref 77), some (.int x), some (.int y), some (.int (nI (2 ^ N))), some (.int (nI (2 ^ N)))]) (st' := [.int (J 77 2), .ref 77]) (h' := (n, sl, wKK kk, J, L, wQQ q)) 3 rfl ?_
    refine tv_top (hJ) ?_
    refine tv_b (pc' := 86) (ls' := [some (.ref 77), some (.int x), some (.int y), some (.int (nI (2 ^ N))), some (.int (nI (2 ^ N)))]) (st' := []) (h' := (n, sl, wKK kk, va_up J 77 (upd (J 77) 2 ((nI N) + 1)), L, wQQ q)) 3 rfl ?_
    refine tv_b (pc' := 90) (ls' := [some (.ref 77), some (.int x), some (.int y), some (.int (nI (2 ^ N))), some (.int (nI (2 ^ N)))]) (st' := [.int ((va_up J 77 (upd (J 77) 2 ((nI N) + 1))) 77 2)]) (h' := (n, sl, wKK kk, va_up J 77 (upd (J 77) 2 ((nI N) + 1)), L, wQQ q)) 2 rfl ?_
    refine tv_top (show _ = nI N + 1 by rw [va_e1, upd_e]) ?_
    refine tv_b (pc' := 92) (ls' := [some (.ref 77), some (.int x), some (.int y), some (.int (nI (2 ^ N))), some (.int (nI (2 ^ N)))]) (st' := [.int ((nI N + 1) - 1)]) (h' := (n, sl, wKK kk, va_up J 77 (upd (J 77) 2 ((nI N) + 1)), L, wQQ q)) 2 rfl ?_
    exact tv_ri rfl ⟨rfl, J, rfl, hP⟩
  | succ m ih =>
    intro s hs J hP
    have hsW : s < 2 ^ N := by omega
    show am_T _ _ 28 [some (.ref 77), some (.int x), some (.int y), some (.int (nI (2 ^ N))), some (.int (nI s))] _ _ _
    refine tv_b (pc' := (if (nI (2 ^ N)) ≤ (nI s) then 76 else 34)) (ls' := [some (.ref 77), some (.int x), some (.int y), some (.int (nI (2 ^ N))), some (.int (nI s))]) (st' := []) (h' := (n, sl, wKK kk, J, L, wQQ q)) 3 rfl ?_
    refine tv_f (fun hq => absurd ((nI_leI (a := (2 ^ N)) (b := s) (by omega) (by omega)).mp hq) (by omega)) ?_
    refine tv_b (pc' := 41) (ls' := [some (.ref 77), some (.int x), some (.int y), some (.int (nI (2 ^ N))), some (.int (nI s))]) (st' := [.int (nI s), .int (nI (2 ^ N)), .ref 78]) (h' := (n, sl, wKK kk, J, L, wQQ q)) 4 rfl ?_
    refine tv_b (pc' := 42) (ls' := [some (.ref 77), some (.int x), some (.int y), some (.int (nI (2 ^ N))), some (.int (nI s))]) (st' := [.int ((nI (2 ^ N)) + (nI s)), .ref 78]) (h' := (n, sl, wKK kk, J, L, wQQ q)) 1 rfl ?_
    refine tv_top (show (nI (2 ^ N)) + (nI s) = nI ((2 ^ N) + s) from nI_add (2 ^ N) s) ?_
    refine tv_b (pc' := 48) (ls' := [some (.ref 77), some (.int x), some (.int y), some (.int (nI (2 ^ N))), some (.int (nI s))]) (st' := [.int (nI s), .ref 78, .int (nI ((2 ^ N) + s)), .ref 78]) (h' := (n, sl, wKK kk, J, L, wQQ q)) 3 rfl ?_
    refine tv_ialN (k := s) rfl (rfl) (⟨by omega, by omega⟩) ?_
    refine tv_b (pc' := 51) (ls' := [some (.ref 77), some (.int x), some (.int y), some (.int (nI (2 ^ N))), some (.int (nI s))]) (st' := [.int ((J 78 s) + x), .int (nI ((2 ^ N) + s)), .ref 78]) (h' := (n, sl, wKK kk, J, L, wQQ q)) 2 rfl ?_
    refine tv_iasN (k := ((2 ^ N) + s)) rfl (rfl) (⟨by omega, by omega⟩) ?_
    refine tv_b (pc' := 59) (ls' := [some (.ref 77), some (.int x), some (.int y), some (.int (nI (2 ^ N))), some (.int (nI s))]) (st' := [.int (nI s), .int (nI (2 ^ N)), .ref 79]) (h' := (n, sl, wKK kk, va_up J 78 (upd (J 78) ((2 ^ N) + s) ((J 78 s) + x)), L, wQQ q)) 4 rfl ?_
    refine tv_b (pc' := 60) (ls' := [some (.ref 77), some (.int x), some (.int y), some (.int (nI (2 ^ N))), some (.int (nI s))]) (st' := [.int ((nI (2 ^ N)) + (nI s)), .ref 79]) (h' := (n, sl, wKK kk, va_up J 78 (upd (J 78) ((2 ^ N) + s) ((J 78 s) + x)), L, wQQ q)) 1 rfl ?_
    refine tv_top (show (nI (2 ^ N)) + (nI s) = nI ((2 ^ N) + s) from nI_add (2 ^ N) s) ?_
    refine tv_b (pc' := 66) (ls' := [some (.ref 77), some (.int x), some (.int y), some (.int (nI (2 ^ N))), some (.int (nI s))]) (st' := [.int (nI s), .ref 79, .int (nI ((2 ^ N) + s)), .ref 79]) (h' := (n, sl, wKK kk, va_up J 78 (upd (J 78) ((2 ^ N) + s) ((J 78 s) + x)), L, wQQ q)) 3 rfl ?_
    refine tv_ialN (k := s) rfl (rfl) (⟨by omega, by omega⟩) ?_
    refine tv_b (pc' := 69) (ls' := [some (.ref 77), some (.int x), some (.int y), some (.int (nI (2 ^ N))), some (.int (nI s))]) (st' := [.int (((va_up J 78 (upd (J 78) ((2 ^ N) + s) ((J 78 s) + x))) 79 s) + y), .int (nI ((2 ^ N) + s)), .ref 79]) (h' := (n, sl, wKK kk, va_up J 78 (upd (J 78) ((2 ^ N) + s) ((J 78 s) + x)), L, wQQ q)) 2 rfl ?_
    refine tv_iasN (k := ((2 ^ N) + s)) rfl (rfl) (⟨by omega, by omega⟩) ?_
    refine tv_iincN (k := s) (ls' := [some (.ref 77), some (.int x), some (.int y), some (.int (nI (2 ^ N))), some (.int (nI (s + 1)))]) rfl rfl rfl ?_
    refine tv_b (pc' := 28) (ls' := [some (.ref 77), some (.int x), some (.int y), some (.int (nI (2 ^ N))), some (.int (nI (s + 1)))]) (st' := []) (h' := (n, sl, wKK kk, va_up (va_up J 78 (upd (J 78) ((2 ^ N) + s) ((J 78 s) + x))) 79 (upd (va_up J 78 (upd (J 78) ((2 ^ N) + s) ((J 78 s) + x)) 79) ((2 ^ N) + s) (((va_up J 78 (upd (J 78) ((2 ^ N) + s) ((J 78 s) + x))) 79 s) + y)), L, wQQ q)) 1 rfl ?_
    exact ih (s + 1) (by omega) _ (ctP_s hP hsW)
theorem tv_c_tell {d n sl : Nat} {kk : Nat → Nat × Nat} {I : Nat → Nat → Int32} {L : Nat → Nat → Int64} {q : Nat → Nat → Option Nat} {x y : Int32} {N : Nat} (h2 : I 77 2 = nI N) (hN : N < 10) : am_T d 17 0 (am_ent 5 [.ref 77, .int x, .int y]) [] (n, sl, wKK kk, I, L, wQQ q) (fun rv h' => rv = some (.int (nI N + 1 - 1)) ∧ ∃ J1, h' = (n, sl, wKK kk, va_up J1 77 (upd (J1 77) 2 (nI N + 1)), L, wQQ q) ∧ ctP x y (2 ^ N) (2 ^ N) I J1) := by
  obtain ⟨hW, hW10⟩ := sh_t N (by omega)
  show am_T _ _ 0 [some (.ref 77), some (.int x), some (.int y), none, none] _ _ _
  refine tv_b (pc' := 4) (ls' := [some (.ref 77), some (.int x), some (.int y), none, none]) (st' := [.int (I 77 2)]) (h' := (n, sl, wKK kk, I, L, wQQ q)) 2 rfl ?_
  refine tv_top (h2) ?_
  refine tv_b (pc' := (if (nI N) < 0 then 16 else 7)) (ls' := [some (.ref 77), some (.int x), some (.int y), none, none]) (st' := []) (h' := (n, sl, wKK kk, I, L, wQQ q)) 1 rfl ?_
  refine tv_f (nI_nlt (b := 0) (by omega) (by omega)) ?_
  refine tv_b (pc' := 11) (ls' := [some (.ref 77), some (.int x), some (.int y), none, none]) (st' := [.int (I 77 2)]) (h' := (n, sl, wKK kk, I, L, wQQ q)) 2 rfl ?_
  refine tv_top (h2) ?_
  refine tv_b (pc' := (if (nI N) < 10 then 18 else 16)) (ls' := [some (.ref 77), some (.int x), some (.int y), none, none]) (st' := []) (h' := (n, sl, wKK kk, I, L, wQQ q)) 2 rfl ?_
  refine tv_t ((nI_ltI (a := N) (b := 10) (by omega) (by omega)).mpr (by omega)) ?_
  refine tv_b (pc' := 23) (ls' := [some (.ref 77), some (.int x), some (.int y), none, none]) (st' := [.int (I 77 2), .int 1]) (h' := (n, sl, wKK kk, I, L, wQQ q)) 3 rfl ?_
  refine tv_top (h2) ?_
  refine tv_b (pc' := 24) (ls' := [some (.ref 77), some (.int x), some (.int y), none, none]) (st' := [.int (1 <<< ((nI N) &&& 31))]) (h' := (n, sl, wKK kk, I, L, wQQ q)) 1 rfl ?_
  refine tv_top (show _ = nI (2 ^ N) from hW) ?_
  refine tv_b (pc' := 28) (ls' := [some (.ref 77), some (.int x), some (.int y), some (.int (nI (2 ^ N))), some (.int 0)]) (st' := []) (h' := (n, sl, wKK kk, I, L, wQQ q)) 3 rfl ?_
  exact tv_c_tellL h2 hN (2 ^ N) 0 (Nat.zero_add _) I ⟨fun _ _ _ => rfl, fun t => by rw [if_neg (by omega)], fun t => by rw [if_neg (by omega)]⟩
theorem ev_c_tell10 {d n sl : Nat} {kk : Nat → Nat × Nat} {I : Nat → Nat → Int32} {L : Nat → Nat → Int64} {q : Nat → Nat → Option Nat} {x y : Int32} (h2 : I 77 2 = nI 10) : am_Ev d 17 0 (am_ent 5 [.ref 77, .int x, .int y]) [] (n, sl, wKK kk, I, L, wQQ q) (some (.int (-1)), (n, sl, wKK kk, I, L, wQQ q)) := by
  refine tv_ev ?_
  show am_T _ _ 0 [some (.ref 77), some (.int x), some (.int y), none, none] _ _ _
  refine tv_b (pc' := 4) (ls' := [some (.ref 77), some (.int x), some (.int y), none, none]) (st' := [.int (I 77 2)]) (h' := (n, sl, wKK kk, I, L, wQQ q)) 2 rfl ?_
  refine tv_top (h2) ?_
  refine tv_b (pc' := 11) (ls' := [some (.ref 77), some (.int x), some (.int y), none, none]) (st' := [.int (I 77 2)]) (h' := (n, sl, wKK kk, I, L, wQQ q)) 3 rfl ?_
  refine tv_top (h2) ?_
  refine tv_b (pc' := 17) (ls' := [some (.ref 77), some (.int x), some (.int y), none, none]) (st' := [.int (-1)]) (h' := (n, sl, wKK kk, I, L, wQQ q)) 3 rfl ?_
  exact tv_ri rfl ⟨rfl, rfl⟩
theorem ev_x_causeO {d n sl : Nat} {kk : Nat → Nat × Nat} {I : Nat → Nat → Int32} {L : Nat → Nat → Int64} {q : Nat → Nat → Option Nat} {x y : Int32} (hx : sp_isWithin x.toInt64 (-1000000) 1000000 = 0 ∨ sp_isWithin y.toInt64 (-1000000) 1000000 = 0 ∨ ¬ x ≤ y) : am_Ev (d + 2) 141 0 (am_ent 3 [.ref 0, .int x, .int y]) [] (n, sl, wKK kk, I, L, wQQ q) (some (.int (-1)), (n, sl, wKK kk, I, L, wQQ q)) := by
  refine tv_ev ?_
  show am_T _ _ 0 [some (.ref 0), some (.int x), some (.int y)] _ _ _
  refine tv_b (pc' := 8) (ls' := [some (.ref 0), some (.int x), some (.int y)]) (st' := [.long 1000000, .long (-1000000), .long x.toInt64]) (h' := (n, sl, wKK kk, I, L, wQQ q)) 4 rfl ?_
  refine tv_csE [.long x.toInt64, .long (-1000000), .long 1000000] [] rfl rfl (by omega) rfl (Nat.le_of_ble_eq_true rfl) (Nat.le_of_ble_eq_true rfl) (ev_isWithin) ?_
  refine tv_b (pc' := (if (sp_isWithin x.toInt64 (-1000000) 1000000) = 0 then 33 else 14)) (ls' := [some (.ref 0), some (.int x), some (.int y)]) (st' := []) (h' := (n, sl, wKK kk, I, L, wQQ q)) 1 rfl ?_
  refine tv_if (fun c11 => ?_) (fun c11 => ?_)
  · refine tv_b (pc' := 34) (ls' := [some (.ref 0), some (.int x), some (.int y)]) (st' := [.int (-1)]) (h' := (n, sl, wKK kk, I, L, wQQ q)) 1 rfl ?_
    exact tv_ri rfl ⟨rfl, rfl⟩
  · refine tv_b (pc' := 22) (ls' := [some (.ref 0), some (.int x), some (.int y)]) (st' := [.long 1000000, .long (-1000000), .long y.toInt64]) (h' := (n, sl, wKK kk, I, L, wQQ q)) 4 rfl ?_
    refine tv_csE [.long y.toInt64, .long (-1000000), .long 1000000] [] rfl rfl (by omega) rfl (Nat.le_of_ble_eq_true rfl) (Nat.le_of_ble_eq_true rfl) (ev_isWithin) ?_
    refine tv_b (pc' := (if (sp_isWithin y.toInt64 (-1000000) 1000000) = 0 then 33 else 28)) (ls' := [some (.ref 0), some (.int x), some (.int y)]) (st' := []) (h' := (n, sl, wKK kk, I, L, wQQ q)) 1 rfl ?_
    refine tv_if (fun c25 => ?_) (fun c25 => ?_)
    · refine tv_b (pc' := 34) (ls' := [some (.ref 0), some (.int x), some (.int y)]) (st' := [.int (-1)]) (h' := (n, sl, wKK kk, I, L, wQQ q)) 1 rfl ?_
      exact tv_ri rfl ⟨rfl, rfl⟩
    · refine tv_b (pc' := (if x ≤ y then 35 else 33)) (ls' := [some (.ref 0), some (.int x), some (.int y)]) (st' := []) (h' := (n, sl, wKK kk, I, L, wQQ q)) 3 rfl ?_
      refine tv_if (fun c30 => ?_) (fun c30 => ?_)
      · exact absurd hx (fun z => z.elim c11 (fun z => z.elim c25 (fun z => z c30)))
      · refine tv_b (pc' := 34) (ls' := [some (.ref 0), some (.int x), some (.int y)]) (st' := [.int (-1)]) (h' := (n, sl, wKK kk, I, L, wQQ q)) 1 rfl ?_
        exact tv_ri rfl ⟨rfl, rfl⟩
theorem tv_x_cause {d n sl : Nat} {kk : Nat → Nat × Nat} {I : Nat → Nat → Int32} {L : Nat → Nat → Int64} {q : Nat → Nat → Option Nat} {x y : Int32} {P : Option Value → am_H → Prop} (h1 : ¬ sp_isWithin x.toInt64 (-1000000) 1000000 = 0) (h2 : ¬ sp_isWithin y.toInt64 (-1000000) 1000000 = 0) (h3 : x ≤ y) (hP : ∀ rv h1, P rv h1 → ∃ z, rv = some (.int z)) (h : am_T (d + 1) 17 0 (am_ent 5 [.ref 77, .int x, .int y]) [] (n, sl, wKK kk, I, L, wQQ q) P) : am_T (d + 2) 141 0 (am_ent 3 [.ref 0, .int x, .int y]) [] (n, sl, wKK kk, I, L, wQQ q) P := by
  show am_T _ _ 0 [some (.ref 0), some (.int x), some (.int y)] _ _ _
  refine tv_b (pc' := 8) (ls' := [some (.ref 0), some (.int x), some (.int y)]) (st' := [.long 1000000, .long (-1000000), .long x.toInt64]) (h' := (n, sl, wKK kk, I, L, wQQ q)) 4 rfl ?_
  refine tv_csE [.long x.toInt64, .long (-1000000), .long 1000000] [] rfl rfl (by omega) rfl (Nat.le_of_ble_eq_true rfl) (Nat.le_of_ble_eq_true rfl) (ev_isWithin) ?_
  refine tv_b (pc' := (if (sp_isWithin x.toInt64 (-1000000) 1000000) = 0 then 33 else 14)) (ls' := [some (.ref 0), some (.int x), some (.int y)]) (st' := []) (h' := (n, sl, wKK kk, I, L, wQQ q)) 1 rfl ?_
  refine tv_f (h1) ?_
  refine tv_b (pc' := 22) (ls' := [some (.ref 0), some (.int x), some (.int y)]) (st' := [.long 1000000, .long (-1000000), .long y.toInt64]) (h' := (n, sl, wKK kk, I, L, wQQ q)) 4 rfl ?_
  refine tv_csE [.long y.toInt64, .long (-1000000), .long 1000000] [] rfl rfl (by omega) rfl (Nat.le_of_ble_eq_true rfl) (Nat.le_of_ble_eq_true rfl) (ev_isWithin) ?_
  refine tv_b (pc' := (if (sp_isWithin y.toInt64 (-1000000) 1000000) = 0 then 33 else 28)) (ls' := [some (.ref 0), some (.int x), some (.int y)]) (st' := []) (h' := (n, sl, wKK kk, I, L, wQQ q)) 1 rfl ?_
  refine tv_f (h2) ?_
  refine tv_b (pc' := (if x ≤ y then 35 else 33)) (ls' := [some (.ref 0), some (.int x), some (.int y)]) (st' := []) (h' := (n, sl, wKK kk, I, L, wQQ q)) 3 rfl ?_
  refine tv_t (h3) ?_
  refine tv_b (pc' := 41) (ls' := [some (.ref 0), some (.int x), some (.int y)]) (st' := [.int y, .int x, .ref 77]) (h' := (n, sl, wKK kk, I, L, wQQ q)) 4 rfl ?_
  refine tv_cv [.int x, .int y] [] rfl rfl (by omega) rfl (Nat.le_of_ble_eq_true rfl) (Nat.le_of_ble_eq_true rfl) (Or.inr (Or.inr rfl)) (h) ?_
  intro rv9 h9 hp
  obtain ⟨z, rfl⟩ := hP _ _ hp
  exact tv_ri rfl hp
theorem ev_m_causeO {d n sl : Nat} {kk : Nat → Nat × Nat} {I : Nat → Nat → Int32} {L : Nat → Nat → Int64} {q : Nat → Nat → Option Nat} {x y : Int32} (hx : sp_m_is x (-1000000) 1000000 = 0 ∨ sp_m_is y x 1000000 = 0 ∨ I 80 71 = 10) : am_Ev (d + 2) 238 0 (am_ent 3 [.ref 80, .int x, .int y]) [] (n, sl, wKK kk, I, L, wQQ q) (some (.int (-1)), (n, sl, wKK kk, I, L, wQQ q)) := by
  refine tv_ev ?_
  show am_T _ _ 0 [some (.ref 80), some (.int x), some (.int y)] _ _ _
  refine tv_b (pc' := 6) (ls' := [some (.ref 80), some (.int x), some (.int y)]) (st' := [.int 1000000, .int (-1000000), .int x]) (h' := (n, sl, wKK kk, I, L, wQQ q)) 3 rfl ?_
  refine tv_csE [.int x, .int (-1000000), .int 1000000] [] rfl rfl (by omega) rfl (Nat.le_of_ble_eq_true rfl) (Nat.le_of_ble_eq_true rfl) (ev_m_is) ?_
  refine tv_b (pc' := (if (sp_m_is x (-1000000) 1000000) = 0 then 31 else 12)) (ls' := [some (.ref 80), some (.int x), some (.int y)]) (st' := []) (h' := (n, sl, wKK kk, I, L, wQQ q)) 1 rfl ?_
  refine tv_if (fun c9 => ?_) (fun c9 => ?_)
  · refine tv_b (pc' := 32) (ls' := [some (.ref 80), some (.int x), some (.int y)]) (st' := [.int (-1)]) (h' := (n, sl, wKK kk, I, L, wQQ q)) 1 rfl ?_
    exact tv_ri rfl ⟨rfl, rfl⟩
  · refine tv_b (pc' := 16) (ls' := [some (.ref 80), some (.int x), some (.int y)]) (st' := [.int 1000000, .int x, .int y]) (h' := (n, sl, wKK kk, I, L, wQQ q)) 3 rfl ?_
    refine tv_csE [.int y, .int x, .int 1000000] [] rfl rfl (by omega) rfl (Nat.le_of_ble_eq_true rfl) (Nat.le_of_ble_eq_true rfl) (ev_m_is) ?_
    refine tv_b (pc' := (if (sp_m_is y x 1000000) = 0 then 31 else 22)) (ls' := [some (.ref 80), some (.int x), some (.int y)]) (st' := []) (h' := (n, sl, wKK kk, I, L, wQQ q)) 1 rfl ?_
    refine tv_if (fun c19 => ?_) (fun c19 => ?_)
    · refine tv_b (pc' := 32) (ls' := [some (.ref 80), some (.int x), some (.int y)]) (st' := [.int (-1)]) (h' := (n, sl, wKK kk, I, L, wQQ q)) 1 rfl ?_
      exact tv_ri rfl ⟨rfl, rfl⟩
    · refine tv_b (pc' := (if (I 80 71) = 10 then 31 else 33)) (ls' := [some (.ref 80), some (.int x), some (.int y)]) (st' := []) (h' := (n, sl, wKK kk, I, L, wQQ q)) 4 rfl ?_
      refine tv_if (fun c28 => ?_) (fun c28 => ?_)
      · refine tv_b (pc' := 32) (ls' := [some (.ref 80), some (.int x), some (.int y)]) (st' := [.int (-1)]) (h' := (n, sl, wKK kk, I, L, wQQ q)) 1 rfl ?_
        exact tv_ri rfl ⟨rfl, rfl⟩
      · exact absurd hx (fun z => z.elim c9 (fun z => z.elim c19 c28))
theorem bsZ_n {f g : Nat → Int} {s t : Nat} : ∀ N, (∀ k, k < N → f k = g k) → (∀ k, k < N → s / 2 ^ k % 2 = t / 2 ^ k % 2) → bsZ f s N = bsZ g t N := by
  intro N
  induction N with
  | zero => intro _ _; rfl
  | succ N ih =>
    intro h1 h2
    show bsZ f s N + (if s / 2 ^ N % 2 = 1 then f N else 0) = bsZ g t N + (if t / 2 ^ N % 2 = 1 then g N else 0)
    rw [ih (fun k hk => h1 k (by omega)) (fun k hk => h2 k (by omega)), h2 N (by omega), h1 N (by omega)]
theorem bit_hi {N k t : Nat} (h : k < N) : (2 ^ N + t) / 2 ^ k % 2 = t / 2 ^ k % 2 := by
  have e : 2 ^ N = 2 ^ k * (2 * 2 ^ (N - k - 1)) := by
    rw [← Nat.pow_succ', ← Nat.pow_add]
    congr 1
    omega
  rw [e, Nat.mul_add_div (Nat.two_pow_pos k)]
  omega
theorem cc_st {I J : Nat → Nat → Int32} {x : Int32} {N : Nat} {r r' : Nat} (h : ∀ t, J r t = if 2 ^ N ≤ t ∧ t < 2 ^ N + 2 ^ N then I r (t - 2 ^ N) + x else I r t) (hs : ∀ s, s < 2 ^ N → I r s = jI (bsZ (fun k => (I r' k).toInt) s N)) (hr' : J r' = upd (I r') N x) : ∀ s, s < 2 ^ (N + 1) → J r s = jI (bsZ (fun k => (J r' k).toInt) s (N + 1)) := by
  intro s hsl
  have h2 : 2 ^ (N + 1) = 2 ^ N + 2 ^ N := by rw [Nat.pow_succ]; omega
  rw [h2] at hsl
  have hk : ∀ k, k < N → (J r' k).toInt = (I r' k).toInt := fun k hk => by rw [hr', upd_n (by omega)]
  rw [h s]
  show _ = jI (bsZ (fun k => (J r' k).toInt) s N + (if s / 2 ^ N % 2 = 1 then (J r' N).toInt else 0))
  by_cases z : s < 2 ^ N
  · rw [if_neg (by omega), hs s z, Nat.div_eq_of_lt z, if_neg (by decide), Int.add_zero, bsZ_n (g := fun k => (I r' k).toInt) (t := s) N hk (fun _ _ => rfl)]
  · obtain ⟨t, rfl⟩ : ∃ t, s = 2 ^ N + t := ⟨s - 2 ^ N, by omega⟩
    have ht : t < 2 ^ N := by omega
    rw [if_pos ⟨by omega, by omega⟩, Nat.add_sub_cancel_left, hs t ht, Nat.add_div_left _ (Nat.two_pow_pos N), Nat.div_eq_of_lt ht, if_pos (by decide), hr', upd_e, ← jI_add, jI_self, bsZ_n (f := fun k => ((upd (I r') N x) k).toInt) (g := fun k => (I r' k).toInt) (s := 2 ^ N + t) (t := t) N (fun k hk => by rw [upd_n (by omega)]) (fun k hk => bit_hi hk)]
theorem jx_cause {x y : Int32} : jx 141 (am_ent 3 [.ref 0, .int x, .int y]) 238 (am_ent 3 [.ref 80, .int x, .int y]) := by
  rintro k h hk ⟨n, sl, kk, I, L, q, rfl, C, ah, M, tx, T, g, hr, ht, hu, hs, hc, hj, hn, hsl⟩
  have same := h_same (q := q) hk g hr ht hu hs hc hj hn hsl
  obtain ⟨N, c1, c2, c3, c4, c5⟩ := hc
  have m1 : sp_m_is x (-1000000) 1000000 = 0 ↔ ¬ (-1000000 ≤ x.toInt ∧ x.toInt ≤ 1000000) := ar_lurch
  have hx31 := x.toInt_lt
  have hx32 := x.le_toInt
  have m2 : sp_m_is y x 1000000 = 0 ↔ ¬ (x.toInt ≤ y.toInt ∧ y.toInt ≤ 1000000) := ar_mi2 (A := x) (B := 1000000) (a := x.toInt) (b := 1000000) (jI_self x).symm rfl ⟨by omega, by omega⟩ ⟨by decide, by decide⟩
  have hle : x ≤ y ↔ x.toInt ≤ y.toInt := Int32.le_iff_toInt_le
  have wx : sp_isWithin x.toInt64 (-1000000) 1000000 = 0 ↔ ¬ (-1000000 ≤ x.toInt ∧ x.toInt ≤ 1000000) := ar_lurchx
  have wy : sp_isWithin y.toInt64 (-1000000) 1000000 = 0 ↔ ¬ (-1000000 ≤ y.toInt ∧ y.toInt ≤ 1000000) := ar_lurchx
  by_cases h : sp_isWithin x.toInt64 (-1000000) 1000000 = 0 ∨ sp_isWithin y.toInt64 (-1000000) 1000000 = 0 ∨ ¬ x ≤ y
  · have h' : sp_m_is x (-1000000) 1000000 = 0 ∨ sp_m_is y x 1000000 = 0 ∨ I 80 71 = 10 := by
      rw [wx, wy, hle] at h
      rw [m1, m2]
      by_cases z : -1000000 ≤ x.toInt ∧ x.toInt ≤ 1000000
      · right; left
        omega
      · exact Or.inl z
    exact jx_e (d1 := 2) (d2 := 2) (by decide) (by decide) (ev_x_causeO (d := 0) h) (ev_m_causeO (d := 0) h') same
  · have n1 : ¬ sp_isWithin x.toInt64 (-1000000) 1000000 = 0 := fun z => h (Or.inl z)
    have n2 : ¬ sp_isWithin y.toInt64 (-1000000) 1000000 = 0 := fun z => h (Or.inr (Or.inl z))
    have n3 : x ≤ y := Classical.not_not.mp (fun z => h (Or.inr (Or.inr z)))
    have q1 := (nn_iff wx).mp n1
    have q2 := (nn_iff wy).mp n2
    have q3 := hle.mp n3
    by_cases hN : N = 10
    · subst hN
      exact tv_up (d := 2) (by decide) (tv_w (tv_x_cause (d := 0) (P := fun rv h1 => rv = some (.int (-1)) ∧ h1 = (n, sl, wKK kk, I, L, wQQ q)) n1 n2 n3 (fun rv h1 hp => ⟨_, hp.1⟩) (tv_e (ev_c_tell10 c2) ⟨rfl, rfl⟩)) (fun rv h1 hp => by
        obtain ⟨rfl, rfl⟩ := hp
        exact ⟨_, Or.inl ⟨_, rfl⟩, rfl, tv_e (ev_up (d := 2) (by decide) (ev_m_causeO (d := 0) (Or.inr (Or.inr (by rw [c3]; rfl))))) ⟨rfl, same⟩⟩))
    · have hN9 : N < 10 := by omega
      have h2N : 2 ^ N ≤ 512 := Nat.pow_le_pow_right (n := 2) (by decide) (show N ≤ 9 by omega)
      refine tv_up (d := 2) (by decide) (tv_w (tv_x_cause (d := 0) n1 n2 n3 (fun rv h1 hp => ⟨_, hp.1⟩) (tv_c_tell c2 hN9)) (fun rv h1 hp => ?_))
      obtain ⟨rfl, J1, rfl, p1, p2, p3⟩ := hp
      have j71 : va_up J1 77 (upd (J1 77) 2 (nI N + 1)) 80 71 = nI N := by rw [va_n1 (by decide), p1 80 (by decide) (by decide)]; exact c3
      have hcl : (nI N).toNatClampNeg = N := nI_clamp (by omega)
      have e2 := ev_m_cause (d := 0) (n := n) (sl := sl) (k := kk) (q := q) (I := va_up J1 77 (upd (J1 77) 2 (nI N + 1))) (L := L) (x := x) (y := y) (by rw [j71, hcl]; exact fun z => z.elim (nI_nlt (b := 0) (by omega) (by omega)) (by omega))
      have z1 : ¬ sp_m_is x (-1000000) 1000000 = 0 := (nn_iff m1).mpr q1
      have z2 : ¬ sp_m_is y x 1000000 = 0 := (nn_iff m2).mpr ⟨q3, q2.2⟩
      have z3 : ¬ nI N = 10 := fun z => hN ((nI_eqI (a := N) (b := 10) (by omega) (by omega)).mp z)
      have v1 : sp_m_cause x y (va_up J1 77 (upd (J1 77) 2 (nI N + 1))) L = nI N + 1 - 1 := by unfold sp_m_cause; rw [j71, if_neg z1, if_neg z2, if_neg z3]
      have v3 : sL_m_cause x y (va_up J1 77 (upd (J1 77) 2 (nI N + 1))) L = L := by unfold sL_m_cause; rw [j71, if_neg z1, if_neg z2, if_neg z3]
      have v2 : sI_m_cause x y (va_up J1 77 (upd (J1 77) 2 (nI N + 1))) L = va_up (va_up (va_up (va_up J1 77 (upd (J1 77) 2 (nI N + 1))) 125 (upd (I 125) N x)) 126 (upd (I 126) N y)) 80 (upd (I 80) 71 (nI N + 1)) := by
        unfold sI_m_cause
        rw [j71, if_neg z1, if_neg z2, if_neg z3, hcl]
        rw [show va_up J1 77 (upd (J1 77) 2 (nI N + 1)) 125 = I 125 by rw [va_n1 (by decide), p1 125 (by decide) (by decide)]]
        rw [show va_up (va_up J1 77 (upd (J1 77) 2 (nI N + 1))) 125 (upd (I 125) N x) 126 = I 126 by rw [va_n1 (by decide), va_n1 (by decide), p1 126 (by decide) (by decide)]]
        rw [show va_up (va_up (va_up J1 77 (upd (J1 77) 2 (nI N + 1))) 125 (upd (I 125) N x)) 126 (upd (I 126) N y) 80 = I 80 by rw [va_n1 (by decide), va_n1 (by decide), va_n1 (by decide), p1 80 (by decide) (by decide)]]
      rw [v1, v2, v3] at e2
      refine ⟨_, Or.inl ⟨_, rfl⟩, rfl, tv_e (ev_up (d := 1) (by decide) e2) ⟨rfl, ?_⟩⟩
      have lo : ∀ j, (j ≠ 77 ∧ j ≠ 78 ∧ j ≠ 79 ∧ j ≠ 80 ∧ j ≠ 125 ∧ j ≠ 126) → va_up (va_up (va_up (va_up J1 77 (upd (J1 77) 2 (nI N + 1))) 125 (upd (I 125) N x)) 126 (upd (I 126) N y)) 80 (upd (I 80) 71 (nI N + 1)) j = I j := fun j hj => by rw [va_n1 hj.2.2.2.1, va_n1 hj.2.2.2.2.2, va_n1 hj.2.2.2.2.1, va_n1 hj.1, p1 j hj.2.1 hj.2.2.1]
      have l80 : va_up (va_up (va_up (va_up J1 77 (upd (J1 77) 2 (nI N + 1))) 125 (upd (I 125) N x)) 126 (upd (I 126) N y)) 80 (upd (I 80) 71 (nI N + 1)) 80 = upd (I 80) 71 (nI N + 1) := by rw [va_e1]
      have l77 : va_up (va_up (va_up (va_up J1 77 (upd (J1 77) 2 (nI N + 1))) 125 (upd (I 125) N x)) 126 (upd (I 126) N y)) 80 (upd (I 80) 71 (nI N + 1)) 77 2 = nI (N + 1) := by rw [va_n1 (by decide), va_n1 (by decide), va_n1 (by decide), va_e1, upd_e]; exact nI_1 N
      have l125 : va_up (va_up (va_up (va_up J1 77 (upd (J1 77) 2 (nI N + 1))) 125 (upd (I 125) N x)) 126 (upd (I 126) N y)) 80 (upd (I 80) 71 (nI N + 1)) 125 = upd (I 125) N x := by rw [va_n1 (by decide), va_n1 (by decide), va_e1]
      have l126 : va_up (va_up (va_up (va_up J1 77 (upd (J1 77) 2 (nI N + 1))) 125 (upd (I 125) N x)) 126 (upd (I 126) N y)) 80 (upd (I 80) 71 (nI N + 1)) 126 = upd (I 126) N y := by rw [va_n1 (by decide), va_e1]
      have l78 : va_up (va_up (va_up (va_up J1 77 (upd (J1 77) 2 (nI N + 1))) 125 (upd (I 125) N x)) 126 (upd (I 126) N y)) 80 (upd (I 80) 71 (nI N + 1)) 78 = J1 78 := by rw [va_n1 (by decide), va_n1 (by decide), va_n1 (by decide), va_n1 (by decide)]
      have l79 : va_up (va_up (va_up (va_up J1 77 (upd (J1 77) 2 (nI N + 1))) 125 (upd (I 125) N x)) 126 (upd (I 126) N y)) 80 (upd (I 80) 71 (nI N + 1)) 79 = J1 79 := by rw [va_n1 (by decide), va_n1 (by decide), va_n1 (by decide), va_n1 (by decide)]
      generalize va_up (va_up (va_up (va_up J1 77 (upd (J1 77) 2 (nI N + 1))) 125 (upd (I 125) N x)) 126 (upd (I 126) N y)) 80 (upd (I 80) 71 (nI N + 1)) = J at lo l80 l77 l125 l126 l78 l79 ⊢
      have s1 := cc_st (I := I) (J := J) (r := 78) (r' := 125) (x := x) (N := N) (by rw [l78]; exact p2) (fun s hs => (c5 s hs).1) l125
      have s2 := cc_st (I := I) (J := J) (r := 79) (r' := 126) (x := y) (N := N) (by rw [l79]; exact p3) (fun s hs => (c5 s hs).2) l126
      refine fin_77 (I := I) hk g hr ht hu hs ⟨N + 1, by omega, l77, by rw [l80, upd_e]; exact nI_1 N, fun i hi => ?_, fun s hs => ⟨s1 s hs, s2 s hs⟩⟩ hj hn hsl lo (fun i h1 h2 h3 => by rw [l80, upd_n h1])
      rw [l125, l126]
      by_cases z : i = N
      · subst z
        rw [upd_e, upd_e]
        exact ⟨q1.1, q1.2, by omega, q2.2⟩
      · rw [upd_n z, upd_n z]
        exact c4 i (by omega)
