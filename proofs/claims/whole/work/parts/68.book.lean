/-! THE CLASS'S BOOK: what a work gives and takes -/
def updf (f : Nat → Bool) (n : Nat) (b : Bool) : Nat → Bool := fun m => if m = n then b else f m
def sgn (b : Bool) : Int := if b = true then 1 else -1
/-- an act of the class -/
def cAct (I X : Nat → Nat → Int32) (n a : Nat) : Prop := I a 0 = X 107 n ∧ I a 1 = X 108 n ∧ I a 7 = X 112 n ∧ (X 107 n = 0 → I a 2 = X 111 n ∧ I a 3 = 0 ∧ I a 4 = X 109 n ∧ I a 5 = X 110 n) ∧ (X 107 n = 1 → I a 2 = X 108 n ∧ I a 3 = X 109 n ∧ I a 4 = X 110 n) ∧ (X 107 n = 2 → I a 2 = X 108 n ∧ I a 3 = X 109 n ∧ I a 4 = 1) ∧ (X 107 n = 3 → I a 3 = X 109 n ∧ I a 4 = X 110 n)
theorem g_up {P : Nat → Prop} {dP : ∀ i, Decidable (P i)} {v : Nat → Int} {f : Nat → Bool} {n : Nat} {b : Bool} {C : Nat} (h1 : 1 ≤ n) (h2 : n ≤ C) (hf : f n = !b) : zS (fun i => if updf f n b (i + 1) = true ∧ P i then v i else 0) C = zS (fun i => if f (i + 1) = true ∧ P i then v i else 0) C + sgn b * (if P (n - 1) then v (n - 1) else 0) := by
  have h := zS_up (f := fun i => if f (i + 1) = true ∧ P i then v i else 0) (g := fun i => if updf f n b (i + 1) = true ∧ P i then v i else 0) (i := n - 1) (n := C) (by omega) (fun k hk hne => by
    have e : updf f n b (k + 1) = f (k + 1) := if_neg (by omega)
    simp only [e])
  rw [h]
  have e : updf f n b (n - 1 + 1) = b := if_pos (by omega)
  have e2 : f (n - 1 + 1) = !b := by rw [show n - 1 + 1 = n by omega]; exact hf
  simp only [e, e2]
  unfold sgn
  by_cases hP : P (n - 1)
  · cases b <;> simp [hP] <;> omega
  · simp [hP]
section G68
variable {X : Nat → Nat → Int32} {f : Nat → Bool} {n : Nat} {b : Bool}
theorem gT_up (h1 : 1 ≤ n) (h2 : n ≤ nC X) (hf : f n = !b) (d : Nat) : gT X (updf f n b) d = gT X f d + sgn b * (if X 107 n = 0 ∧ dyN X n ≤ d ∧ d ≤ thN X n then (X 109 n).toInt else 0) := by
  have h := g_up (P := fun i => X 107 (i + 1) = 0 ∧ dyN X (i + 1) ≤ d ∧ d ≤ thN X (i + 1)) (dP := fun i => inferInstance) (v := fun i => (X 109 (i + 1)).toInt) (f := f) (b := b) h1 h2 hf
  rw [show n - 1 + 1 = n by omega] at h
  exact h
theorem gM_up (h1 : 1 ≤ n) (h2 : n ≤ nC X) (hf : f n = !b) (d : Nat) : gM X (updf f n b) d = gM X f d + sgn b * (if X 107 n = 0 ∧ dyN X n ≤ d ∧ d ≤ thN X n then (X 109 n).toInt * (X 110 n).toInt else 0) := by
  have h := g_up (P := fun i => X 107 (i + 1) = 0 ∧ dyN X (i + 1) ≤ d ∧ d ≤ thN X (i + 1)) (dP := fun i => inferInstance) (v := fun i => (X 109 (i + 1)).toInt * (X 110 (i + 1)).toInt) (f := f) (b := b) h1 h2 hf
  rw [show n - 1 + 1 = n by omega] at h
  exact h
theorem gLd_up (h1 : 1 ≤ n) (h2 : n ≤ nC X) (hf : f n = !b) (d : Nat) : gLd X (updf f n b) d = gLd X f d + sgn b * (if X 107 n = 1 ∧ dyN X n = d then (X 110 n).toInt else 0) := by
  have h := g_up (P := fun i => X 107 (i + 1) = 1 ∧ dyN X (i + 1) = d) (dP := fun i => inferInstance) (v := fun i => (X 110 (i + 1)).toInt) (f := f) (b := b) h1 h2 hf
  rw [show n - 1 + 1 = n by omega] at h
  exact h
theorem gLi_up (h1 : 1 ≤ n) (h2 : n ≤ nC X) (hf : f n = !b) (c d : Nat) : gLi X (updf f n b) c d = gLi X f c d + sgn b * (if X 107 n = 1 ∧ dyN X n = d ∧ clN X n = c then (X 110 n).toInt else 0) := by
  have h := g_up (P := fun i => X 107 (i + 1) = 1 ∧ dyN X (i + 1) = d ∧ clN X (i + 1) = c) (dP := fun i => inferInstance) (v := fun i => (X 110 (i + 1)).toInt) (f := f) (b := b) h1 h2 hf
  rw [show n - 1 + 1 = n by omega] at h
  exact h
theorem gFr_up (h1 : 1 ≤ n) (h2 : n ≤ nC X) (hf : f n = !b) (c d : Nat) : gFr X (updf f n b) c d = gFr X f c d + sgn b * (if X 107 n = 2 ∧ dyN X n = d ∧ clN X n = c then 1 else 0) := by
  have h := g_up (P := fun i => X 107 (i + 1) = 2 ∧ dyN X (i + 1) = d ∧ clN X (i + 1) = c) (dP := fun i => inferInstance) (v := fun _ => 1) (f := f) (b := b) h1 h2 hf
  rw [show n - 1 + 1 = n by omega] at h
  exact h
end G68
theorem ev_a_isWork1 {d n sl : Nat} {kk : Nat → Nat × Nat} {I : Nat → Nat → Int32} {L : Nat → Nat → Int64} {q : Nat → Nat → Option Nat} {a : Nat} (ha : 131 ≤ a ∧ kk a = (0, 0)) (h : I a 0 = 0 ∨ I a 0 = 1 ∨ I a 0 = 2) : am_Ev d 3 0 (am_ent 1 [.ref a]) [] (n, sl, wKK kk, I, L, wQQ q) (some (.int 1), (n, sl, wKK kk, I, L, wQQ q)) := by
  have e := ev_a_isWork (d := d) (n := n) (sl := sl) (I := I) (L := L) (q := q) ha
  have e2 : sp_a_isWork a I L = 1 := by
    unfold sp_a_isWork
    rcases h with h | h | h <;> rw [h] <;> decide
  rw [e2] at e
  exact e
theorem ev_a_isWork0 {d n sl : Nat} {kk : Nat → Nat × Nat} {I : Nat → Nat → Int32} {L : Nat → Nat → Int64} {q : Nat → Nat → Option Nat} {a : Nat} (ha : 131 ≤ a ∧ kk a = (0, 0)) (h : I a 0 = 3 ∨ I a 0 = 4 ∨ I a 0 = 5) : am_Ev d 3 0 (am_ent 1 [.ref a]) [] (n, sl, wKK kk, I, L, wQQ q) (some (.int 0), (n, sl, wKK kk, I, L, wQQ q)) := by
  have e := ev_a_isWork (d := d) (n := n) (sl := sl) (I := I) (L := L) (q := q) ha
  have e2 : sp_a_isWork a I L = 0 := by
    unfold sp_a_isWork
    rcases h with h | h | h <;> rw [h] <;> decide
  rw [e2] at e
  exact e
theorem ev_areDays1 {d A B : Nat} {h : am_H} (h1 : A ≤ B) (h2 : B < 400) : am_Ev d 148 0 (am_ent 2 [.int (nI A), .int (nI B)]) [] h (some (.int 1), h) := by
  have e := ev_areDays (d := d) (h := h) (x := nI A) (y := nI B)
  have e2 : sp_areDays (nI A) (nI B) = 1 := by
    unfold sp_areDays
    rw [if_neg (nI_pos (by omega)), if_neg (nI_notlt h1 (by omega)), if_neg (show ¬ (400 : Int32) ≤ nI B from nI_ge (b := 400) (a := B) h2 (by omega))]
  rw [e2] at e
  exact e
theorem ev_isCol1 {d c : Nat} {h : am_H} (h1 : c < 16) : am_Ev d 149 0 (am_ent 1 [.int (nI c)]) [] h (some (.int 1), h) := by
  have e := ev_r_isCol (d := d) (h := h) (v := c) (by omega)
  rw [if_pos h1] at e
  exact e
theorem ev_isDayB {d c : Nat} {h : am_H} (h1 : c < 1000) : am_Ev d 147 0 (am_ent 1 [.int (nI c)]) [] h (some (.int (if c < 400 then 1 else 0)), h) := by
  have e := ev_isDay (d := d) (h := h) (x := nI c)
  have e2 : sp_isDay (nI c) = (if c < 400 then 1 else 0) := by
    unfold sp_isDay
    rw [if_neg (nI_pos (by omega))]
    by_cases h : c < 400
    · rw [if_pos h, if_neg (show ¬ (400 : Int32) ≤ nI c from nI_ge (b := 400) (a := c) h (by omega))]
    · rw [if_neg h, if_pos (show (400 : Int32) ≤ nI c from nI_le (a := 400) (by omega) (by omega))]
  rw [e2] at e
  exact e
/-- a row with x more on some days -/
def lrI (r : Nat → Int32) (A k : Nat) (x : Int32) : Nat → Int32 := fun d => if A ≤ d ∧ d < A + k then r d + x else r d
def lrL (r : Nat → Int64) (A k : Nat) (x : Int64) : Nat → Int64 := fun d => if A ≤ d ∧ d < A + k then r d + x else r d
theorem lrI_0 {r : Nat → Int32} {A : Nat} {x : Int32} : lrI r A 0 x = r := by funext d; unfold lrI; rw [if_neg (by omega)]
theorem lrL_0 {r : Nat → Int64} {A : Nat} {x : Int64} : lrL r A 0 x = r := by funext d; unfold lrL; rw [if_neg (by omega)]
theorem lrI_s {r : Nat → Int32} {A k : Nat} {x : Int32} : upd (lrI r A k x) (A + k) (lrI r A k x (A + k) + x) = lrI r A (k + 1) x := by
  funext d
  unfold lrI upd
  show (if d = A + k then (if A ≤ A + k ∧ A + k < A + k then r (A + k) + x else r (A + k)) + x else (if A ≤ d ∧ d < A + k then r d + x else r d)) = _
  by_cases e : d = A + k
  · subst e; rw [if_pos rfl, if_neg (by omega), if_pos (by omega)]
  · rw [if_neg e]
    by_cases c : A ≤ d ∧ d < A + k
    · rw [if_pos c, if_pos (by omega)]
    · rw [if_neg c, if_neg (by omega)]
theorem lrL_s {r : Nat → Int64} {A k : Nat} {x : Int64} : vp_updL (lrL r A k x) (A + k) (lrL r A k x (A + k) + x) = lrL r A (k + 1) x := by
  funext d
  unfold lrL vp_updL
  show (if d = A + k then (if A ≤ A + k ∧ A + k < A + k then r (A + k) + x else r (A + k)) + x else (if A ≤ d ∧ d < A + k then r d + x else r d)) = _
  by_cases e : d = A + k
  · subst e; rw [if_pos rfl, if_neg (by omega), if_pos (by omega)]
  · rw [if_neg e]
    by_cases c : A ≤ d ∧ d < A + k
    · rw [if_pos c, if_pos (by omega)]
    · rw [if_neg c, if_neg (by omega)]
def tkI (I : Nat → Nat → Int32) (r15 : Nat → Int32) (j i : Nat) : Int32 := cond (Nat.beq j 15) (r15 i) (I j i)
theorem tkI_nb : ∀ {i k : Nat}, ¬ i = k → Nat.beq i k = false := fun h => Bool.eq_false_iff.mpr (fun q => h (Nat.eq_of_beq_eq_true q))
theorem tkI_w_r15 {I : Nat → Nat → Int32} {r15 : Nat → Int32} {y : Int32} {k : Nat} : va_up (tkI I r15) 15 (upd ((tkI I r15) 15) k y) = tkI I (upd r15 k y) := by
  funext j i
  unfold va_up
  by_cases hj : j = 15
  · subst hj; rfl
  · rw [if_neg hj]; unfold tkI; simp only [tkI_nb hj, cond_false]
def tkL (L : Nat → Nat → Int64) (s16 : Nat → Int64) (j i : Nat) : Int64 := cond (Nat.beq j 16) (s16 i) (L j i)
theorem tkL_nb : ∀ {i k : Nat}, ¬ i = k → Nat.beq i k = false := fun h => Bool.eq_false_iff.mpr (fun q => h (Nat.eq_of_beq_eq_true q))
theorem tkL_w_s16 {L : Nat → Nat → Int64} {s16 : Nat → Int64} {y : Int64} {k : Nat} : va_up (tkL L s16) 16 (vp_updL ((tkL L s16) 16) k y) = tkL L (vp_updL s16 k y) := by
  funext j i
  unfold va_up
  by_cases hj : j = 16
  · subst hj; rfl
  · rw [if_neg hj]; unfold tkL; simp only [tkL_nb hj, cond_false]
theorem tkI_n {I : Nat → Nat → Int32} {r15 : Nat → Int32} {j : Nat} (h : j ≠ 15) : tkI I r15 j = I j := by
  funext i
  unfold tkI
  rw [rdI_nb h]
  rfl
theorem tkI_self {I : Nat → Nat → Int32} : I = tkI I (I 15) := by
  funext j i
  unfold tkI
  by_cases h : j = 15
  · subst h; rfl
  · rw [rdI_nb h]; rfl
theorem tkL_self {L : Nat → Nat → Int64} : L = tkL L (L 16) := by
  funext j i
  unfold tkL
  by_cases h : j = 16
  · subst h; rfl
  · rw [rdI_nb h]; rfl
theorem tkL_n {L : Nat → Nat → Int64} {s16 : Nat → Int64} {j : Nat} (h : j ≠ 16) : tkL L s16 j = L j := by
  funext i
  unfold tkL
  rw [rdI_nb h]
  rfl
theorem tv_d_tkL {d n sl : Nat} {kk : Nat → Nat × Nat} {I : Nat → Nat → Int32} {L : Nat → Nat → Int64} {q : Nat → Nat → Option Nat} {a A B : Nat} {sg mu ar : Int32} {r15 : Nat → Int32} {s16 : Nat → Int64} {Q : Option Value → am_H → Prop} (ha : 131 ≤ a ∧ kk a = (0, 0)) (h2 : I a 2 = nI B) (h4 : I a 4 = mu) (h5 : I a 5 = ar) (hAB : A ≤ B) (hB4 : B < 400) (k1 : am_T d 26 96 [some (.ref 13), some (.ref a), some (.int sg), some (.int (nI (A + (B + 1 - A))))] [] (n, sl, wKK kk, (tkI I (lrI r15 A (B + 1 - A) (sg * mu))), (tkL L (lrL s16 A (B + 1 - A) ((sg.toInt64 * mu.toInt64) * ar.toInt64))), wQQ q) Q) : ∀ m k : Nat, k + m = B + 1 - A → am_T d 26 44 [some (.ref 13), some (.ref a), some (.int sg), some (.int (nI (A + k)))] [] (n, sl, wKK kk, (tkI I (lrI r15 A (k) (sg * mu))), (tkL L (lrL s16 A (k) ((sg.toInt64 * mu.toInt64) * ar.toInt64))), wQQ q) Q := by
  intro m
  induction m with
  | zero =>
    intro k hk
    obtain rfl : k = B + 1 - A := by omega
    refine tv_b (pc' := 46) (ls' := [some (.ref 13), some (.ref a), some (.int sg), some (.int (nI (A + (B + 1 - A))))]) (st' := [.ref a, .int (nI (A + (B + 1 - A)))]) (h' := (n, sl, wKK kk, (tkI I (lrI r15 A (B + 1 - A) (sg * mu))), (tkL L (lrL s16 A (B + 1 - A) ((sg.toInt64 * mu.toInt64) * ar.toInt64))), wQQ q)) 2 rfl ?_
    refine tv_gfa rfl (Or.inl rfl) (am_acK ha) ?_
    refine tv_top (((congrFun (tkI_n (show a ≠ 15 by omega)) 2).trans h2)) ?_
    refine tv_b (pc' := (if (nI B) < (nI (A + (B + 1 - A))) then 96 else 52)) (ls' := [some (.ref 13), some (.ref a), some (.int sg), some (.int (nI (A + (B + 1 - A))))]) (st' := []) (h' := (n, sl, wKK kk, (tkI I (lrI r15 A (B + 1 - A) (sg * mu))), (tkL L (lrL s16 A (B + 1 - A) ((sg.toInt64 * mu.toInt64) * ar.toInt64))), wQQ q)) 1 rfl ?_
    refine tv_t ((nI_ltI (a := B) (b := (A + (B + 1 - A))) (by omega) (by omega)).mpr (by omega)) ?_
    exact k1
  | succ m ih =>
    intro k hk
    refine tv_b (pc' := 46) (ls' := [some (.ref 13), some (.ref a), some (.int sg), some (.int (nI (A + (k))))]) (st' := [.ref a, .int (nI (A + (k)))]) (h' := (n, sl, wKK kk, (tkI I (lrI r15 A (k) (sg * mu))), (tkL L (lrL s16 A (k) ((sg.toInt64 * mu.toInt64) * ar.toInt64))), wQQ q)) 2 rfl ?_
    refine tv_gfa rfl (Or.inl rfl) (am_acK ha) ?_
    refine tv_top (((congrFun (tkI_n (show a ≠ 15 by omega)) 2).trans h2)) ?_
    refine tv_b (pc' := (if (nI B) < (nI (A + (k))) then 96 else 52)) (ls' := [some (.ref 13), some (.ref a), some (.int sg), some (.int (nI (A + (k))))]) (st' := []) (h' := (n, sl, wKK kk, (tkI I (lrI r15 A (k) (sg * mu))), (tkL L (lrL s16 A (k) ((sg.toInt64 * mu.toInt64) * ar.toInt64))), wQQ q)) 1 rfl ?_
    refine tv_f (fun hq => absurd ((nI_ltI (a := B) (b := (A + (k))) (by omega) (by omega)).mp hq) (by omega)) ?_
    refine tv_b (pc' := 58) (ls' := [some (.ref 13), some (.ref a), some (.int sg), some (.int (nI (A + (k))))]) (st' := [.int (nI (A + (k))), .ref 15, .int (nI (A + (k))), .ref 15]) (h' := (n, sl, wKK kk, (tkI I (lrI r15 A (k) (sg * mu))), (tkL L (lrL s16 A (k) ((sg.toInt64 * mu.toInt64) * ar.toInt64))), wQQ q)) 4 rfl ?_
    refine tv_ialN (k := (A + (k))) rfl (rfl) (⟨by omega, by omega⟩) ?_
    refine tv_b (pc' := 61) (ls' := [some (.ref 13), some (.ref a), some (.int sg), some (.int (nI (A + (k))))]) (st' := [.ref a, .int sg, .int ((lrI r15 A (k) (sg * mu)) (A + (k))), .int (nI (A + (k))), .ref 15]) (h' := (n, sl, wKK kk, (tkI I (lrI r15 A (k) (sg * mu))), (tkL L (lrL s16 A (k) ((sg.toInt64 * mu.toInt64) * ar.toInt64))), wQQ q)) 2 rfl ?_
    refine tv_gfa rfl (Or.inl rfl) (am_acK ha) ?_
    refine tv_top (((congrFun (tkI_n (show a ≠ 15 by omega)) 4).trans h4)) ?_
    refine tv_b (pc' := 66) (ls' := [some (.ref 13), some (.ref a), some (.int sg), some (.int (nI (A + (k))))]) (st' := [.int (((lrI r15 A (k) (sg * mu)) (A + (k))) + (sg * mu)), .int (nI (A + (k))), .ref 15]) (h' := (n, sl, wKK kk, (tkI I (lrI r15 A (k) (sg * mu))), (tkL L (lrL s16 A (k) ((sg.toInt64 * mu.toInt64) * ar.toInt64))), wQQ q)) 2 rfl ?_
    refine tv_iasN (k := (A + (k))) rfl (rfl) (⟨by omega, by omega⟩) ?_
    refine tv_hI tkI_w_r15 ?_
    refine tv_b (pc' := 73) (ls' := [some (.ref 13), some (.ref a), some (.int sg), some (.int (nI (A + (k))))]) (st' := [.int (nI (A + (k))), .ref 16, .int (nI (A + (k))), .ref 16]) (h' := (n, sl, wKK kk, (tkI I (upd (lrI r15 A (k) (sg * mu)) (A + (k)) (((lrI r15 A (k) (sg * mu)) (A + (k))) + (sg * mu)))), (tkL L (lrL s16 A (k) ((sg.toInt64 * mu.toInt64) * ar.toInt64))), wQQ q)) 4 rfl ?_
    refine tv_lalN (k := (A + (k))) rfl (rfl) (⟨by omega, by omega⟩) ?_
    refine tv_b (pc' := 77) (ls' := [some (.ref 13), some (.ref a), some (.int sg), some (.int (nI (A + (k))))]) (st' := [.ref a, .long sg.toInt64, .long ((lrL s16 A (k) ((sg.toInt64 * mu.toInt64) * ar.toInt64)) (A + (k))), .int (nI (A + (k))), .ref 16]) (h' := (n, sl, wKK kk, (tkI I (upd (lrI r15 A (k) (sg * mu)) (A + (k)) (((lrI r15 A (k) (sg * mu)) (A + (k))) + (sg * mu)))), (tkL L (lrL s16 A (k) ((sg.toInt64 * mu.toInt64) * ar.toInt64))), wQQ q)) 3 rfl ?_
    refine tv_gfa rfl (Or.inl rfl) (am_acK ha) ?_
    refine tv_top (((congrFun (tkI_n (show a ≠ 15 by omega)) 4).trans h4)) ?_
    refine tv_b (pc' := 83) (ls' := [some (.ref 13), some (.ref a), some (.int sg), some (.int (nI (A + (k))))]) (st' := [.ref a, .long (sg.toInt64 * mu.toInt64), .long ((lrL s16 A (k) ((sg.toInt64 * mu.toInt64) * ar.toInt64)) (A + (k))), .int (nI (A + (k))), .ref 16]) (h' := (n, sl, wKK kk, (tkI I (upd (lrI r15 A (k) (sg * mu)) (A + (k)) (((lrI r15 A (k) (sg * mu)) (A + (k))) + (sg * mu)))), (tkL L (lrL s16 A (k) ((sg.toInt64 * mu.toInt64) * ar.toInt64))), wQQ q)) 3 rfl ?_
    refine tv_gfa rfl (Or.inl rfl) (am_acK ha) ?_
    refine tv_top (((congrFun (tkI_n (show a ≠ 15 by omega)) 5).trans h5)) ?_
    refine tv_b (pc' := 89) (ls' := [some (.ref 13), some (.ref a), some (.int sg), some (.int (nI (A + (k))))]) (st' := [.long (((lrL s16 A (k) ((sg.toInt64 * mu.toInt64) * ar.toInt64)) (A + (k))) + ((sg.toInt64 * mu.toInt64) * ar.toInt64)), .int (nI (A + (k))), .ref 16]) (h' := (n, sl, wKK kk, (tkI I (upd (lrI r15 A (k) (sg * mu)) (A + (k)) (((lrI r15 A (k) (sg * mu)) (A + (k))) + (sg * mu)))), (tkL L (lrL s16 A (k) ((sg.toInt64 * mu.toInt64) * ar.toInt64))), wQQ q)) 3 rfl ?_
    refine tv_lasN (k := (A + (k))) rfl (rfl) (⟨by omega, by omega⟩) ?_
    refine tv_hL tkL_w_s16 ?_
    refine tv_iincN (k := (A + (k))) (ls' := [some (.ref 13), some (.ref a), some (.int sg), some (.int (nI ((A + (k)) + 1)))]) rfl rfl rfl ?_
    refine tv_b (pc' := 44) (ls' := [some (.ref 13), some (.ref a), some (.int sg), some (.int (nI ((A + (k)) + 1)))]) (st' := []) (h' := (n, sl, wKK kk, (tkI I (upd (lrI r15 A (k) (sg * mu)) (A + (k)) (((lrI r15 A (k) (sg * mu)) (A + (k))) + (sg * mu)))), (tkL L (vp_updL (lrL s16 A (k) ((sg.toInt64 * mu.toInt64) * ar.toInt64)) (A + (k)) (((lrL s16 A (k) ((sg.toInt64 * mu.toInt64) * ar.toInt64)) (A + (k))) + ((sg.toInt64 * mu.toInt64) * ar.toInt64)))), wQQ q)) 1 rfl ?_
    have ih2 := ih (k + 1) (by omega)
    rw [← lrI_s, ← lrL_s] at ih2
    exact ih2
theorem cSum_no {X I : Nat → Nat → Int32} {L : Nat → Nat → Int64} {f : Nat → Bool} {n : Nat} {b : Bool} (h1 : 1 ≤ n) (h2 : n ≤ nC X) (hf : f n = !b) (hk : X 107 n ≠ 0 ∧ X 107 n ≠ 1 ∧ X 107 n ≠ 2) (hs : cSum I L X f) : cSum I L X (updf f n b) := by
  intro dd hdd
  obtain ⟨q1, q2, q3, q4⟩ := hs dd hdd
  refine ⟨?_, ?_, ?_, fun c hc => ?_⟩
  · rw [gT_up h1 h2 hf, if_neg (fun z => hk.1 z.1), Int.mul_zero, Int.add_zero]; exact q1
  · rw [gM_up h1 h2 hf, if_neg (fun z => hk.1 z.1), Int.mul_zero, Int.add_zero]; exact q2
  · rw [gLd_up h1 h2 hf, if_neg (fun z => hk.2.1 z.1), Int.mul_zero, Int.add_zero]; exact q3
  · have q5 := q4 c hc
    unfold wkZ at q5 ⊢
    rw [gLi_up h1 h2 hf, gFr_up h1 h2 hf, gFr_up h1 h2 hf, if_neg (show ¬ (X 107 n = 1 ∧ dyN X n = dd ∧ clN X n = c) from fun z => hk.2.1 z.1), if_neg (show ¬ (X 107 n = 2 ∧ dyN X n = dd ∧ clN X n = c) from fun z => hk.2.2 z.1), if_neg (show ¬ (X 107 n = 2 ∧ dyN X n = dd - 1 ∧ clN X n = c) from fun z => hk.2.2 z.1)]
    simp only [Int.mul_zero, Int.add_zero]
    exact q5
theorem cSum_fr {X I J : Nat → Nat → Int32} {L : Nat → Nat → Int64} {f : Nat → Bool} {n : Nat} {b : Bool} (h1 : 1 ≤ n) (h2 : n ≤ nC X) (hf : f n = !b) (hk : X 107 n = 2) (hs : cSum I L X f) (e15 : J 15 = I 15) (e17 : J 17 = I 17) (eo : ∀ c, c ≠ clN X n → J (19 + c) = I (19 + c)) (ec : ∀ dd, dd < 400 → J (19 + clN X n) dd = if dd = dyN X n then I (19 + clN X n) (dyN X n) - jI (sgn b) * 2000 else if dd = dyN X n + 1 then I (19 + clN X n) (dyN X n + 1) + jI (sgn b) * 3000 else I (19 + clN X n) dd) : cSum J L X (updf f n b) := by
  have n0 : ¬ X 107 n = 0 := by rw [hk]; decide
  have n1 : ¬ X 107 n = 1 := by rw [hk]; decide
  intro dd hdd
  obtain ⟨q1, q2, q3, q4⟩ := hs dd hdd
  refine ⟨?_, ?_, ?_, fun c hc => ?_⟩
  · rw [e15, gT_up h1 h2 hf, if_neg (fun z => n0 z.1), Int.mul_zero, Int.add_zero]; exact q1
  · rw [gM_up h1 h2 hf, if_neg (fun z => n0 z.1), Int.mul_zero, Int.add_zero]; exact q2
  · rw [e17, gLd_up h1 h2 hf, if_neg (fun z => n1 z.1), Int.mul_zero, Int.add_zero]; exact q3
  · have q5 := q4 c hc
    unfold wkZ at q5 ⊢
    rw [gLi_up h1 h2 hf, gFr_up h1 h2 hf, gFr_up h1 h2 hf, if_neg (show ¬ (X 107 n = 1 ∧ dyN X n = dd ∧ clN X n = c) from fun z => n1 z.1)]
    simp only [Int.mul_zero, Int.add_zero]
    by_cases k : c = clN X n
    · subst k
      rw [ec dd hdd]
      have e2 : jI (sgn b) * 2000 = jI (sgn b * 2000) := by rw [← jI_mul]; rfl
      have e3 : jI (sgn b) * 3000 = jI (sgn b * 3000) := by rw [← jI_mul]; rfl
      by_cases d1 : dd = dyN X n
      · subst d1
        rw [if_pos rfl, if_pos ⟨hk, rfl, rfl⟩, q5, e2, jI_sub]
        refine congrArg jI ?_
        by_cases z : 0 < dyN X n
        · rw [if_pos z, if_pos z, if_neg (show ¬ (X 107 n = 2 ∧ dyN X n = dyN X n - 1 ∧ clN X n = clN X n) by omega)]
          simp only [Int.mul_add, Int.mul_zero, Int.add_zero, Int.mul_one]
          omega
        · rw [if_neg z, if_neg z]
          simp only [Int.mul_add, Int.mul_one]
          omega
      · rw [if_neg d1, if_neg (show ¬ (X 107 n = 2 ∧ dyN X n = dd ∧ clN X n = clN X n) by omega)]
        simp only [Int.mul_zero, Int.add_zero]
        by_cases d2 : dd = dyN X n + 1
        · subst d2
          rw [if_pos rfl, if_pos (show 0 < dyN X n + 1 by omega), if_pos (show X 107 n = 2 ∧ dyN X n = dyN X n + 1 - 1 ∧ True from ⟨hk, by omega, trivial⟩), q5, e3, jI_add, if_pos (show 0 < dyN X n + 1 by omega)]
          refine congrArg jI ?_
          simp only [Int.mul_add, Int.mul_one]
          omega
        · rw [if_neg d2, q5]
          by_cases z : 0 < dd
          · rw [if_pos z, if_pos z, if_neg (show ¬ (X 107 n = 2 ∧ dyN X n = dd - 1 ∧ True) by omega)]
            simp only [Int.mul_zero, Int.add_zero]
          · rw [if_neg z, if_neg z]
    · rw [eo c k, q5, if_neg (show ¬ (X 107 n = 2 ∧ dyN X n = dd ∧ clN X n = c) from fun z => k z.2.2.symm), if_neg (show ¬ (X 107 n = 2 ∧ dyN X n = dd - 1 ∧ clN X n = c) from fun z => k z.2.2.symm)]
      simp only [Int.mul_zero, Int.add_zero]
/-- what take leaves: rows of sums, and how far the days stand -/
def tkFr (I I' : Nat → Nat → Int32) (L L' : Nat → Nat → Int64) : Prop := (∀ j, j ≠ 13 → j ≠ 15 → j ≠ 17 → (j < 19 ∨ 34 < j) → I' j = I j) ∧ (∀ i, i ≠ 11 → i ≠ 12 → I' 13 i = I 13 i) ∧ (∀ j, j ≠ 16 → L' j = L j)
def tkP13 (X I I' : Nat → Nat → Int32) (n R : Nat) : Prop := (X 107 n = 0 ∨ X 107 n = 1 ∨ X 107 n = 2 → I' 13 11 = nI (min R (dyN X n)) ∧ I' 13 12 = I 13 12 + 1) ∧ (X 107 n = 3 ∨ X 107 n = 4 ∨ X 107 n = 5 → I' 13 = I 13)
theorem spoil_v {I : Nat → Nat → Int32} {L : Nat → Nat → Int64} {R A : Nat} (hR : I 13 11 = nI R) (hR4 : R ≤ 400) (hA : A < 400) : (∀ j, j ≠ 13 → sI_d_spoil (nI A) I L j = I j) ∧ (∀ i, i ≠ 11 → i ≠ 12 → sI_d_spoil (nI A) I L 13 i = I 13 i) ∧ sI_d_spoil (nI A) I L 13 11 = nI (min R A) ∧ sI_d_spoil (nI A) I L 13 12 = I 13 12 + 1 := by
  have hm : sp_maxI 0 (sp_minI (I 13 11) (nI A)) = nI (min R A) := by
    rw [hR, nI_j, nI_j, minI_j ⟨by omega, by omega⟩ ⟨by omega, by omega⟩, show (0 : Int32) = jI 0 from rfl, maxI_j ⟨by decide, by decide⟩ ⟨by omega, by omega⟩, nI_j]
    exact congrArg jI (by omega)
  unfold sI_d_spoil
  rw [hm]
  refine ⟨fun j hj => by rw [va_n1 hj, va_n1 hj], fun i h1 h2 => ?_, rfl, rfl⟩
  rw [va_e1, upd_n h2, va_e1, upd_n h1]
set_option maxHeartbeats 4000000 in
theorem tv_d_take {d n sl : Nat} {kk : Nat → Nat × Nat} {I : Nat → Nat → Int32} {L : Nat → Nat → Int64} {q : Nat → Nat → Option Nat} {X : Nat → Nat → Int32} {a nn R : Nat} {b : Bool} {f : Nat → Bool} (ha : 131 ≤ a ∧ kk a = (0, 0)) (hA : wfA X nn) (h1 : 1 ≤ nn) (h2 : nn ≤ nC X) (hact : cAct I X nn a) (hs : cSum I L X f) (hf : f nn = !b) (hR : I 13 11 = nI R) (hR4 : R ≤ 400) : am_T (d + 2) 26 0 (am_ent 4 [.ref 13, .ref a, .int (jI (sgn b))]) [] (n, sl, wKK kk, I, L, wQQ q) (fun rv h' => rv = none ∧ ∃ I' L', h' = (n, sl, wKK kk, I', L', wQQ q) ∧ cSum I' L' X (updf f nn b) ∧ tkFr I I' L L' ∧ tkP13 X I I' nn R) := by
  obtain ⟨c0, c1, c7, cl0, cl1, cl2, cl3⟩ := hact
  obtain ⟨_, hdy, hdy4, hsort⟩ := hA
  have hsb : bI (sgn b) := by unfold sgn; cases b <;> exact ⟨by decide, by decide⟩
  rcases hsort with ⟨hk, hth, hle, hth4, _⟩ | ⟨hk, hcl, hc16, _⟩ | ⟨hk, hcl, hc16⟩ | ⟨hk, _⟩ | hk | hk
  · have l2 := cl0 hk
    show am_T _ _ 0 [some (.ref 13), some (.ref a), some (.int (jI (sgn b))), none] _ _ _
    refine tv_b (pc' := 1) (ls' := [some (.ref 13), some (.ref a), some (.int (jI (sgn b))), none]) (st' := [.ref a]) (h' := (n, sl, wKK kk, I, L, wQQ q)) 1 rfl ?_
    refine tv_cvE [] [] rfl rfl (by omega) rfl (Nat.le_of_ble_eq_true rfl) (Nat.le_of_ble_eq_true rfl) (Or.inr (Or.inr (am_acK ha))) (ev_a_isWork1 ha (Or.inl (c0.trans hk))) ?_
    refine tv_b (pc' := 8) (ls' := [some (.ref 13), some (.ref a), some (.int (jI (sgn b))), none]) (st' := [.ref a]) (h' := (n, sl, wKK kk, I, L, wQQ q)) 2 rfl ?_
    refine tv_gfa rfl (Or.inl rfl) (am_acK ha) ?_
    refine tv_top ((c1.trans hdy)) ?_
    refine tv_b (pc' := 12) (ls' := [some (.ref 13), some (.ref a), some (.int (jI (sgn b))), none]) (st' := [.ref a, .int (nI (dyN X nn))]) (h' := (n, sl, wKK kk, I, L, wQQ q)) 1 rfl ?_
    refine tv_gfa rfl (Or.inl rfl) (am_acK ha) ?_
    refine tv_top ((l2.1.trans hth)) ?_
    refine tv_csE [.int (nI (dyN X nn)), .int (nI (thN X nn))] [] rfl rfl (by omega) rfl (Nat.le_of_ble_eq_true rfl) (Nat.le_of_ble_eq_true rfl) (ev_areDays1 (by omega) (by omega)) ?_
    refine tv_b (pc' := 22) (ls' := [some (.ref 13), some (.ref a), some (.int (jI (sgn b))), none]) (st' := [.ref a]) (h' := (n, sl, wKK kk, I, L, wQQ q)) 2 rfl ?_
    refine tv_gfa rfl (Or.inl rfl) (am_acK ha) ?_
    refine tv_top (l2.2.1) ?_
    refine tv_csE [.int (nI 0)] [] rfl rfl (by omega) rfl (Nat.le_of_ble_eq_true rfl) (Nat.le_of_ble_eq_true rfl) (ev_isCol1 (by omega)) ?_
    refine tv_b (pc' := 33) (ls' := [some (.ref 13), some (.ref a), some (.int (jI (sgn b))), none]) (st' := [.ref a]) (h' := (n, sl, wKK kk, I, L, wQQ q)) 2 rfl ?_
    refine tv_gfa rfl (Or.inl rfl) (am_acK ha) ?_
    refine tv_top ((c0.trans hk)) ?_
    refine tv_b (pc' := 40) (ls' := [some (.ref 13), some (.ref a), some (.int (jI (sgn b))), none]) (st' := [.ref a]) (h' := (n, sl, wKK kk, I, L, wQQ q)) 2 rfl ?_
    refine tv_gfa rfl (Or.inl rfl) (am_acK ha) ?_
    refine tv_top ((c1.trans hdy)) ?_
    refine tv_b (pc' := 44) (ls' := [some (.ref 13), some (.ref a), some (.int (jI (sgn b))), some (.int (nI (dyN X nn)))]) (st' := []) (h' := (n, sl, wKK kk, I, L, wQQ q)) 1 rfl ?_
    refine tv_hI tkI_self ?_
    refine tv_hL tkL_self ?_
    have e1 : I 15 = lrI (I 15) (dyN X nn) 0 ((jI (sgn b)) * X 109 nn) := lrI_0.symm
    have e2 : L 16 = lrL (L 16) (dyN X nn) 0 (((jI (sgn b)).toInt64 * (X 109 nn).toInt64) * (X 110 nn).toInt64) := lrL_0.symm
    rw [e1, e2]
    refine tv_d_tkL (A := dyN X nn) ha (l2.1.trans hth) l2.2.2.1 l2.2.2.2 hle hth4 ?_ (thN X nn + 1 - dyN X nn) 0 (by omega)
    refine tv_b (pc' := 214) (ls' := [some (.ref 13), some (.ref a), some (.int (jI (sgn b))), some (.int (nI (dyN X nn + (thN X nn + 1 - dyN X nn))))]) (st' := [.ref a, .ref 13]) (h' := (n, sl, wKK kk, (tkI I (lrI (I 15) (dyN X nn) (thN X nn + 1 - dyN X nn) ((jI (sgn b)) * X 109 nn))), (tkL L (lrL (L 16) (dyN X nn) (thN X nn + 1 - dyN X nn) (((jI (sgn b)).toInt64 * (X 109 nn).toInt64) * (X 110 nn).toInt64))), wQQ q)) 3 rfl ?_
    refine tv_gfa rfl (Or.inl rfl) (am_acK ha) ?_
    refine tv_top (((congrFun (tkI_n (show a ≠ 15 by omega)) 1).trans (c1.trans hdy))) ?_
    refine tv_cvE [.int (nI (dyN X nn))] [] rfl rfl (by omega) rfl (Nat.le_of_ble_eq_true rfl) (Nat.le_of_ble_eq_true rfl) (Or.inr (Or.inr rfl)) (ev_d_spoil) ?_
    have hsp := spoil_v (I := tkI I (lrI (I 15) (dyN X nn) (thN X nn + 1 - dyN X nn) ((jI (sgn b)) * X 109 nn))) (L := tkL L (lrL (L 16) (dyN X nn) (thN X nn + 1 - dyN X nn) (((jI (sgn b)).toInt64 * (X 109 nn).toInt64) * (X 110 nn).toInt64))) (A := dyN X nn) (R := R) hR hR4 hdy4
    obtain ⟨s1, s2, s3, s4⟩ := hsp
    refine tv_rv rfl ⟨rfl, _, _, rfl, ?_, ⟨fun j j1 j2 j3 j4 => (s1 j j1).trans (tkI_n j2), fun i i1 i2 => (s2 i i1 i2), fun j j1 => tkL_n j1⟩, fun _ => ⟨s3, s4⟩, fun h => absurd h (by rw [hk]; decide)⟩
    intro dd hdd
    obtain ⟨q1, q2, q3, q4⟩ := hs dd hdd
    refine ⟨?_, ?_, ?_, fun c hc => ?_⟩
    · rw [s1 15 (by decide), gT_up h1 h2 hf]
      show lrI (I 15) (dyN X nn) (thN X nn + 1 - dyN X nn) ((jI (sgn b)) * X 109 nn) dd = _
      unfold lrI
      by_cases c : dyN X nn ≤ dd ∧ dd ≤ thN X nn
      · rw [if_pos (by omega), if_pos ⟨hk, c⟩, q1, ← jI_add, ← jI_mul, jI_self]
      · rw [if_neg (by omega), if_neg (fun z => c z.2), Int.mul_zero, Int.add_zero]; exact q1
    · rw [gM_up h1 h2 hf]
      show lrL (L 16) (dyN X nn) (thN X nn + 1 - dyN X nn) (((jI (sgn b)).toInt64 * (X 109 nn).toInt64) * (X 110 nn).toInt64) dd = _
      unfold lrL
      by_cases c : dyN X nn ≤ dd ∧ dd ≤ thN X nn
      · rw [if_pos (by omega), if_pos ⟨hk, c⟩, q2, jI_64 hsb, i64_j, i64_j, jL_mul, jL_mul, jL_add, Int.mul_assoc]
      · rw [if_neg (by omega), if_neg (fun z => c z.2), Int.mul_zero, Int.add_zero]; exact q2
    · rw [s1 17 (by decide), gLd_up h1 h2 hf, if_neg (by rw [hk]; rintro ⟨z, _⟩; revert z; decide), Int.mul_zero, Int.add_zero]; exact q3
    · rw [s1 (19 + c) (by omega), tkI_n (show 19 + c ≠ 15 by omega), q4 c hc]
      unfold wkZ
      rw [gLi_up h1 h2 hf, gFr_up h1 h2 hf, gFr_up h1 h2 hf, if_neg (show ¬ (X 107 nn = 1 ∧ dyN X nn = dd ∧ clN X nn = c) by rw [hk]; rintro ⟨z, _⟩; revert z; decide), if_neg (show ¬ (X 107 nn = 2 ∧ dyN X nn = dd ∧ clN X nn = c) by rw [hk]; rintro ⟨z, _⟩; revert z; decide), if_neg (show ¬ (X 107 nn = 2 ∧ dyN X nn = dd - 1 ∧ clN X nn = c) by rw [hk]; rintro ⟨z, _⟩; revert z; decide)]
      simp only [Int.mul_zero, Int.add_zero]
  · have l2 := cl1 hk
    show am_T _ _ 0 [some (.ref 13), some (.ref a), some (.int (jI (sgn b))), none] _ _ _
    refine tv_b (pc' := 1) (ls' := [some (.ref 13), some (.ref a), some (.int (jI (sgn b))), none]) (st' := [.ref a]) (h' := (n, sl, wKK kk, I, L, wQQ q)) 1 rfl ?_
    refine tv_cvE [] [] rfl rfl (by omega) rfl (Nat.le_of_ble_eq_true rfl) (Nat.le_of_ble_eq_true rfl) (Or.inr (Or.inr (am_acK ha))) (ev_a_isWork1 ha (Or.inr (Or.inl (c0.trans hk)))) ?_
    refine tv_b (pc' := 8) (ls' := [some (.ref 13), some (.ref a), some (.int (jI (sgn b))), none]) (st' := [.ref a]) (h' := (n, sl, wKK kk, I, L, wQQ q)) 2 rfl ?_
    refine tv_gfa rfl (Or.inl rfl) (am_acK ha) ?_
    refine tv_top ((c1.trans hdy)) ?_
    refine tv_b (pc' := 12) (ls' := [some (.ref 13), some (.ref a), some (.int (jI (sgn b))), none]) (st' := [.ref a, .int (nI (dyN X nn))]) (h' := (n, sl, wKK kk, I, L, wQQ q)) 1 rfl ?_
    refine tv_gfa rfl (Or.inl rfl) (am_acK ha) ?_
    refine tv_top ((l2.1.trans hdy)) ?_
    refine tv_csE [.int (nI (dyN X nn)), .int (nI (dyN X nn))] [] rfl rfl (by omega) rfl (Nat.le_of_ble_eq_true rfl) (Nat.le_of_ble_eq_true rfl) (ev_areDays1 (by omega) (by omega)) ?_
    refine tv_b (pc' := 22) (ls' := [some (.ref 13), some (.ref a), some (.int (jI (sgn b))), none]) (st' := [.ref a]) (h' := (n, sl, wKK kk, I, L, wQQ q)) 2 rfl ?_
    refine tv_gfa rfl (Or.inl rfl) (am_acK ha) ?_
    refine tv_top ((l2.2.1.trans hcl)) ?_
    refine tv_csE [.int (nI (clN X nn))] [] rfl rfl (by omega) rfl (Nat.le_of_ble_eq_true rfl) (Nat.le_of_ble_eq_true rfl) (ev_isCol1 (by omega)) ?_
    refine tv_b (pc' := 33) (ls' := [some (.ref 13), some (.ref a), some (.int (jI (sgn b))), none]) (st' := [.ref a]) (h' := (n, sl, wKK kk, I, L, wQQ q)) 2 rfl ?_
    refine tv_gfa rfl (Or.inl rfl) (am_acK ha) ?_
    refine tv_top ((c0.trans hk)) ?_
    refine tv_b (pc' := 100) (ls' := [some (.ref 13), some (.ref a), some (.int (jI (sgn b))), none]) (st' := [.ref a]) (h' := (n, sl, wKK kk, I, L, wQQ q)) 2 rfl ?_
    refine tv_gfa rfl (Or.inl rfl) (am_acK ha) ?_
    refine tv_top ((c0.trans hk)) ?_
    refine tv_b (pc' := 112) (ls' := [some (.ref 13), some (.ref a), some (.int (jI (sgn b))), none]) (st' := [.ref a, .ref 17]) (h' := (n, sl, wKK kk, I, L, wQQ q)) 5 rfl ?_
    refine tv_gfa rfl (Or.inl rfl) (am_acK ha) ?_
    refine tv_top ((c1.trans hdy)) ?_
    refine tv_b (pc' := 116) (ls' := [some (.ref 13), some (.ref a), some (.int (jI (sgn b))), none]) (st' := [.int (nI (dyN X nn)), .ref 17, .int (nI (dyN X nn)), .ref 17]) (h' := (n, sl, wKK kk, I, L, wQQ q)) 1 rfl ?_
    refine tv_ialN (k := (dyN X nn)) rfl (rfl) (⟨by omega, by omega⟩) ?_
    refine tv_b (pc' := 119) (ls' := [some (.ref 13), some (.ref a), some (.int (jI (sgn b))), none]) (st' := [.ref a, .int (jI (sgn b)), .int (I 17 (dyN X nn)), .int (nI (dyN X nn)), .ref 17]) (h' := (n, sl, wKK kk, I, L, wQQ q)) 2 rfl ?_
    refine tv_gfa rfl (Or.inl rfl) (am_acK ha) ?_
    refine tv_top (l2.2.2) ?_
    refine tv_b (pc' := 124) (ls' := [some (.ref 13), some (.ref a), some (.int (jI (sgn b))), none]) (st' := [.int ((I 17 (dyN X nn)) + ((jI (sgn b)) * (X 110 nn))), .int (nI (dyN X nn)), .ref 17]) (h' := (n, sl, wKK kk, I, L, wQQ q)) 2 rfl ?_
    refine tv_iasN (k := (dyN X nn)) rfl (rfl) (⟨by omega, by omega⟩) ?_
    refine tv_b (pc' := 130) (ls' := [some (.ref 13), some (.ref a), some (.int (jI (sgn b))), none]) (st' := [.ref a, .ref 18]) (h' := (n, sl, wKK kk, va_up I 17 (upd (I 17) (dyN X nn) ((I 17 (dyN X nn)) + ((jI (sgn b)) * (X 110 nn)))), L, wQQ q)) 3 rfl ?_
    refine tv_gfa rfl (Or.inl rfl) (am_acK ha) ?_
    refine tv_top (((congrFun (va_n1 (show a ≠ 17 by omega)) 3).trans (l2.2.1.trans hcl))) ?_
    refine tv_row18N (k := (clN X nn)) rfl (by omega) ?_
    refine tv_b (pc' := 135) (ls' := [some (.ref 13), some (.ref a), some (.int (jI (sgn b))), none]) (st' := [.ref a, .ref (19 + (clN X nn))]) (h' := (n, sl, wKK kk, va_up I 17 (upd (I 17) (dyN X nn) ((I 17 (dyN X nn)) + ((jI (sgn b)) * (X 110 nn)))), L, wQQ q)) 1 rfl ?_
    refine tv_gfa rfl (Or.inl rfl) (am_acK ha) ?_
    refine tv_top (((congrFun (va_n1 (show a ≠ 17 by omega)) 1).trans (c1.trans hdy))) ?_
    refine tv_b (pc' := 139) (ls' := [some (.ref 13), some (.ref a), some (.int (jI (sgn b))), none]) (st' := [.int (nI (dyN X nn)), .ref (19 + (clN X nn)), .int (nI (dyN X nn)), .ref (19 + (clN X nn))]) (h' := (n, sl, wKK kk, va_up I 17 (upd (I 17) (dyN X nn) ((I 17 (dyN X nn)) + ((jI (sgn b)) * (X 110 nn)))), L, wQQ q)) 1 rfl ?_
    refine tv_ialN (k := (dyN X nn)) rfl (wKK_19 hc16) (⟨by omega, by omega⟩) ?_
    refine tv_b (pc' := 145) (ls' := [some (.ref 13), some (.ref a), some (.int (jI (sgn b))), none]) (st' := [.ref a, .int ((jI (sgn b)) * 50), .int ((va_up I 17 (upd (I 17) (dyN X nn) ((I 17 (dyN X nn)) + ((jI (sgn b)) * (X 110 nn))))) (19 + (clN X nn)) (dyN X nn)), .int (nI (dyN X nn)), .ref (19 + (clN X nn))]) (h' := (n, sl, wKK kk, va_up I 17 (upd (I 17) (dyN X nn) ((I 17 (dyN X nn)) + ((jI (sgn b)) * (X 110 nn)))), L, wQQ q)) 4 rfl ?_
    refine tv_gfa rfl (Or.inl rfl) (am_acK ha) ?_
    refine tv_top (((congrFun (va_n1 (show a ≠ 17 by omega)) 4).trans l2.2.2)) ?_
    refine tv_b (pc' := 150) (ls' := [some (.ref 13), some (.ref a), some (.int (jI (sgn b))), none]) (st' := [.int (((va_up I 17 (upd (I 17) (dyN X nn) ((I 17 (dyN X nn)) + ((jI (sgn b)) * (X 110 nn))))) (19 + (clN X nn)) (dyN X nn)) + (((jI (sgn b)) * 50) * (X 110 nn))), .int (nI (dyN X nn)), .ref (19 + (clN X nn))]) (h' := (n, sl, wKK kk, va_up I 17 (upd (I 17) (dyN X nn) ((I 17 (dyN X nn)) + ((jI (sgn b)) * (X 110 nn)))), L, wQQ q)) 2 rfl ?_
    refine tv_iasN (k := (dyN X nn)) rfl (wKK_19 hc16) (⟨by omega, by omega⟩) ?_
    refine tv_b (pc' := 214) (ls' := [some (.ref 13), some (.ref a), some (.int (jI (sgn b))), none]) (st' := [.ref a, .ref 13]) (h' := (n, sl, wKK kk, va_up (va_up I 17 (upd (I 17) (dyN X nn) ((I 17 (dyN X nn)) + ((jI (sgn b)) * (X 110 nn))))) (19 + (clN X nn)) (upd (va_up I 17 (upd (I 17) (dyN X nn) ((I 17 (dyN X nn)) + ((jI (sgn b)) * (X 110 nn)))) (19 + (clN X nn))) (dyN X nn) (((va_up I 17 (upd (I 17) (dyN X nn) ((I 17 (dyN X nn)) + ((jI (sgn b)) * (X 110 nn))))) (19 + (clN X nn)) (dyN X nn)) + (((jI (sgn b)) * 50) * (X 110 nn)))), L, wQQ q)) 3 rfl ?_
    refine tv_gfa rfl (Or.inl rfl) (am_acK ha) ?_
    refine tv_top (((congrFun (va_n1 (show a ≠ 19 + (clN X nn) by omega)) 1).trans ((congrFun (va_n1 (show a ≠ 17 by omega)) 1).trans (c1.trans hdy)))) ?_
    refine tv_cvE [.int (nI (dyN X nn))] [] rfl rfl (by omega) rfl (Nat.le_of_ble_eq_true rfl) (Nat.le_of_ble_eq_true rfl) (Or.inr (Or.inr rfl)) (ev_d_spoil) ?_
    have hmu := i32_b (X 110 nn)
    have n17 : 19 + clN X nn ≠ 17 := by omega
    have eB : va_up (va_up I 17 (upd (I 17) (dyN X nn) (I 17 (dyN X nn) + jI (sgn b) * X 110 nn))) (19 + clN X nn) (upd ((va_up I 17 (upd (I 17) (dyN X nn) (I 17 (dyN X nn) + jI (sgn b) * X 110 nn))) (19 + clN X nn)) (dyN X nn) ((va_up I 17 (upd (I 17) (dyN X nn) (I 17 (dyN X nn) + jI (sgn b) * X 110 nn))) (19 + clN X nn) (dyN X nn) + jI (sgn b) * 50 * X 110 nn)) = va_up (va_up I 17 (upd (I 17) (dyN X nn) (I 17 (dyN X nn) + jI (sgn b) * X 110 nn))) (19 + clN X nn) (upd (I (19 + clN X nn)) (dyN X nn) (I (19 + clN X nn) (dyN X nn) + jI (sgn b) * 50 * X 110 nn)) := by rw [va_n1 n17]
    refine tv_hI (congrArg (fun z => sI_d_spoil (nI (dyN X nn)) z L) eB) ?_
    have hR2 : (va_up (va_up I 17 (upd (I 17) (dyN X nn) (I 17 (dyN X nn) + jI (sgn b) * X 110 nn))) (19 + clN X nn) (upd (I (19 + clN X nn)) (dyN X nn) (I (19 + clN X nn) (dyN X nn) + jI (sgn b) * 50 * X 110 nn))) 13 11 = nI R := by rw [va_n1 (show 13 ≠ 19 + clN X nn by omega)]; exact hR
    have hsp := spoil_v (I := va_up (va_up I 17 (upd (I 17) (dyN X nn) (I 17 (dyN X nn) + jI (sgn b) * X 110 nn))) (19 + clN X nn) (upd (I (19 + clN X nn)) (dyN X nn) (I (19 + clN X nn) (dyN X nn) + jI (sgn b) * 50 * X 110 nn))) (L := L) (A := dyN X nn) (R := R) hR2 hR4 hdy4
    obtain ⟨s1, s2, s3, s4⟩ := hsp
    have e13 : (va_up (va_up I 17 (upd (I 17) (dyN X nn) (I 17 (dyN X nn) + jI (sgn b) * X 110 nn))) (19 + clN X nn) (upd (I (19 + clN X nn)) (dyN X nn) (I (19 + clN X nn) (dyN X nn) + jI (sgn b) * 50 * X 110 nn))) 13 = I 13 := by rw [va_n1 (show 13 ≠ 19 + clN X nn by omega)]; rfl
    rw [e13] at s2 s4
    refine tv_rv rfl ⟨rfl, _, _, rfl, ?_, ⟨fun j j1 j2 j3 j4 => (s1 j j1).trans (by rw [va_n1 (by omega), va_n1 j3]), s2, fun j j1 => rfl⟩, fun _ => ⟨s3, s4⟩, fun h => absurd h (by rw [hk]; decide)⟩
    intro dd hdd
    obtain ⟨q1, q2, q3, q4⟩ := hs dd hdd
    refine ⟨?_, ?_, ?_, fun c hc => ?_⟩
    · rw [s1 15 (by decide), va_n1 (show 15 ≠ 19 + clN X nn by omega), va_n1 (by decide), gT_up h1 h2 hf, if_neg (by rw [hk]; rintro ⟨z, _⟩; revert z; decide), Int.mul_zero, Int.add_zero]; exact q1
    · rw [gM_up h1 h2 hf, if_neg (by rw [hk]; rintro ⟨z, _⟩; revert z; decide), Int.mul_zero, Int.add_zero]; exact q2
    · rw [s1 17 (by decide), va_n1 (show 17 ≠ 19 + clN X nn by omega), va_e1, gLd_up h1 h2 hf]
      by_cases e : dd = dyN X nn
      · subst e; rw [upd_e, if_pos ⟨hk, rfl⟩, q3, ← jI_add, ← jI_mul, jI_self]
      · rw [upd_n e, if_neg (fun z => e z.2.symm), Int.mul_zero, Int.add_zero]; exact q3
    · rw [s1 (19 + c) (by omega)]
      unfold wkZ
      rw [gLi_up h1 h2 hf, gFr_up h1 h2 hf, gFr_up h1 h2 hf, if_neg (show ¬ (X 107 nn = 2 ∧ dyN X nn = dd ∧ clN X nn = c) by rw [hk]; rintro ⟨z, _⟩; revert z; decide), if_neg (show ¬ (X 107 nn = 2 ∧ dyN X nn = dd - 1 ∧ clN X nn = c) by rw [hk]; rintro ⟨z, _⟩; revert z; decide)]
      have q5 := q4 c hc
      unfold wkZ at q5
      by_cases e : dyN X nn = dd ∧ clN X nn = c
      · obtain ⟨rfl, rfl⟩ := e
        rw [va_e1, upd_e, if_pos ⟨hk, rfl, rfl⟩, q5]
        have ej : jI (sgn b) * 50 * X 110 nn = jI (sgn b * 50 * (X 110 nn).toInt) := by rw [← jI_mul, ← jI_mul, jI_self]; rfl
        rw [ej, jI_add]
        refine congrArg jI ?_
        have e3 : sgn b * 50 * (X 110 nn).toInt = 50 * (sgn b * (X 110 nn).toInt) := by rw [Int.mul_comm (sgn b) 50, Int.mul_assoc]
        rw [e3]; simp only [Int.mul_add, Int.mul_zero, Int.add_zero]; omega
      · rw [if_neg (fun z => e z.2)]
        simp only [Int.mul_zero, Int.add_zero]
        by_cases ec : c = clN X nn
        · subst ec; rw [va_e1, upd_n (fun z => e ⟨z.symm, rfl⟩)]; exact q5
        · rw [va_n1 (show 19 + c ≠ 19 + clN X nn by omega), va_n1 (show 19 + c ≠ 17 by omega)]; exact q5
  · have l2 := cl2 hk
    by_cases c4 : dyN X nn + 1 < 400
    · show am_T _ _ 0 [some (.ref 13), some (.ref a), some (.int (jI (sgn b))), none] _ _ _
      refine tv_b (pc' := 1) (ls' := [some (.ref 13), some (.ref a), some (.int (jI (sgn b))), none]) (st' := [.ref a]) (h' := (n, sl, wKK kk, I, L, wQQ q)) 1 rfl ?_
      refine tv_cvE [] [] rfl rfl (by omega) rfl (Nat.le_of_ble_eq_true rfl) (Nat.le_of_ble_eq_true rfl) (Or.inr (Or.inr (am_acK ha))) (ev_a_isWork1 ha (Or.inr (Or.inr (c0.trans hk)))) ?_
      refine tv_b (pc' := 8) (ls' := [some (.ref 13), some (.ref a), some (.int (jI (sgn b))), none]) (st' := [.ref a]) (h' := (n, sl, wKK kk, I, L, wQQ q)) 2 rfl ?_
      refine tv_gfa rfl (Or.inl rfl) (am_acK ha) ?_
      refine tv_top ((c1.trans hdy)) ?_
      refine tv_b (pc' := 12) (ls' := [some (.ref 13), some (.ref a), some (.int (jI (sgn b))), none]) (st' := [.ref a, .int (nI (dyN X nn))]) (h' := (n, sl, wKK kk, I, L, wQQ q)) 1 rfl ?_
      refine tv_gfa rfl (Or.inl rfl) (am_acK ha) ?_
      refine tv_top ((l2.1.trans hdy)) ?_
      refine tv_csE [.int (nI (dyN X nn)), .int (nI (dyN X nn))] [] rfl rfl (by omega) rfl (Nat.le_of_ble_eq_true rfl) (Nat.le_of_ble_eq_true rfl) (ev_areDays1 (by omega) (by omega)) ?_
      refine tv_b (pc' := 22) (ls' := [some (.ref 13), some (.ref a), some (.int (jI (sgn b))), none]) (st' := [.ref a]) (h' := (n, sl, wKK kk, I, L, wQQ q)) 2 rfl ?_
      refine tv_gfa rfl (Or.inl rfl) (am_acK ha) ?_
      refine tv_top ((l2.2.1.trans hcl)) ?_
      refine tv_csE [.int (nI (clN X nn))] [] rfl rfl (by omega) rfl (Nat.le_of_ble_eq_true rfl) (Nat.le_of_ble_eq_true rfl) (ev_isCol1 (by omega)) ?_
      refine tv_b (pc' := 33) (ls' := [some (.ref 13), some (.ref a), some (.int (jI (sgn b))), none]) (st' := [.ref a]) (h' := (n, sl, wKK kk, I, L, wQQ q)) 2 rfl ?_
      refine tv_gfa rfl (Or.inl rfl) (am_acK ha) ?_
      refine tv_top ((c0.trans hk)) ?_
      refine tv_b (pc' := 100) (ls' := [some (.ref 13), some (.ref a), some (.int (jI (sgn b))), none]) (st' := [.ref a]) (h' := (n, sl, wKK kk, I, L, wQQ q)) 2 rfl ?_
      refine tv_gfa rfl (Or.inl rfl) (am_acK ha) ?_
      refine tv_top ((c0.trans hk)) ?_
      refine tv_b (pc' := 159) (ls' := [some (.ref 13), some (.ref a), some (.int (jI (sgn b))), none]) (st' := [.ref a, .ref 18]) (h' := (n, sl, wKK kk, I, L, wQQ q)) 5 rfl ?_
      refine tv_gfa rfl (Or.inl rfl) (am_acK ha) ?_
      refine tv_top ((l2.2.1.trans hcl)) ?_
      refine tv_row18N (k := (clN X nn)) rfl (by omega) ?_
      refine tv_b (pc' := 164) (ls' := [some (.ref 13), some (.ref a), some (.int (jI (sgn b))), none]) (st' := [.ref a, .ref (19 + (clN X nn))]) (h' := (n, sl, wKK kk, I, L, wQQ q)) 1 rfl ?_
      refine tv_gfa rfl (Or.inl rfl) (am_acK ha) ?_
      refine tv_top ((c1.trans hdy)) ?_
      refine tv_b (pc' := 168) (ls' := [some (.ref 13), some (.ref a), some (.int (jI (sgn b))), none]) (st' := [.int (nI (dyN X nn)), .ref (19 + (clN X nn)), .int (nI (dyN X nn)), .ref (19 + (clN X nn))]) (h' := (n, sl, wKK kk, I, L, wQQ q)) 1 rfl ?_
      refine tv_ialN (k := (dyN X nn)) rfl (wKK_19 hc16) (⟨by omega, by omega⟩) ?_
      refine tv_b (pc' := 175) (ls' := [some (.ref 13), some (.ref a), some (.int (jI (sgn b))), none]) (st' := [.int ((I (19 + (clN X nn)) (dyN X nn)) - ((jI (sgn b)) * 2000)), .int (nI (dyN X nn)), .ref (19 + (clN X nn))]) (h' := (n, sl, wKK kk, I, L, wQQ q)) 4 rfl ?_
      refine tv_iasN (k := (dyN X nn)) rfl (wKK_19 hc16) (⟨by omega, by omega⟩) ?_
      refine tv_b (pc' := 177) (ls' := [some (.ref 13), some (.ref a), some (.int (jI (sgn b))), none]) (st' := [.ref a]) (h' := (n, sl, wKK kk, va_up I (19 + (clN X nn)) (upd (I (19 + (clN X nn))) (dyN X nn) ((I (19 + (clN X nn)) (dyN X nn)) - ((jI (sgn b)) * 2000))), L, wQQ q)) 1 rfl ?_
      refine tv_gfa rfl (Or.inl rfl) (am_acK ha) ?_
      refine tv_top (((congrFun (va_n1 (show a ≠ 19 + (clN X nn) by omega)) 1).trans (c1.trans hdy))) ?_
      refine tv_b (pc' := 181) (ls' := [some (.ref 13), some (.ref a), some (.int (jI (sgn b))), none]) (st' := [.int 1, .int (nI (dyN X nn))]) (h' := (n, sl, wKK kk, va_up I (19 + (clN X nn)) (upd (I (19 + (clN X nn))) (dyN X nn) ((I (19 + (clN X nn)) (dyN X nn)) - ((jI (sgn b)) * 2000))), L, wQQ q)) 1 rfl ?_
      refine tv_b (pc' := 182) (ls' := [some (.ref 13), some (.ref a), some (.int (jI (sgn b))), none]) (st' := [.int ((nI (dyN X nn)) + 1)]) (h' := (n, sl, wKK kk, va_up I (19 + (clN X nn)) (upd (I (19 + (clN X nn))) (dyN X nn) ((I (19 + (clN X nn)) (dyN X nn)) - ((jI (sgn b)) * 2000))), L, wQQ q)) 1 rfl ?_
      refine tv_top (show (nI (dyN X nn)) + 1 = nI ((dyN X nn) + 1) from nI_add (dyN X nn) 1) ?_
      refine tv_csE [.int (nI ((dyN X nn) + 1))] [] rfl rfl (by omega) rfl (Nat.le_of_ble_eq_true rfl) (Nat.le_of_ble_eq_true rfl) (ev_isDayB (by omega)) ?_
      refine tv_b (pc' := (if (if dyN X nn + 1 < 400 then 1 else 0) = 0 then 212 else 188)) (ls' := [some (.ref 13), some (.ref a), some (.int (jI (sgn b))), none]) (st' := []) (h' := (n, sl, wKK kk, va_up I (19 + (clN X nn)) (upd (I (19 + (clN X nn))) (dyN X nn) ((I (19 + (clN X nn)) (dyN X nn)) - ((jI (sgn b)) * 2000))), L, wQQ q)) 1 rfl ?_
      refine tv_f ((show ¬ (if dyN X nn + 1 < 400 then (1 : Int32) else 0) = 0 by rw [if_pos c4]; decide)) ?_
      refine tv_b (pc' := 193) (ls' := [some (.ref 13), some (.ref a), some (.int (jI (sgn b))), none]) (st' := [.ref a, .ref 18]) (h' := (n, sl, wKK kk, va_up I (19 + (clN X nn)) (upd (I (19 + (clN X nn))) (dyN X nn) ((I (19 + (clN X nn)) (dyN X nn)) - ((jI (sgn b)) * 2000))), L, wQQ q)) 3 rfl ?_
      refine tv_gfa rfl (Or.inl rfl) (am_acK ha) ?_
      refine tv_top (((congrFun (va_n1 (show a ≠ 19 + (clN X nn) by omega)) 3).trans (l2.2.1.trans hcl))) ?_
      refine tv_row18N (k := (clN X nn)) rfl (by omega) ?_
      refine tv_b (pc' := 198) (ls' := [some (.ref 13), some (.ref a), some (.int (jI (sgn b))), none]) (st' := [.ref a, .ref (19 + (clN X nn))]) (h' := (n, sl, wKK kk, va_up I (19 + (clN X nn)) (upd (I (19 + (clN X nn))) (dyN X nn) ((I (19 + (clN X nn)) (dyN X nn)) - ((jI (sgn b)) * 2000))), L, wQQ q)) 1 rfl ?_
      refine tv_gfa rfl (Or.inl rfl) (am_acK ha) ?_
      refine tv_top (((congrFun (va_n1 (show a ≠ 19 + (clN X nn) by omega)) 1).trans (c1.trans hdy))) ?_
      refine tv_b (pc' := 202) (ls' := [some (.ref 13), some (.ref a), some (.int (jI (sgn b))), none]) (st' := [.int 1, .int (nI (dyN X nn)), .ref (19 + (clN X nn))]) (h' := (n, sl, wKK kk, va_up I (19 + (clN X nn)) (upd (I (19 + (clN X nn))) (dyN X nn) ((I (19 + (clN X nn)) (dyN X nn)) - ((jI (sgn b)) * 2000))), L, wQQ q)) 1 rfl ?_
      refine tv_b (pc' := 203) (ls' := [some (.ref 13), some (.ref a), some (.int (jI (sgn b))), none]) (st' := [.int ((nI (dyN X nn)) + 1), .ref (19 + (clN X nn))]) (h' := (n, sl, wKK kk, va_up I (19 + (clN X nn)) (upd (I (19 + (clN X nn))) (dyN X nn) ((I (19 + (clN X nn)) (dyN X nn)) - ((jI (sgn b)) * 2000))), L, wQQ q)) 1 rfl ?_
      refine tv_top (show (nI (dyN X nn)) + 1 = nI ((dyN X nn) + 1) from nI_add (dyN X nn) 1) ?_
      refine tv_b (pc' := 204) (ls' := [some (.ref 13), some (.ref a), some (.int (jI (sgn b))), none]) (st' := [.int (nI ((dyN X nn) + 1)), .ref (19 + (clN X nn)), .int (nI ((dyN X nn) + 1)), .ref (19 + (clN X nn))]) (h' := (n, sl, wKK kk, va_up I (19 + (clN X nn)) (upd (I (19 + (clN X nn))) (dyN X nn) ((I (19 + (clN X nn)) (dyN X nn)) - ((jI (sgn b)) * 2000))), L, wQQ q)) 1 rfl ?_
      refine tv_ialN (k := ((dyN X nn) + 1)) rfl (wKK_19 hc16) (⟨by omega, by omega⟩) ?_
      refine tv_b (pc' := 211) (ls' := [some (.ref 13), some (.ref a), some (.int (jI (sgn b))), none]) (st' := [.int (((va_up I (19 + (clN X nn)) (upd (I (19 + (clN X nn))) (dyN X nn) ((I (19 + (clN X nn)) (dyN X nn)) - ((jI (sgn b)) * 2000)))) (19 + (clN X nn)) ((dyN X nn) + 1)) + ((jI (sgn b)) * 3000)), .int (nI ((dyN X nn) + 1)), .ref (19 + (clN X nn))]) (h' := (n, sl, wKK kk, va_up I (19 + (clN X nn)) (upd (I (19 + (clN X nn))) (dyN X nn) ((I (19 + (clN X nn)) (dyN X nn)) - ((jI (sgn b)) * 2000))), L, wQQ q)) 4 rfl ?_
      refine tv_iasN (k := ((dyN X nn) + 1)) rfl (wKK_19 hc16) (⟨by omega, by omega⟩) ?_
      refine tv_b (pc' := 214) (ls' := [some (.ref 13), some (.ref a), some (.int (jI (sgn b))), none]) (st' := [.ref a, .ref 13]) (h' := (n, sl, wKK kk, va_up (va_up I (19 + (clN X nn)) (upd (I (19 + (clN X nn))) (dyN X nn) ((I (19 + (clN X nn)) (dyN X nn)) - ((jI (sgn b)) * 2000)))) (19 + (clN X nn)) (upd (va_up I (19 + (clN X nn)) (upd (I (19 + (clN X nn))) (dyN X nn) ((I (19 + (clN X nn)) (dyN X nn)) - ((jI (sgn b)) * 2000))) (19 + (clN X nn))) ((dyN X nn) + 1) (((va_up I (19 + (clN X nn)) (upd (I (19 + (clN X nn))) (dyN X nn) ((I (19 + (clN X nn)) (dyN X nn)) - ((jI (sgn b)) * 2000)))) (19 + (clN X nn)) ((dyN X nn) + 1)) + ((jI (sgn b)) * 3000))), L, wQQ q)) 2 rfl ?_
      refine tv_gfa rfl (Or.inl rfl) (am_acK ha) ?_
      refine tv_top (((congrFun (va_n1 (show a ≠ 19 + (clN X nn) by omega)) 1).trans ((congrFun (va_n1 (show a ≠ 19 + (clN X nn) by omega)) 1).trans (c1.trans hdy)))) ?_
      refine tv_cvE [.int (nI (dyN X nn))] [] rfl rfl (by omega) rfl (Nat.le_of_ble_eq_true rfl) (Nat.le_of_ble_eq_true rfl) (Or.inr (Or.inr rfl)) (ev_d_spoil) ?_
      have eB : va_up (va_up I (19 + clN X nn) (upd (I (19 + clN X nn)) (dyN X nn) (I (19 + clN X nn) (dyN X nn) - jI (sgn b) * 2000))) (19 + clN X nn) (upd ((va_up I (19 + clN X nn) (upd (I (19 + clN X nn)) (dyN X nn) (I (19 + clN X nn) (dyN X nn) - jI (sgn b) * 2000))) (19 + clN X nn)) (dyN X nn + 1) ((va_up I (19 + clN X nn) (upd (I (19 + clN X nn)) (dyN X nn) (I (19 + clN X nn) (dyN X nn) - jI (sgn b) * 2000))) (19 + clN X nn) (dyN X nn + 1) + jI (sgn b) * 3000)) = va_up I (19 + clN X nn) (upd (upd (I (19 + clN X nn)) (dyN X nn) (I (19 + clN X nn) (dyN X nn) - jI (sgn b) * 2000)) (dyN X nn + 1) (I (19 + clN X nn) (dyN X nn + 1) + jI (sgn b) * 3000)) := by rw [va_e1, upd_n (show dyN X nn + 1 ≠ dyN X nn by omega)]; funext j; by_cases c : j = (19 + clN X nn); (subst c; rw [va_e1, va_e1]); (rw [va_n1 c, va_n1 c, va_n1 c])
      refine tv_hI (congrArg (fun z => sI_d_spoil (nI (dyN X nn)) z L) eB) ?_
      have hR2 : (va_up I (19 + clN X nn) (upd (upd (I (19 + clN X nn)) (dyN X nn) (I (19 + clN X nn) (dyN X nn) - jI (sgn b) * 2000)) (dyN X nn + 1) (I (19 + clN X nn) (dyN X nn + 1) + jI (sgn b) * 3000))) 13 11 = nI R := by rw [va_n1 (show 13 ≠ (19 + clN X nn) by omega)]; exact hR
      have hsp := spoil_v (I := va_up I (19 + clN X nn) (upd (upd (I (19 + clN X nn)) (dyN X nn) (I (19 + clN X nn) (dyN X nn) - jI (sgn b) * 2000)) (dyN X nn + 1) (I (19 + clN X nn) (dyN X nn + 1) + jI (sgn b) * 3000))) (L := L) (A := dyN X nn) (R := R) hR2 hR4 hdy4
      obtain ⟨s1, s2, s3, s4⟩ := hsp
      have e13 : (va_up I (19 + clN X nn) (upd (upd (I (19 + clN X nn)) (dyN X nn) (I (19 + clN X nn) (dyN X nn) - jI (sgn b) * 2000)) (dyN X nn + 1) (I (19 + clN X nn) (dyN X nn + 1) + jI (sgn b) * 3000))) 13 = I 13 := va_n1 (show 13 ≠ (19 + clN X nn) by omega)
      rw [e13] at s2 s4
      refine tv_rv rfl ⟨rfl, _, _, rfl, ?_, ⟨fun j j1 j2 j3 j4 => (s1 j j1).trans (va_n1 (by omega)), s2, fun j j1 => rfl⟩, fun _ => ⟨s3, s4⟩, fun h => absurd h (by rw [hk]; decide)⟩
      refine cSum_fr h1 h2 hf hk hs ((s1 15 (by decide)).trans (va_n1 (show 15 ≠ (19 + clN X nn) by omega))) ((s1 17 (by decide)).trans (va_n1 (show 17 ≠ (19 + clN X nn) by omega))) (fun c hc => (s1 (19 + c) (by omega)).trans (va_n1 (show 19 + c ≠ (19 + clN X nn) by omega))) (fun dd hdd => ?_)
      rw [s1 (19 + clN X nn) (by omega), va_e1]
      by_cases e1 : dd = dyN X nn
      · subst e1; rw [upd_n (show dyN X nn ≠ dyN X nn + 1 by omega), upd_e, if_pos rfl]
      · rw [if_neg e1]
        by_cases e2 : dd = dyN X nn + 1
        · rw [if_pos e2, e2, upd_e]
        · rw [if_neg e2, upd_n e2, upd_n e1]
    · show am_T _ _ 0 [some (.ref 13), some (.ref a), some (.int (jI (sgn b))), none] _ _ _
      refine tv_b (pc' := 1) (ls' := [some (.ref 13), some (.ref a), some (.int (jI (sgn b))), none]) (st' := [.ref a]) (h' := (n, sl, wKK kk, I, L, wQQ q)) 1 rfl ?_
      refine tv_cvE [] [] rfl rfl (by omega) rfl (Nat.le_of_ble_eq_true rfl) (Nat.le_of_ble_eq_true rfl) (Or.inr (Or.inr (am_acK ha))) (ev_a_isWork1 ha (Or.inr (Or.inr (c0.trans hk)))) ?_
      refine tv_b (pc' := 8) (ls' := [some (.ref 13), some (.ref a), some (.int (jI (sgn b))), none]) (st' := [.ref a]) (h' := (n, sl, wKK kk, I, L, wQQ q)) 2 rfl ?_
      refine tv_gfa rfl (Or.inl rfl) (am_acK ha) ?_
      refine tv_top ((c1.trans hdy)) ?_
      refine tv_b (pc' := 12) (ls' := [some (.ref 13), some (.ref a), some (.int (jI (sgn b))), none]) (st' := [.ref a, .int (nI (dyN X nn))]) (h' := (n, sl, wKK kk, I, L, wQQ q)) 1 rfl ?_
      refine tv_gfa rfl (Or.inl rfl) (am_acK ha) ?_
      refine tv_top ((l2.1.trans hdy)) ?_
      refine tv_csE [.int (nI (dyN X nn)), .int (nI (dyN X nn))] [] rfl rfl (by omega) rfl (Nat.le_of_ble_eq_true rfl) (Nat.le_of_ble_eq_true rfl) (ev_areDays1 (by omega) (by omega)) ?_
      refine tv_b (pc' := 22) (ls' := [some (.ref 13), some (.ref a), some (.int (jI (sgn b))), none]) (st' := [.ref a]) (h' := (n, sl, wKK kk, I, L, wQQ q)) 2 rfl ?_
      refine tv_gfa rfl (Or.inl rfl) (am_acK ha) ?_
      refine tv_top ((l2.2.1.trans hcl)) ?_
      refine tv_csE [.int (nI (clN X nn))] [] rfl rfl (by omega) rfl (Nat.le_of_ble_eq_true rfl) (Nat.le_of_ble_eq_true rfl) (ev_isCol1 (by omega)) ?_
      refine tv_b (pc' := 33) (ls' := [some (.ref 13), some (.ref a), some (.int (jI (sgn b))), none]) (st' := [.ref a]) (h' := (n, sl, wKK kk, I, L, wQQ q)) 2 rfl ?_
      refine tv_gfa rfl (Or.inl rfl) (am_acK ha) ?_
      refine tv_top ((c0.trans hk)) ?_
      refine tv_b (pc' := 100) (ls' := [some (.ref 13), some (.ref a), some (.int (jI (sgn b))), none]) (st' := [.ref a]) (h' := (n, sl, wKK kk, I, L, wQQ q)) 2 rfl ?_
      refine tv_gfa rfl (Or.inl rfl) (am_acK ha) ?_
      refine tv_top ((c0.trans hk)) ?_
      refine tv_b (pc' := 159) (ls' := [some (.ref 13), some (.ref a), some (.int (jI (sgn b))), none]) (st' := [.ref a, .ref 18]) (h' := (n, sl, wKK kk, I, L, wQQ q)) 5 rfl ?_
      refine tv_gfa rfl (Or.inl rfl) (am_acK ha) ?_
      refine tv_top ((l2.2.1.trans hcl)) ?_
      refine tv_row18N (k := (clN X nn)) rfl (by omega) ?_
      refine tv_b (pc' := 164) (ls' := [some (.ref 13), some (.ref a), some (.int (jI (sgn b))), none]) (st' := [.ref a, .ref (19 + (clN X nn))]) (h' := (n, sl, wKK kk, I, L, wQQ q)) 1 rfl ?_
      refine tv_gfa rfl (Or.inl rfl) (am_acK ha) ?_
      refine tv_top ((c1.trans hdy)) ?_
      refine tv_b (pc' := 168) (ls' := [some (.ref 13), some (.ref a), some (.int (jI (sgn b))), none]) (st' := [.int (nI (dyN X nn)), .ref (19 + (clN X nn)), .int (nI (dyN X nn)), .ref (19 + (clN X nn))]) (h' := (n, sl, wKK kk, I, L, wQQ q)) 1 rfl ?_
      refine tv_ialN (k := (dyN X nn)) rfl (wKK_19 hc16) (⟨by omega, by omega⟩) ?_
      refine tv_b (pc' := 175) (ls' := [some (.ref 13), some (.ref a), some (.int (jI (sgn b))), none]) (st' := [.int ((I (19 + (clN X nn)) (dyN X nn)) - ((jI (sgn b)) * 2000)), .int (nI (dyN X nn)), .ref (19 + (clN X nn))]) (h' := (n, sl, wKK kk, I, L, wQQ q)) 4 rfl ?_
      refine tv_iasN (k := (dyN X nn)) rfl (wKK_19 hc16) (⟨by omega, by omega⟩) ?_
      refine tv_b (pc' := 177) (ls' := [some (.ref 13), some (.ref a), some (.int (jI (sgn b))), none]) (st' := [.ref a]) (h' := (n, sl, wKK kk, va_up I (19 + (clN X nn)) (upd (I (19 + (clN X nn))) (dyN X nn) ((I (19 + (clN X nn)) (dyN X nn)) - ((jI (sgn b)) * 2000))), L, wQQ q)) 1 rfl ?_
      refine tv_gfa rfl (Or.inl rfl) (am_acK ha) ?_
      refine tv_top (((congrFun (va_n1 (show a ≠ 19 + (clN X nn) by omega)) 1).trans (c1.trans hdy))) ?_
      refine tv_b (pc' := 181) (ls' := [some (.ref 13), some (.ref a), some (.int (jI (sgn b))), none]) (st' := [.int 1, .int (nI (dyN X nn))]) (h' := (n, sl, wKK kk, va_up I (19 + (clN X nn)) (upd (I (19 + (clN X nn))) (dyN X nn) ((I (19 + (clN X nn)) (dyN X nn)) - ((jI (sgn b)) * 2000))), L, wQQ q)) 1 rfl ?_
      refine tv_b (pc' := 182) (ls' := [some (.ref 13), some (.ref a), some (.int (jI (sgn b))), none]) (st' := [.int ((nI (dyN X nn)) + 1)]) (h' := (n, sl, wKK kk, va_up I (19 + (clN X nn)) (upd (I (19 + (clN X nn))) (dyN X nn) ((I (19 + (clN X nn)) (dyN X nn)) - ((jI (sgn b)) * 2000))), L, wQQ q)) 1 rfl ?_
      refine tv_top (show (nI (dyN X nn)) + 1 = nI ((dyN X nn) + 1) from nI_add (dyN X nn) 1) ?_
      refine tv_csE [.int (nI ((dyN X nn) + 1))] [] rfl rfl (by omega) rfl (Nat.le_of_ble_eq_true rfl) (Nat.le_of_ble_eq_true rfl) (ev_isDayB (by omega)) ?_
      refine tv_b (pc' := (if (if dyN X nn + 1 < 400 then 1 else 0) = 0 then 212 else 188)) (ls' := [some (.ref 13), some (.ref a), some (.int (jI (sgn b))), none]) (st' := []) (h' := (n, sl, wKK kk, va_up I (19 + (clN X nn)) (upd (I (19 + (clN X nn))) (dyN X nn) ((I (19 + (clN X nn)) (dyN X nn)) - ((jI (sgn b)) * 2000))), L, wQQ q)) 1 rfl ?_
      refine tv_t ((show (if dyN X nn + 1 < 400 then (1 : Int32) else 0) = 0 by rw [if_neg c4])) ?_
      refine tv_b (pc' := 214) (ls' := [some (.ref 13), some (.ref a), some (.int (jI (sgn b))), none]) (st' := [.ref a, .ref 13]) (h' := (n, sl, wKK kk, va_up I (19 + (clN X nn)) (upd (I (19 + (clN X nn))) (dyN X nn) ((I (19 + (clN X nn)) (dyN X nn)) - ((jI (sgn b)) * 2000))), L, wQQ q)) 2 rfl ?_
      refine tv_gfa rfl (Or.inl rfl) (am_acK ha) ?_
      refine tv_top (((congrFun (va_n1 (show a ≠ 19 + (clN X nn) by omega)) 1).trans (c1.trans hdy))) ?_
      refine tv_cvE [.int (nI (dyN X nn))] [] rfl rfl (by omega) rfl (Nat.le_of_ble_eq_true rfl) (Nat.le_of_ble_eq_true rfl) (Or.inr (Or.inr rfl)) (ev_d_spoil) ?_
      have hR2 : (va_up I (19 + clN X nn) (upd (I (19 + clN X nn)) (dyN X nn) (I (19 + clN X nn) (dyN X nn) - jI (sgn b) * 2000))) 13 11 = nI R := by rw [va_n1 (show 13 ≠ (19 + clN X nn) by omega)]; exact hR
      have hsp := spoil_v (I := va_up I (19 + clN X nn) (upd (I (19 + clN X nn)) (dyN X nn) (I (19 + clN X nn) (dyN X nn) - jI (sgn b) * 2000))) (L := L) (A := dyN X nn) (R := R) hR2 hR4 hdy4
      obtain ⟨s1, s2, s3, s4⟩ := hsp
      have e13 : (va_up I (19 + clN X nn) (upd (I (19 + clN X nn)) (dyN X nn) (I (19 + clN X nn) (dyN X nn) - jI (sgn b) * 2000))) 13 = I 13 := va_n1 (show 13 ≠ (19 + clN X nn) by omega)
      rw [e13] at s2 s4
      refine tv_rv rfl ⟨rfl, _, _, rfl, ?_, ⟨fun j j1 j2 j3 j4 => (s1 j j1).trans (va_n1 (by omega)), s2, fun j j1 => rfl⟩, fun _ => ⟨s3, s4⟩, fun h => absurd h (by rw [hk]; decide)⟩
      refine cSum_fr h1 h2 hf hk hs ((s1 15 (by decide)).trans (va_n1 (show 15 ≠ (19 + clN X nn) by omega))) ((s1 17 (by decide)).trans (va_n1 (show 17 ≠ (19 + clN X nn) by omega))) (fun c hc => (s1 (19 + c) (by omega)).trans (va_n1 (show 19 + c ≠ (19 + clN X nn) by omega))) (fun dd hdd => ?_)
      rw [s1 (19 + clN X nn) (by omega), va_e1]
      by_cases e1 : dd = dyN X nn
      · subst e1; rw [upd_e, if_pos rfl]
      · rw [if_neg e1, upd_n e1, if_neg (by omega)]
  · show am_T _ _ 0 [some (.ref 13), some (.ref a), some (.int (jI (sgn b))), none] _ _ _
    refine tv_b (pc' := 1) (ls' := [some (.ref 13), some (.ref a), some (.int (jI (sgn b))), none]) (st' := [.ref a]) (h' := (n, sl, wKK kk, I, L, wQQ q)) 1 rfl ?_
    refine tv_cvE [] [] rfl rfl (by omega) rfl (Nat.le_of_ble_eq_true rfl) (Nat.le_of_ble_eq_true rfl) (Or.inr (Or.inr (am_acK ha))) (ev_a_isWork0 ha (Or.inl (c0.trans hk))) ?_
    refine tv_b (pc' := 31) (ls' := [some (.ref 13), some (.ref a), some (.int (jI (sgn b))), none]) (st' := []) (h' := (n, sl, wKK kk, I, L, wQQ q)) 1 rfl ?_
    refine tv_rv rfl ⟨rfl, _, _, rfl, cSum_no h1 h2 hf ?_ hs, ⟨fun j _ _ _ _ => rfl, fun i _ _ => rfl, fun j _ => rfl⟩, fun h => absurd h (by rw [hk]; decide), fun _ => rfl⟩
    rw [hk]; decide
  · show am_T _ _ 0 [some (.ref 13), some (.ref a), some (.int (jI (sgn b))), none] _ _ _
    refine tv_b (pc' := 1) (ls' := [some (.ref 13), some (.ref a), some (.int (jI (sgn b))), none]) (st' := [.ref a]) (h' := (n, sl, wKK kk, I, L, wQQ q)) 1 rfl ?_
    refine tv_cvE [] [] rfl rfl (by omega) rfl (Nat.le_of_ble_eq_true rfl) (Nat.le_of_ble_eq_true rfl) (Or.inr (Or.inr (am_acK ha))) (ev_a_isWork0 ha (Or.inr (Or.inl (c0.trans hk)))) ?_
    refine tv_b (pc' := 31) (ls' := [some (.ref 13), some (.ref a), some (.int (jI (sgn b))), none]) (st' := []) (h' := (n, sl, wKK kk, I, L, wQQ q)) 1 rfl ?_
    refine tv_rv rfl ⟨rfl, _, _, rfl, cSum_no h1 h2 hf ?_ hs, ⟨fun j _ _ _ _ => rfl, fun i _ _ => rfl, fun j _ => rfl⟩, fun h => absurd h (by rw [hk]; decide), fun _ => rfl⟩
    rw [hk]; decide
  · show am_T _ _ 0 [some (.ref 13), some (.ref a), some (.int (jI (sgn b))), none] _ _ _
    refine tv_b (pc' := 1) (ls' := [some (.ref 13), some (.ref a), some (.int (jI (sgn b))), none]) (st' := [.ref a]) (h' := (n, sl, wKK kk, I, L, wQQ q)) 1 rfl ?_
    refine tv_cvE [] [] rfl rfl (by omega) rfl (Nat.le_of_ble_eq_true rfl) (Nat.le_of_ble_eq_true rfl) (Or.inr (Or.inr (am_acK ha))) (ev_a_isWork0 ha (Or.inr (Or.inr (c0.trans hk)))) ?_
    refine tv_b (pc' := 31) (ls' := [some (.ref 13), some (.ref a), some (.int (jI (sgn b))), none]) (st' := []) (h' := (n, sl, wKK kk, I, L, wQQ q)) 1 rfl ?_
    refine tv_rv rfl ⟨rfl, _, _, rfl, cSum_no h1 h2 hf ?_ hs, ⟨fun j _ _ _ _ => rfl, fun i _ _ => rfl, fun j _ => rfl⟩, fun h => absurd h (by rw [hk]; decide), fun _ => rfl⟩
    rw [hk]; decide
