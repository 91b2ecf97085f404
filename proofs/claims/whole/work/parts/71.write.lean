/-! A NEW ACT, WRITTEN -/
theorem tv_obj {d mi pc a N sl : Nat} {ls : am_L} {st : List Value} {v : Value} {K : Nat → Nat × Nat} {I : Nat → Nat → Int32} {L : Nat → Nat → Int64} {Q : Nat → Nat → Option Nat} {P : Option Value → am_H → Prop} {i : Instr} {len : Nat} {tl : List Nat} (hP : am_P mi pc = some (i, len, 2 :: tl, v)) (hk : am_kind i = 2) (hcat : am_cat st ≤ 8) (k : am_T (d + 1) mi (pc + 3) ls st (N, sl, K, I, L, Q) P) : am_T (d + 1) mi pc ls (.ref a :: st) (N, sl, K, I, L, Q) P := by
  refine tv_l (fun _ => ev_nat hP hk (fun run => ?_)) k
  show (if am_cat st ≤ 8 then some (st, (N, sl, K, I, L, Q)) else none) = _
  rw [if_pos hcat]
theorem va_uu {α : Type} {f : Nat → α} {a : Nat} {x y : α} : va_up (va_up f a x) a y = va_up f a y := by
  funext j
  by_cases h : j = a
  · subst h; rw [va_e1, va_e1]
  · rw [va_n1 h, va_n1 h, va_n1 h]
def acR (k f t w m r : Int32) : Nat → Int32 := upd (upd (upd (upd (upd (upd (fun _ => 0) 0 k) 1 f) 2 t) 3 w) 4 m) 5 r
theorem ev_a_init {d n sl : Nat} {kk : Nat → Nat × Nat} {I : Nat → Nat → Int32} {L : Nat → Nat → Int64} {q : Nat → Nat → Option Nat} {a : Nat} {k f t w m r : Int32} {x : Value} {o : Option Nat} (hx : x = va_rf o) (ha : 131 ≤ a ∧ kk a = (0, 0)) (h0 : I a = fun _ => 0) : am_Ev (d + 1) 1 0 (am_ent 8 [.ref a, .int k, .int f, .int t, .int w, .int m, .int r, x]) [] (n, sl, wKK kk, I, L, wQQ q) (none, (n, sl, wKK kk, va_up I a (acR k f t w m r), L, wQQ (va_up q a (va_up (q a) 6 o)))) := by
  refine tv_ev ?_
  subst hx
  cases o with
  | none =>
    show am_T _ _ 0 [some (.ref a), some (.int k), some (.int f), some (.int t), some (.int w), some (.int m), some (.int r), some (.null)] _ _ _
    refine tv_b (pc' := 1) (ls' := [some (.ref a), some (.int k), some (.int f), some (.int t), some (.int w), some (.int m), some (.int r), some (.null)]) (st' := [.ref a]) (h' := (n, sl, wKK kk, I, L, wQQ q)) 1 rfl ?_
    refine tv_obj rfl rfl (by decide) ?_
    refine tv_b (pc' := 6) (ls' := [some (.ref a), some (.int k), some (.int f), some (.int t), some (.int w), some (.int m), some (.int r), some (.null)]) (st' := [.int k, .ref a]) (h' := (n, sl, wKK kk, I, L, wQQ q)) 2 rfl ?_
    refine tv_pfa rfl (Or.inl rfl) (am_acK ha) ?_
    refine tv_b (pc' := 11) (ls' := [some (.ref a), some (.int k), some (.int f), some (.int t), some (.int w), some (.int m), some (.int r), some (.null)]) (st' := [.int f, .ref a]) (h' := (n, sl, wKK kk, va_up I a (upd (I a) 0 k), L, wQQ q)) 2 rfl ?_
    refine tv_pfa rfl (Or.inl rfl) (am_acK ha) ?_
    refine tv_b (pc' := 16) (ls' := [some (.ref a), some (.int k), some (.int f), some (.int t), some (.int w), some (.int m), some (.int r), some (.null)]) (st' := [.int t, .ref a]) (h' := (n, sl, wKK kk, va_up (va_up I a (upd (I a) 0 k)) a (upd ((va_up I a (upd (I a) 0 k)) a) 1 f), L, wQQ q)) 2 rfl ?_
    refine tv_pfa rfl (Or.inl rfl) (am_acK ha) ?_
    refine tv_b (pc' := 22) (ls' := [some (.ref a), some (.int k), some (.int f), some (.int t), some (.int w), some (.int m), some (.int r), some (.null)]) (st' := [.int w, .ref a]) (h' := (n, sl, wKK kk, va_up (va_up (va_up I a (upd (I a) 0 k)) a (upd ((va_up I a (upd (I a) 0 k)) a) 1 f)) a (upd ((va_up (va_up I a (upd (I a) 0 k)) a (upd ((va_up I a (upd (I a) 0 k)) a) 1 f)) a) 2 t), L, wQQ q)) 2 rfl ?_
    refine tv_pfa rfl (Or.inl rfl) (am_acK ha) ?_
    refine tv_b (pc' := 28) (ls' := [some (.ref a), some (.int k), some (.int f), some (.int t), some (.int w), some (.int m), some (.int r), some (.null)]) (st' := [.int m, .ref a]) (h' := (n, sl, wKK kk, va_up (va_up (va_up (va_up I a (upd (I a) 0 k)) a (upd ((va_up I a (upd (I a) 0 k)) a) 1 f)) a (upd ((va_up (va_up I a (upd (I a) 0 k)) a (upd ((va_up I a (upd (I a) 0 k)) a) 1 f)) a) 2 t)) a (upd ((va_up (va_up (va_up I a (upd (I a) 0 k)) a (upd ((va_up I a (upd (I a) 0 k)) a) 1 f)) a (upd ((va_up (va_up I a (upd (I a) 0 k)) a (upd ((va_up I a (upd (I a) 0 k)) a) 1 f)) a) 2 t)) a) 3 w), L, wQQ q)) 2 rfl ?_
    refine tv_pfa rfl (Or.inl rfl) (am_acK ha) ?_
    refine tv_b (pc' := 34) (ls' := [some (.ref a), some (.int k), some (.int f), some (.int t), some (.int w), some (.int m), some (.int r), some (.null)]) (st' := [.int r, .ref a]) (h' := (n, sl, wKK kk, va_up (va_up (va_up (va_up (va_up I a (upd (I a) 0 k)) a (upd ((va_up I a (upd (I a) 0 k)) a) 1 f)) a (upd ((va_up (va_up I a (upd (I a) 0 k)) a (upd ((va_up I a (upd (I a) 0 k)) a) 1 f)) a) 2 t)) a (upd ((va_up (va_up (va_up I a (upd (I a) 0 k)) a (upd ((va_up I a (upd (I a) 0 k)) a) 1 f)) a (upd ((va_up (va_up I a (upd (I a) 0 k)) a (upd ((va_up I a (upd (I a) 0 k)) a) 1 f)) a) 2 t)) a) 3 w)) a (upd ((va_up (va_up (va_up (va_up I a (upd (I a) 0 k)) a (upd ((va_up I a (upd (I a) 0 k)) a) 1 f)) a (upd ((va_up (va_up I a (upd (I a) 0 k)) a (upd ((va_up I a (upd (I a) 0 k)) a) 1 f)) a) 2 t)) a (upd ((va_up (va_up (va_up I a (upd (I a) 0 k)) a (upd ((va_up I a (upd (I a) 0 k)) a) 1 f)) a (upd ((va_up (va_up I a (upd (I a) 0 k)) a (upd ((va_up I a (upd (I a) 0 k)) a) 1 f)) a) 2 t)) a) 3 w)) a) 4 m), L, wQQ q)) 2 rfl ?_
    refine tv_pfa rfl (Or.inl rfl) (am_acK ha) ?_
    refine tv_b (pc' := 40) (ls' := [some (.ref a), some (.int k), some (.int f), some (.int t), some (.int w), some (.int m), some (.int r), some (.null)]) (st' := [.null, .ref a]) (h' := (n, sl, wKK kk, va_up (va_up (va_up (va_up (va_up (va_up I a (upd (I a) 0 k)) a (upd ((va_up I a (upd (I a) 0 k)) a) 1 f)) a (upd ((va_up (va_up I a (upd (I a) 0 k)) a (upd ((va_up I a (upd (I a) 0 k)) a) 1 f)) a) 2 t)) a (upd ((va_up (va_up (va_up I a (upd (I a) 0 k)) a (upd ((va_up I a (upd (I a) 0 k)) a) 1 f)) a (upd ((va_up (va_up I a (upd (I a) 0 k)) a (upd ((va_up I a (upd (I a) 0 k)) a) 1 f)) a) 2 t)) a) 3 w)) a (upd ((va_up (va_up (va_up (va_up I a (upd (I a) 0 k)) a (upd ((va_up I a (upd (I a) 0 k)) a) 1 f)) a (upd ((va_up (va_up I a (upd (I a) 0 k)) a (upd ((va_up I a (upd (I a) 0 k)) a) 1 f)) a) 2 t)) a (upd ((va_up (va_up (va_up I a (upd (I a) 0 k)) a (upd ((va_up I a (upd (I a) 0 k)) a) 1 f)) a (upd ((va_up (va_up I a (upd (I a) 0 k)) a (upd ((va_up I a (upd (I a) 0 k)) a) 1 f)) a) 2 t)) a) 3 w)) a) 4 m)) a (upd ((va_up (va_up (va_up (va_up (va_up I a (upd (I a) 0 k)) a (upd ((va_up I a (upd (I a) 0 k)) a) 1 f)) a (upd ((va_up (va_up I a (upd (I a) 0 k)) a (upd ((va_up I a (upd (I a) 0 k)) a) 1 f)) a) 2 t)) a (upd ((va_up (va_up (va_up I a (upd (I a) 0 k)) a (upd ((va_up I a (upd (I a) 0 k)) a) 1 f)) a (upd ((va_up (va_up I a (upd (I a) 0 k)) a (upd ((va_up I a (upd (I a) 0 k)) a) 1 f)) a) 2 t)) a) 3 w)) a (upd ((va_up (va_up (va_up (va_up I a (upd (I a) 0 k)) a (upd ((va_up I a (upd (I a) 0 k)) a) 1 f)) a (upd ((va_up (va_up I a (upd (I a) 0 k)) a (upd ((va_up I a (upd (I a) 0 k)) a) 1 f)) a) 2 t)) a (upd ((va_up (va_up (va_up I a (upd (I a) 0 k)) a (upd ((va_up I a (upd (I a) 0 k)) a) 1 f)) a (upd ((va_up (va_up I a (upd (I a) 0 k)) a (upd ((va_up I a (upd (I a) 0 k)) a) 1 f)) a) 2 t)) a) 3 w)) a) 4 m)) a) 5 r), L, wQQ q)) 2 rfl ?_
    refine tv_pfq (o := none) rfl rfl ha.1 (am_acK ha) ?_
    refine tv_hI (I' := va_up I a (acR k f t w m r)) (by simp only [va_uu, va_e1, h0]; rfl) ?_
    exact tv_rv rfl ⟨rfl, rfl⟩
  | some c =>
    show am_T _ _ 0 [some (.ref a), some (.int k), some (.int f), some (.int t), some (.int w), some (.int m), some (.int r), some (.ref c)] _ _ _
    refine tv_b (pc' := 1) (ls' := [some (.ref a), some (.int k), some (.int f), some (.int t), some (.int w), some (.int m), some (.int r), some (.ref c)]) (st' := [.ref a]) (h' := (n, sl, wKK kk, I, L, wQQ q)) 1 rfl ?_
    refine tv_obj rfl rfl (by decide) ?_
    refine tv_b (pc' := 6) (ls' := [some (.ref a), some (.int k), some (.int f), some (.int t), some (.int w), some (.int m), some (.int r), some (.ref c)]) (st' := [.int k, .ref a]) (h' := (n, sl, wKK kk, I, L, wQQ q)) 2 rfl ?_
    refine tv_pfa rfl (Or.inl rfl) (am_acK ha) ?_
    refine tv_b (pc' := 11) (ls' := [some (.ref a), some (.int k), some (.int f), some (.int t), some (.int w), some (.int m), some (.int r), some (.ref c)]) (st' := [.int f, .ref a]) (h' := (n, sl, wKK kk, va_up I a (upd (I a) 0 k), L, wQQ q)) 2 rfl ?_
    refine tv_pfa rfl (Or.inl rfl) (am_acK ha) ?_
    refine tv_b (pc' := 16) (ls' := [some (.ref a), some (.int k), some (.int f), some (.int t), some (.int w), some (.int m), some (.int r), some (.ref c)]) (st' := [.int t, .ref a]) (h' := (n, sl, wKK kk, va_up (va_up I a (upd (I a) 0 k)) a (upd ((va_up I a (upd (I a) 0 k)) a) 1 f), L, wQQ q)) 2 rfl ?_
    refine tv_pfa rfl (Or.inl rfl) (am_acK ha) ?_
    refine tv_b (pc' := 22) (ls' := [some (.ref a), some (.int k), some (.int f), some (.int t), some (.int w), some (.int m), some (.int r), some (.ref c)]) (st' := [.int w, .ref a]) (h' := (n, sl, wKK kk, va_up (va_up (va_up I a (upd (I a) 0 k)) a (upd ((va_up I a (upd (I a) 0 k)) a) 1 f)) a (upd ((va_up (va_up I a (upd (I a) 0 k)) a (upd ((va_up I a (upd (I a) 0 k)) a) 1 f)) a) 2 t), L, wQQ q)) 2 rfl ?_
    refine tv_pfa rfl (Or.inl rfl) (am_acK ha) ?_
    refine tv_b (pc' := 28) (ls' := [some (.ref a), some (.int k), some (.int f), some (.int t), some (.int w), some (.int m), some (.int r), some (.ref c)]) (st' := [.int m, .ref a]) (h' := (n, sl, wKK kk, va_up (va_up (va_up (va_up I a (upd (I a) 0 k)) a (upd ((va_up I a (upd (I a) 0 k)) a) 1 f)) a (upd ((va_up (va_up I a (upd (I a) 0 k)) a (upd ((va_up I a (upd (I a) 0 k)) a) 1 f)) a) 2 t)) a (upd ((va_up (va_up (va_up I a (upd (I a) 0 k)) a (upd ((va_up I a (upd (I a) 0 k)) a) 1 f)) a (upd ((va_up (va_up I a (upd (I a) 0 k)) a (upd ((va_up I a (upd (I a) 0 k)) a) 1 f)) a) 2 t)) a) 3 w), L, wQQ q)) 2 rfl ?_
    refine tv_pfa rfl (Or.inl rfl) (am_acK ha) ?_
    refine tv_b (pc' := 34) (ls' := [some (.ref a), some (.int k), some (.int f), some (.int t), some (.int w), some (.int m), some (.int r), some (.ref c)]) (st' := [.int r, .ref a]) (h' := (n, sl, wKK kk, va_up (va_up (va_up (va_up (va_up I a (upd (I a) 0 k)) a (upd ((va_up I a (upd (I a) 0 k)) a) 1 f)) a (upd ((va_up (va_up I a (upd (I a) 0 k)) a (upd ((va_up I a (upd (I a) 0 k)) a) 1 f)) a) 2 t)) a (upd ((va_up (va_up (va_up I a (upd (I a) 0 k)) a (upd ((va_up I a (upd (I a) 0 k)) a) 1 f)) a (upd ((va_up (va_up I a (upd (I a) 0 k)) a (upd ((va_up I a (upd (I a) 0 k)) a) 1 f)) a) 2 t)) a) 3 w)) a (upd ((va_up (va_up (va_up (va_up I a (upd (I a) 0 k)) a (upd ((va_up I a (upd (I a) 0 k)) a) 1 f)) a (upd ((va_up (va_up I a (upd (I a) 0 k)) a (upd ((va_up I a (upd (I a) 0 k)) a) 1 f)) a) 2 t)) a (upd ((va_up (va_up (va_up I a (upd (I a) 0 k)) a (upd ((va_up I a (upd (I a) 0 k)) a) 1 f)) a (upd ((va_up (va_up I a (upd (I a) 0 k)) a (upd ((va_up I a (upd (I a) 0 k)) a) 1 f)) a) 2 t)) a) 3 w)) a) 4 m), L, wQQ q)) 2 rfl ?_
    refine tv_pfa rfl (Or.inl rfl) (am_acK ha) ?_
    refine tv_b (pc' := 40) (ls' := [some (.ref a), some (.int k), some (.int f), some (.int t), some (.int w), some (.int m), some (.int r), some (.ref c)]) (st' := [.ref c, .ref a]) (h' := (n, sl, wKK kk, va_up (va_up (va_up (va_up (va_up (va_up I a (upd (I a) 0 k)) a (upd ((va_up I a (upd (I a) 0 k)) a) 1 f)) a (upd ((va_up (va_up I a (upd (I a) 0 k)) a (upd ((va_up I a (upd (I a) 0 k)) a) 1 f)) a) 2 t)) a (upd ((va_up (va_up (va_up I a (upd (I a) 0 k)) a (upd ((va_up I a (upd (I a) 0 k)) a) 1 f)) a (upd ((va_up (va_up I a (upd (I a) 0 k)) a (upd ((va_up I a (upd (I a) 0 k)) a) 1 f)) a) 2 t)) a) 3 w)) a (upd ((va_up (va_up (va_up (va_up I a (upd (I a) 0 k)) a (upd ((va_up I a (upd (I a) 0 k)) a) 1 f)) a (upd ((va_up (va_up I a (upd (I a) 0 k)) a (upd ((va_up I a (upd (I a) 0 k)) a) 1 f)) a) 2 t)) a (upd ((va_up (va_up (va_up I a (upd (I a) 0 k)) a (upd ((va_up I a (upd (I a) 0 k)) a) 1 f)) a (upd ((va_up (va_up I a (upd (I a) 0 k)) a (upd ((va_up I a (upd (I a) 0 k)) a) 1 f)) a) 2 t)) a) 3 w)) a) 4 m)) a (upd ((va_up (va_up (va_up (va_up (va_up I a (upd (I a) 0 k)) a (upd ((va_up I a (upd (I a) 0 k)) a) 1 f)) a (upd ((va_up (va_up I a (upd (I a) 0 k)) a (upd ((va_up I a (upd (I a) 0 k)) a) 1 f)) a) 2 t)) a (upd ((va_up (va_up (va_up I a (upd (I a) 0 k)) a (upd ((va_up I a (upd (I a) 0 k)) a) 1 f)) a (upd ((va_up (va_up I a (upd (I a) 0 k)) a (upd ((va_up I a (upd (I a) 0 k)) a) 1 f)) a) 2 t)) a) 3 w)) a (upd ((va_up (va_up (va_up (va_up I a (upd (I a) 0 k)) a (upd ((va_up I a (upd (I a) 0 k)) a) 1 f)) a (upd ((va_up (va_up I a (upd (I a) 0 k)) a (upd ((va_up I a (upd (I a) 0 k)) a) 1 f)) a) 2 t)) a (upd ((va_up (va_up (va_up I a (upd (I a) 0 k)) a (upd ((va_up I a (upd (I a) 0 k)) a) 1 f)) a (upd ((va_up (va_up I a (upd (I a) 0 k)) a (upd ((va_up I a (upd (I a) 0 k)) a) 1 f)) a) 2 t)) a) 3 w)) a) 4 m)) a) 5 r), L, wQQ q)) 2 rfl ?_
    refine tv_pfq (o := (some c)) rfl rfl ha.1 (am_acK ha) ?_
    refine tv_hI (I' := va_up I a (acR k f t w m r)) (by simp only [va_uu, va_e1, h0]; rfl) ?_
    exact tv_rv rfl ⟨rfl, rfl⟩
/-- the book with an act more -/
def ahN (ah : Nat → Nat) (C a : Nat) : Nat → Nat := fun i => if i = C then a else ah i
theorem isF0 {I : Nat → Nat → Int32} {L : Nat → Nat → Int64} {C : Nat} (h : I 55 2 = nI C) (hC : C < 200) : sp_b_isFull I L = 0 := by
  unfold sp_b_isFull
  rw [h]
  exact if_pos (show nI C < nI 200 from nI_lt hC (by omega))
theorem isF1 {I : Nat → Nat → Int32} {L : Nat → Nat → Int64} (h : I 55 2 = nI 200) : ¬ sp_b_isFull I L = 0 := by
  unfold sp_b_isFull
  rw [h]
  decide
theorem tv_b_write {d n sl : Nat} {kk : Nat → Nat × Nat} {I : Nat → Nat → Int32} {L : Nat → Nat → Int64} {q : Nat → Nat → Option Nat} {X0 X : Nat → Nat → Int32} {C a : Nat} {ah : Nat → Nat} {f : Nat → Bool} (hB : wfB X) (hc : cTow I X) (hw : cWet I X) (b1 : am_Bk kk q C ah) (b2 : ∀ i, i < C → ah i < n) (b3 : ∀ i j, i < C → j < C → ah i = ah j → i = j) (ha : 131 ≤ a ∧ kk a = (0, 0)) (han : a < n) (hne : ∀ i, i < C → ah i ≠ a) (hX : nC X = C + 1) (b5 : ∀ i, i < C → cAct I X (i + 1) (ah i)) (b5a : cAct I X (C + 1) a) (h2 : I 55 2 = nI C) (h3 : I 55 3 = X 80 46) (b8 : ∀ i, i < C → I (ah i) 8 = bz (f (i + 1))) (b8a : I a 8 = 0) (hf : f (C + 1) = false) (hs : cSum I L X f) (hd : cDay I L X0) (hT : rT X0 X) (hx : ∀ d, sXY X0 (kn X0) X f d) : am_T (d + 4) 10 0 (am_ent 2 [.ref 55, .ref a]) [] (n, sl, wKK kk, I, L, wQQ q) (fun rv h' => rv = some (.int (nI (C + 1))) ∧ ∃ I' L' R, h' = (n, sl, wKK kk, I', L', wQQ (va_up q 56 (va_up (q 56) C (some a)))) ∧ cGr n kk (va_up q 56 (va_up (q 56) C (some a))) I' L' X (C + 1) (ahN ah C a) ∧ LI X (C + 1) (ahN ah C a) f (kn X) R (va_up I 55 (upd (I 55) 2 (nI (C + 1)))) L I' L' (C + 1)) := by
  have hC : C < 200 := by have := hB.1.2; omega
  show am_T _ _ 0 [some (.ref 55), some (.ref a)] _ _ _
  refine tv_b (pc' := 1) (ls' := [some (.ref 55), some (.ref a)]) (st' := [.ref 55]) (h' := (n, sl, wKK kk, I, L, wQQ q)) 1 rfl ?_
  refine tv_cvE [] [] rfl rfl (by omega) rfl (Nat.le_of_ble_eq_true rfl) (Nat.le_of_ble_eq_true rfl) (Or.inr (Or.inr rfl)) (ev_b_isFull) ?_
  refine tv_b (pc' := (if (sp_b_isFull I L) = 0 then 9 else 7)) (ls' := [some (.ref 55), some (.ref a)]) (st' := []) (h' := (n, sl, wKK kk, I, L, wQQ q)) 1 rfl ?_
  refine tv_t (isF0 h2 (by omega)) ?_
  refine tv_b (pc' := 17) (ls' := [some (.ref 55), some (.ref a)]) (st' := [.int (I 55 2), .ref 56]) (h' := (n, sl, wKK kk, I, L, wQQ q)) 4 rfl ?_
  refine tv_top (h2) ?_
  refine tv_b (pc' := 18) (ls' := [some (.ref 55), some (.ref a)]) (st' := [.ref a, .int (nI C), .ref 56]) (h' := (n, sl, wKK kk, I, L, wQQ q)) 1 rfl ?_
  refine tv_aas56 rfl (by omega) (am_acK ha) ?_
  refine tv_b (pc' := 24) (ls' := [some (.ref 55), some (.ref a)]) (st' := [.int (I 55 2), .ref 55]) (h' := (n, sl, wKK kk, I, L, wQQ (va_up q 56 (va_up (q 56) C (some a))))) 3 rfl ?_
  refine tv_top (h2) ?_
  refine tv_b (pc' := 25) (ls' := [some (.ref 55), some (.ref a)]) (st' := [.int 1, .int (nI C), .ref 55]) (h' := (n, sl, wKK kk, I, L, wQQ (va_up q 56 (va_up (q 56) C (some a))))) 1 rfl ?_
  refine tv_b (pc' := 26) (ls' := [some (.ref 55), some (.ref a)]) (st' := [.int ((nI C) + 1), .ref 55]) (h' := (n, sl, wKK kk, I, L, wQQ (va_up q 56 (va_up (q 56) C (some a))))) 1 rfl ?_
  refine tv_top (show (nI C) + 1 = nI (C + 1) from nI_add C 1) ?_
  refine tv_b (pc' := 29) (ls' := [some (.ref 55), some (.ref a)]) (st' := []) (h' := (n, sl, wKK kk, va_up I 55 (upd (I 55) 2 (nI (C + 1))), L, wQQ (va_up q 56 (va_up (q 56) C (some a))))) 1 rfl ?_
  refine tv_b (pc' := 30) (ls' := [some (.ref 55), some (.ref a)]) (st' := [.ref 55]) (h' := (n, sl, wKK kk, va_up I 55 (upd (I 55) 2 (nI (C + 1))), L, wQQ (va_up q 56 (va_up (q 56) C (some a))))) 1 rfl ?_
  have hlo : ∀ j, j ≠ 55 → (va_up I 55 (upd (I 55) 2 (nI (C + 1)))) j = I j := fun j hj => va_n1 hj
  have h55 : ∀ i, i < C → ah i ≠ 55 := fun i hi => by have := (b1 i hi).2.1; omega
  have ha55 : a ≠ 55 := by omega
  have hah1 : ∀ i, i < C → ahN ah C a i = ah i := fun i hi => if_neg (by omega)
  have hahC : ahN ah C a C = a := if_pos rfl
  have hbk : cBook n kk (va_up q 56 (va_up (q 56) C (some a))) (va_up I 55 (upd (I 55) 2 (nI (C + 1)))) X (C + 1) (ahN ah C a) f := by
    refine ⟨⟨fun i hi => ?_, fun i hi => ?_, fun i j hi hj => ?_⟩, hX, fun i hi => ?_, ?_, h3, fun i hi => ?_⟩
    · show (va_up (q 56) C (some a)) i = some (ahN ah C a i) ∧ _
      by_cases e : i = C
      · subst e; rw [va_e1, hahC]; exact ⟨rfl, ha⟩
      · rw [va_n1 e, hah1 i (by omega)]; exact b1 i (by omega)
    · by_cases e : i = C
      · subst e; rw [hahC]; exact han
      · rw [hah1 i (by omega)]; exact b2 i (by omega)
    · by_cases e : i = C
      · subst e
        by_cases e2 : j = i
        · exact fun _ => e2.symm
        · rw [hahC, hah1 j (by omega)]; exact fun z => absurd z.symm (hne j (by omega))
      · by_cases e2 : j = C
        · subst e2; rw [hahC, hah1 i (by omega)]; exact fun z => absurd z (hne i (by omega))
        · rw [hah1 i (by omega), hah1 j (by omega)]; exact b3 i j (by omega) (by omega)
    · unfold cAct
      by_cases e : i = C
      · subst e; rw [hahC, hlo a ha55]; exact b5a
      · rw [hah1 i (by omega), hlo _ (h55 i (by omega))]; exact b5 i (by omega)
    · rw [va_e1, upd_e, hB.1.1, hX]
    · by_cases e : i = C
      · subst e; rw [hahC, hlo a ha55, hf]; exact b8a
      · rw [hah1 i (by omega), hlo _ (h55 i (by omega))]; exact b8 i (by omega)
  have hsb : cSum (va_up I 55 (upd (I 55) 2 (nI (C + 1)))) L X f := fun d hd => ⟨(hs d hd).1, (hs d hd).2.1, (hs d hd).2.2.1, fun c hc => by rw [hlo (19 + c) (by omega)]; exact (hs d hd).2.2.2 c hc⟩
  refine tv_cv [] [] rfl rfl (by omega) rfl (Nat.le_of_ble_eq_true rfl) (Nat.le_of_ble_eq_true rfl) (Or.inr (Or.inr rfl)) (tv_b_learnG hB (show cTow (va_up I 55 (upd (I 55) 2 (nI (C + 1)))) X from hc) (show cWet (va_up I 55 (upd (I 55) 2 (nI (C + 1)))) X from hw) hbk hsb (show cDay (va_up I 55 (upd (I 55) 2 (nI (C + 1)))) L X0 from hd) hT hx) ?_
  rintro rv9 h9 ⟨rfl, I9, L9, R9, rfl, g9, l9⟩
  have h92 : I9 55 2 = nI (C + 1) := by rw [l9.2.2.2.2.2.1 2 (by decide), va_e1, upd_e]
  refine tv_b (pc' := 37) (ls' := [some (.ref 55), some (.ref a)]) (st' := [.int (I9 55 2)]) (h' := (n, sl, wKK kk, I9, L9, wQQ (va_up q 56 (va_up (q 56) C (some a))))) 2 rfl ?_
  refine tv_top (h92) ?_
  exact tv_ri rfl ⟨rfl, I9, L9, R9, rfl, g9, l9⟩
