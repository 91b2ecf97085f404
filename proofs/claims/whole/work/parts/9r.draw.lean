/-! THE CLASS SEARCHES -/
def sdI (I : Nat → Nat → Int32) (lst : Int32) (r74 r75 : Nat → Int32) (j i : Nat) : Int32 := cond (Nat.beq j 71) (cond (Nat.beq i 7) lst (I 71 i)) (cond (Nat.beq j 74) (r74 i) (cond (Nat.beq j 75) (r75 i) (I j i)))
theorem sdI_nb : ∀ {i k : Nat}, ¬ i = k → Nat.beq i k = false := fun h => Bool.eq_false_iff.mpr (fun q => h (Nat.eq_of_beq_eq_true q))
theorem sdI_w_lst {I : Nat → Nat → Int32} {lst : Int32} {r74 r75 : Nat → Int32} {y : Int32} : va_up (sdI I lst r74 r75) 71 (upd ((sdI I lst r74 r75) 71) 7 y) = sdI I y r74 r75 := by
  funext j i
  unfold va_up upd
  by_cases hj : j = 71
  · subst hj
    by_cases hi : i = 7
    · subst hi; rfl
    · rw [if_pos rfl, if_neg hi]; unfold sdI; simp only [sdI_nb hi, cond_false]
  · rw [if_neg hj]; unfold sdI; simp only [sdI_nb hj, cond_false]
theorem sdI_w_r74 {I : Nat → Nat → Int32} {lst : Int32} {r74 r75 : Nat → Int32} {y : Int32} {k : Nat} : va_up (sdI I lst r74 r75) 74 (upd ((sdI I lst r74 r75) 74) k y) = sdI I lst (upd r74 k y) r75 := by
  funext j i
  unfold va_up
  by_cases hj : j = 74
  · subst hj; rfl
  · rw [if_neg hj]; unfold sdI; simp only [sdI_nb hj, cond_false]
theorem sdI_w_r75 {I : Nat → Nat → Int32} {lst : Int32} {r74 r75 : Nat → Int32} {y : Int32} {k : Nat} : va_up (sdI I lst r74 r75) 75 (upd ((sdI I lst r74 r75) 75) k y) = sdI I lst r74 (upd r75 k y) := by
  funext j i
  unfold va_up
  by_cases hj : j = 75
  · subst hj; rfl
  · rw [if_neg hj]; unfold sdI; simp only [sdI_nb hj, cond_false]
def sdL (L : Nat → Nat → Int64) (r76 : Nat → Int64) (j i : Nat) : Int64 := cond (Nat.beq j 76) (r76 i) (L j i)
theorem sdL_nb : ∀ {i k : Nat}, ¬ i = k → Nat.beq i k = false := fun h => Bool.eq_false_iff.mpr (fun q => h (Nat.eq_of_beq_eq_true q))
theorem sdL_w_r76 {L : Nat → Nat → Int64} {r76 : Nat → Int64} {y : Int64} {k : Nat} : va_up (sdL L r76) 76 (vp_updL ((sdL L r76) 76) k y) = sdL L (vp_updL r76 k y) := by
  funext j i
  unfold va_up
  by_cases hj : j = 76
  · subst hj; rfl
  · rw [if_neg hj]; unfold sdL; simp only [sdL_nb hj, cond_false]
theorem sdI_o {I : Nat → Nat → Int32} {a : Int32} {r s : Nat → Int32} {j : Nat} (h1 : j ≠ 71) (h2 : j ≠ 74) (h3 : j ≠ 75) : sdI I a r s j = I j := by
  funext i
  unfold sdI
  rw [sdI_nb h1, sdI_nb h2, sdI_nb h3]
  rfl
theorem sdI_7 {I : Nat → Nat → Int32} {a : Int32} {r s : Nat → Int32} {k : Nat} (h : k ≠ 7) : sdI I a r s 71 k = I 71 k := by
  show cond (Nat.beq k 7) a (I 71 k) = _
  rw [sdI_nb h]
  rfl
theorem sdL_o {L : Nat → Nat → Int64} {r : Nat → Int64} {j : Nat} (h : j ≠ 76) : sdL L r j = L j := by
  funext i
  unfold sdL
  rw [sdL_nb h]
  rfl
theorem sd_cp {I : Nat → Nat → Int32} {a : Int32} {r s : Nat → Int32} : va_up (sdI I a r s) 75 (va_cpy ((sdI I a r s) 74) ((sdI I a r s) 75) (0 : Int32).toNatClampNeg (0 : Int32).toNatClampNeg (8 : Int32).toNatClampNeg) = sdI I a r (va_cpy r s 0 0 8) := by
  funext j i
  by_cases h : j = 75
  · subst h; rw [va_e1]; rfl
  · rw [va_n1 h]
    unfold sdI
    simp only [sdI_nb h, cond_false]
def lstI : bst → Int32
  | none => 2147483647
  | some w => nI w.1
/-- the kept way -/
def kpR (N : Nat) : bst → (Nat → Int32) → Prop
  | none, _ => True
  | some w, r => ∀ i, i < N → r i = rgI (w.2 i)
def bstB : bst → Prop
  | none => True
  | some w => w.1 ≤ 8000
theorem lst_ok {b : bst} {v : Nat} (hb : bstB b) (hv : v ≤ 8000) : nI v < lstI b ↔ okB b v = true := by
  cases b with
  | none =>
    refine ⟨fun _ => rfl, fun _ => Int32.lt_iff_toInt_lt.mpr ?_⟩
    rw [nI_j, jI_toInt ⟨by omega, by omega⟩]
    have : (lstI none).toInt = 2147483647 := rfl
    omega
  | some w =>
    have h2 : w.1 ≤ 8000 := hb
    show nI v < nI w.1 ↔ decide (v < w.1) = true
    rw [decide_eq_true_iff]
    exact nI_ltI (by omega) (by omega)
theorem shl9 : ∀ g, g < 8 → (nI g <<< ((9 : Int32) &&& 31)) = nI (512 * g) := by decide +kernel
theorem ev_s_keep {d n sl : Nat} {kk : Nat → Nat × Nat} {I : Nat → Nat → Int32} {L : Nat → Nat → Int64} {q : Nat → Nat → Option Nat} {lst x : Int32} {r74 r75 : Nat → Int32} {r76 : Nat → Int64} : am_Ev (d + 1) 97 0 (am_ent 2 [.ref 71, .int x]) [] (n, sl, wKK kk, (sdI I lst r74 r75), (sdL L r76), wQQ q) (none, (n, sl, wKK kk, (sdI I x r74 (va_cpy r74 r75 0 0 8)), (sdL L r76), wQQ q)) := by
  refine tv_ev ?_
  show am_T _ _ 0 [some (.ref 71), some (.int x)] _ _ _
  refine tv_b (pc' := 5) (ls' := [some (.ref 71), some (.int x)]) (st' := []) (h' := (n, sl, wKK kk, va_up (sdI I lst r74 r75) 71 (upd ((sdI I lst r74 r75) 71) 7 x), (sdL L r76), wQQ q)) 3 rfl ?_
  refine tv_hI sdI_w_lst ?_
  refine tv_b (pc' := 17) (ls' := [some (.ref 71), some (.int x)]) (st' := [.int 8, .int 0, .ref 75, .int 0, .ref 74]) (h' := (n, sl, wKK kk, (sdI I x r74 r75), (sdL L r76), wQQ q)) 7 rfl ?_
  refine tv_l (fun _ => ev_nat (st' := []) (h' := (n, sl, wKK kk, va_up (sdI I x r74 r75) 75 (va_cpy ((sdI I x r74 r75) 74) ((sdI I x r74 r75) 75) (0 : Int32).toNatClampNeg (0 : Int32).toNatClampNeg (8 : Int32).toNatClampNeg), (sdL L r76), wQQ q)) rfl rfl (fun run => rfl)) ?_
  refine tv_hI sd_cp ?_
  exact tv_rv rfl ⟨rfl, rfl⟩
theorem ev_s_nb1 {d n sl : Nat} {kk : Nat → Nat × Nat} {I : Nat → Nat → Int32} {L : Nat → Nat → Int64} {q : Nat → Nat → Option Nat} {lst : Int32} {r74 r75 : Nat → Int32} {r76 : Nat → Int64} {g t : Nat} {s : Int64} (hg : g < 8) (ht : t < 512) (h : ¬ 0 < lg_cmp (r76 (512 * g + t)) s) : am_Ev d 96 0 (am_ent 6 [.ref 71, .int (nI g), .long s, .int (nI t)]) [] (n, sl, wKK kk, (sdI I lst r74 r75), (sdL L r76), wQQ q) (some (.int 1), (n, sl, wKK kk, (sdI I lst r74 r75), (sdL L r76), wQQ q)) := by
  refine tv_ev ?_
  show am_T _ _ 0 [some (.ref 71), some (.int (nI g)), some (.long s), none, some (.int (nI t)), none] _ _ _
  refine tv_b (pc' := 4) (ls' := [some (.ref 71), some (.int (nI g)), some (.long s), none, some (.int (nI t)), none]) (st' := [.int ((nI g) <<< (9 &&& 31))]) (h' := (n, sl, wKK kk, (sdI I lst r74 r75), (sdL L r76), wQQ q)) 3 rfl ?_
  rw [shl9 g hg]
  refine tv_b (pc' := 6) (ls' := [some (.ref 71), some (.int (nI g)), some (.long s), none, some (.int (nI t)), none]) (st' := [.int (nI t), .int (nI (512 * g))]) (h' := (n, sl, wKK kk, (sdI I lst r74 r75), (sdL L r76), wQQ q)) 1 rfl ?_
  refine tv_b (pc' := 7) (ls' := [some (.ref 71), some (.int (nI g)), some (.long s), none, some (.int (nI t)), none]) (st' := [.int ((nI (512 * g)) + (nI t))]) (h' := (n, sl, wKK kk, (sdI I lst r74 r75), (sdL L r76), wQQ q)) 1 rfl ?_
  refine tv_top (show (nI (512 * g)) + (nI t) = nI ((512 * g) + t) from nI_add (512 * g) t) ?_
  refine tv_b (pc' := (if (nI ((512 * g) + t)) < 0 then 24 else 14)) (ls' := [some (.ref 71), some (.int (nI g)), some (.long s), none, some (.int (nI t)), some (.int (nI ((512 * g) + t)))]) (st' := []) (h' := (n, sl, wKK kk, (sdI I lst r74 r75), (sdL L r76), wQQ q)) 3 rfl ?_
  refine tv_f (nI_nlt (b := 0) (by omega) (by omega)) ?_
  refine tv_b (pc' := (if (nI ((512 * g) + t)) < 4096 then 26 else 24)) (ls' := [some (.ref 71), some (.int (nI g)), some (.long s), none, some (.int (nI t)), some (.int (nI ((512 * g) + t)))]) (st' := []) (h' := (n, sl, wKK kk, (sdI I lst r74 r75), (sdL L r76), wQQ q)) 5 rfl ?_
  refine tv_t ((nI_ltI (a := (512 * g) + t) (b := 4096) (by omega) (by omega)).mpr (by omega)) ?_
  refine tv_b (pc' := 32) (ls' := [some (.ref 71), some (.int (nI g)), some (.long s), none, some (.int (nI t)), some (.int (nI ((512 * g) + t)))]) (st' := [.int (nI ((512 * g) + t)), .ref 76]) (h' := (n, sl, wKK kk, (sdI I lst r74 r75), (sdL L r76), wQQ q)) 3 rfl ?_
  refine tv_lalN (k := ((512 * g) + t)) rfl (rfl) (⟨by omega, by omega⟩) ?_
  refine tv_b (pc' := (if 0 < (lg_cmp (r76 ((512 * g) + t)) s) then 40 else 38)) (ls' := [some (.ref 71), some (.int (nI g)), some (.long s), none, some (.int (nI t)), some (.int (nI ((512 * g) + t)))]) (st' := []) (h' := (n, sl, wKK kk, (sdI I lst r74 r75), (sdL L r76), wQQ q)) 3 rfl ?_
  refine tv_f (h) ?_
  refine tv_b (pc' := 39) (ls' := [some (.ref 71), some (.int (nI g)), some (.long s), none, some (.int (nI t)), some (.int (nI ((512 * g) + t)))]) (st' := [.int 1]) (h' := (n, sl, wKK kk, (sdI I lst r74 r75), (sdL L r76), wQQ q)) 1 rfl ?_
  exact tv_rz rfl (Or.inr rfl) ⟨rfl, rfl⟩
theorem ev_s_nb0 {d n sl : Nat} {kk : Nat → Nat × Nat} {I : Nat → Nat → Int32} {L : Nat → Nat → Int64} {q : Nat → Nat → Option Nat} {lst : Int32} {r74 r75 : Nat → Int32} {r76 : Nat → Int64} {g t : Nat} {s : Int64} (hg : g < 8) (ht : t < 512) (h : 0 < lg_cmp (r76 (512 * g + t)) s) : am_Ev d 96 0 (am_ent 6 [.ref 71, .int (nI g), .long s, .int (nI t)]) [] (n, sl, wKK kk, (sdI I lst r74 r75), (sdL L r76), wQQ q) (some (.int 0), (n, sl, wKK kk, (sdI I lst r74 r75), (sdL L (vp_updL r76 (512 * g + t) s)), wQQ q)) := by
  refine tv_ev ?_
  show am_T _ _ 0 [some (.ref 71), some (.int (nI g)), some (.long s), none, some (.int (nI t)), none] _ _ _
  refine tv_b (pc' := 4) (ls' := [some (.ref 71), some (.int (nI g)), some (.long s), none, some (.int (nI t)), none]) (st' := [.int ((nI g) <<< (9 &&& 31))]) (h' := (n, sl, wKK kk, (sdI I lst r74 r75), (sdL L r76), wQQ q)) 3 rfl ?_
  rw [shl9 g hg]
  refine tv_b (pc' := 6) (ls' := [some (.ref 71), some (.int (nI g)), some (.long s), none, some (.int (nI t)), none]) (st' := [.int (nI t), .int (nI (512 * g))]) (h' := (n, sl, wKK kk, (sdI I lst r74 r75), (sdL L r76), wQQ q)) 1 rfl ?_
  refine tv_b (pc' := 7) (ls' := [some (.ref 71), some (.int (nI g)), some (.long s), none, some (.int (nI t)), none]) (st' := [.int ((nI (512 * g)) + (nI t))]) (h' := (n, sl, wKK kk, (sdI I lst r74 r75), (sdL L r76), wQQ q)) 1 rfl ?_
  refine tv_top (show (nI (512 * g)) + (nI t) = nI ((512 * g) + t) from nI_add (512 * g) t) ?_
  refine tv_b (pc' := (if (nI ((512 * g) + t)) < 0 then 24 else 14)) (ls' := [some (.ref 71), some (.int (nI g)), some (.long s), none, some (.int (nI t)), some (.int (nI ((512 * g) + t)))]) (st' := []) (h' := (n, sl, wKK kk, (sdI I lst r74 r75), (sdL L r76), wQQ q)) 3 rfl ?_
  refine tv_f (nI_nlt (b := 0) (by omega) (by omega)) ?_
  refine tv_b (pc' := (if (nI ((512 * g) + t)) < 4096 then 26 else 24)) (ls' := [some (.ref 71), some (.int (nI g)), some (.long s), none, some (.int (nI t)), some (.int (nI ((512 * g) + t)))]) (st' := []) (h' := (n, sl, wKK kk, (sdI I lst r74 r75), (sdL L r76), wQQ q)) 5 rfl ?_
  refine tv_t ((nI_ltI (a := (512 * g) + t) (b := 4096) (by omega) (by omega)).mpr (by omega)) ?_
  refine tv_b (pc' := 32) (ls' := [some (.ref 71), some (.int (nI g)), some (.long s), none, some (.int (nI t)), some (.int (nI ((512 * g) + t)))]) (st' := [.int (nI ((512 * g) + t)), .ref 76]) (h' := (n, sl, wKK kk, (sdI I lst r74 r75), (sdL L r76), wQQ q)) 3 rfl ?_
  refine tv_lalN (k := ((512 * g) + t)) rfl (rfl) (⟨by omega, by omega⟩) ?_
  refine tv_b (pc' := (if 0 < (lg_cmp (r76 ((512 * g) + t)) s) then 40 else 38)) (ls' := [some (.ref 71), some (.int (nI g)), some (.long s), none, some (.int (nI t)), some (.int (nI ((512 * g) + t)))]) (st' := []) (h' := (n, sl, wKK kk, (sdI I lst r74 r75), (sdL L r76), wQQ q)) 3 rfl ?_
  refine tv_t (h) ?_
  refine tv_b (pc' := 47) (ls' := [some (.ref 71), some (.int (nI g)), some (.long s), none, some (.int (nI t)), some (.int (nI ((512 * g) + t)))]) (st' := [.long s, .int (nI ((512 * g) + t)), .ref 76]) (h' := (n, sl, wKK kk, (sdI I lst r74 r75), (sdL L r76), wQQ q)) 4 rfl ?_
  refine tv_lasN (k := ((512 * g) + t)) rfl (rfl) (⟨by omega, by omega⟩) ?_
  refine tv_hL sdL_w_r76 ?_
  refine tv_b (pc' := 49) (ls' := [some (.ref 71), some (.int (nI g)), some (.long s), none, some (.int (nI t)), some (.int (nI ((512 * g) + t)))]) (st' := [.int 0]) (h' := (n, sl, wKK kk, (sdI I lst r74 r75), (sdL L (vp_updL r76 ((512 * g) + t) s)), wQQ q)) 1 rfl ?_
  exact tv_rz rfl (Or.inl rfl) ⟨rfl, rfl⟩
