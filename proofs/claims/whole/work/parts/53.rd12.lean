/-! THE CLASS'S READER: a copy of a row; the whole text -/
theorem wKK_n {kk : Nat → Nat × Nat} {n : Nat} {x : Nat × Nat} (hn : 127 ≤ n) : wKK (va_up kk n x) n = x := by
  unfold wKK va_up
  rw [Nat.ble_eq_true_of_le hn, if_pos rfl]
  rfl
theorem va_n1 {α : Type} {f : Nat → α} {a j : Nat} {x : α} (h : j ≠ a) : va_up f a x j = f j := by
  unfold va_up
  rw [if_neg h]
theorem va_e1 {α : Type} {f : Nat → α} {a : Nat} {x : α} : va_up f a x a = x := by
  unfold va_up
  rw [if_pos rfl]
theorem va_up_2 {α : Type} {f : Nat → α} {a : Nat} {x y : α} : va_up (va_up f a x) a y = va_up f a y := by
  funext j
  unfold va_up
  by_cases e : j = a
  · rw [if_pos e, if_pos e]
  · simp only [if_neg e]
theorem tv_copyOf {d n sl : Nat} {kk : Nat → Nat × Nat} {I : Nat → Nat → Int32} {L : Nat → Nat → Int64} {q : Nat → Nat → Option Nat} {c : Nat} (hc : c < 800) (hn : 127 ≤ n) : am_T (d + 1) 255 0 (am_ent 3 [.ref 59, .int (nI c)]) [] (n, sl, wKK kk, I, L, wQQ q) (fun rv h' => rv = some (.ref n) ∧ h' = (n + 1, sl + c, wKK (va_up kk n (20, c)), va_up I n (va_cpy (I 59) (fun _ => 0) 0 0 c), va_up L n (fun _ => 0), wQQ (va_up q n (fun _ => none)))) := by
  show am_T _ _ 0 [some (.ref 59), some (.int (nI c)), none] _ _ _
  refine tv_b (pc' := (if nI c = 800 then 6 else 14)) (ls' := [some (.ref 59), some (.int (nI c)), none]) (st' := []) (h' := (n, sl, wKK kk, I, L, wQQ q)) 4 rfl ?_
  refine tv_f (fun hq => absurd ((nI_eq (a := c) (b := 800) (by omega) (by omega)).mp hq) (by omega)) ?_
  refine tv_b (pc' := 15) (ls' := [some (.ref 59), some (.int (nI c)), none]) (st' := [.int (nI c)]) (h' := (n, sl, wKK kk, I, L, wQQ q)) 1 rfl ?_
  refine tv_nai rfl hn (by omega) ?_
  refine tv_b (pc' := 25) (ls' := [some (.ref 59), some (.int (nI c)), some (.ref n)]) (st' := [.int (nI c), .int 800, .int 0, .ref n, .int 0, .ref 59]) (h' := (n + 1, sl + c, wKK (va_up kk n (20, c)), va_up I n (fun _ => 0), va_up L n (fun _ => 0), wQQ (va_up q n (fun _ => none)))) 8 rfl ?_
  refine tv_csE [.int 800, .int (nI c)] [.int 0, .ref n, .int 0, .ref 59] rfl rfl (by omega) rfl (Nat.le_of_ble_eq_true rfl) (Nat.le_of_ble_eq_true rfl) ev_minI ?_
  have e : sp_minI 800 (nI c) = nI c := by
    unfold sp_minI
    exact if_pos (show nI c < 800 from (nI_ltI (a := c) (b := 800) (by omega) (by omega)).mpr hc)
  refine tv_top e ?_
  have hK := wKK_n (kk := kk) (x := (20, c)) hn
  have hcc : (nI c).toNatClampNeg = c := nI_clamp (by omega)
  have hca : ∀ run, am_call run [7, 839, 841, 840, 91] [.int (nI c), .int 0, .ref n, .int 0, .ref 59] (n + 1, sl + c, wKK (va_up kk n (20, c)), va_up I n (fun _ => 0), va_up L n (fun _ => 0), wQQ (va_up q n (fun _ => none))) = some ([], (n + 1, sl + c, wKK (va_up kk n (20, c)), va_up I n (va_cpy (I 59) (fun _ => 0) 0 0 c), va_up L n (fun _ => 0), wQQ (va_up q n (fun _ => none)))) := by
    intro run
    show (if am_cat [] ≤ 8 ∧ (wKK (va_up kk n (20, c)) n).1 = 20 ∧ (wKK (va_up kk n (20, c)) 59).1 = 20 ∧ ¬ nI c < 0 ∧ ¬ (0 : Int32) < 0 ∧ ¬ (0 : Int32) < 0 ∧ (0 : Int32).toNatClampNeg + (nI c).toNatClampNeg ≤ (wKK (va_up kk n (20, c)) 59).2 ∧ (0 : Int32).toNatClampNeg + (nI c).toNatClampNeg ≤ (wKK (va_up kk n (20, c)) n).2 then
        some (([] : List Value), (n + 1, sl + c, wKK (va_up kk n (20, c)), va_up (va_up I n (fun _ => 0)) n (va_cpy ((va_up I n (fun _ => 0)) 59) ((va_up I n (fun _ => 0)) n) (0 : Int32).toNatClampNeg (0 : Int32).toNatClampNeg (nI c).toNatClampNeg), va_up L n (fun _ => 0), wQQ (va_up q n (fun _ => none)))) else none) = _
    rw [hK, hcc, if_pos ⟨by decide, rfl, rfl, nI_pos (by omega), by decide, by decide, by show 0 + c ≤ 800; omega, by show 0 + c ≤ c; omega⟩, va_up_2, va_n1 (show 59 ≠ n by omega), va_e1]
    rfl
  refine tv_l (fun _ => ev_nat (st' := []) (h' := (n + 1, sl + c, wKK (va_up kk n (20, c)), va_up I n (va_cpy (I 59) (fun _ => 0) 0 0 c), va_up L n (fun _ => 0), wQQ (va_up q n (fun _ => none)))) rfl rfl hca) ?_
  refine tv_b (pc' := 32) (ls' := [some (.ref 59), some (.int (nI c)), some (.ref n)]) (st' := [.ref n]) (h' := (n + 1, sl + c, wKK (va_up kk n (20, c)), va_up I n (va_cpy (I 59) (fun _ => 0) 0 0 c), va_up L n (fun _ => 0), wQQ (va_up q n (fun _ => none)))) 1 rfl ?_
  exact tv_ra rfl ⟨rfl, rfl⟩
/-- the cells of a mandate -/
def pa_flat : List (Nat × Nat × List Nat) → List Nat
  | [] => []
  | s :: r => s.1 :: s.2.1 :: s.2.2.length :: (s.2.2 ++ pa_flat r)
def pa_cons (s : Nat × Nat × List Nat) (r : Sum (Nat × Nat) (List (Nat × Nat × List Nat))) : Sum (Nat × Nat) (List (Nat × Nat × List Nat)) := match r with
  | .inl e => .inl e
  | .inr l => .inr (s :: l)
theorem pa_sk_sk {b : Nat → Nat} {n p : Nat} : pa_sk b n (pa_sk b n p) = pa_sk b n p := by
  by_cases h : pa_sk b n p < n
  · have e : pa_rn (fun i => pa_bl (b i)) p (n - p) < n - p := by unfold pa_sk at h; omega
    exact pa_sk_0 (pa_rn_out (P := fun i => pa_bl (b i)) (n - p) p e)
  · exact pa_sk_end (by omega)
theorem pa_tk_sk {b : Nat → Nat} {n p : Nat} : pa_tk b n (pa_sk b n p) = pa_tk b n p := by unfold pa_tk; simp only [pa_sk_sk]
theorem pa_ed_sk {b : Nat → Nat} {n p : Nat} : pa_ed b n (pa_sk b n p) = pa_ed b n p := by unfold pa_ed; simp only [pa_sk_sk]
theorem pa_lf_sk {b : Nat → Nat} {n p : Nat} : pa_lf b n (pa_sk b n p) = pa_lf b n p := by unfold pa_lf; simp only [pa_sk_sk]
theorem pa_nx_sk {b : Nat → Nat} {n p : Nat} : pa_nx b n (pa_sk b n p) = pa_nx b n p := by unfold pa_nx; simp only [pa_ed_sk]
theorem pa_stmt_sk {b : Nat → Nat} {n p : Nat} : pa_stmt b n (pa_sk b n p) = pa_stmt b n p := by unfold pa_stmt; simp only [pa_lf_sk, pa_tk_sk, pa_nx_sk, pa_sk_sk]
/-- what read answers, the store behind it -/
def rdR (n sl : Nat) (kk : Nat → Nat × Nat) (I : Nat → Nat → Int32) (L : Nat → Nat → Int64) (q : Nat → Nat → Option Nat) (r : Sum (Nat × Nat) (List (Nat × Nat × List Nat))) (ce : Nat) (cd : Nat → Int32) (rv : Option Value) (h' : am_H) : Prop := match r with
  | .inl (k, pl) => rv = some .null ∧ k ≠ 0 ∧ k ≤ 5 ∧ ∃ s a nm c cd', h' = (n, sl, wKK kk, rdI (va_up I 57 (upd (I 57) 1 0)) s a 39 nm (nI k) (nI pl) c cd', L, wQQ q)
  | .inr l => rv = some (.ref n) ∧ ce + (pa_flat l).length < 800 ∧ ∃ s a t nm, h' = (n + 1, sl + (ce + (pa_flat l).length), wKK (va_up kk n (20, ce + (pa_flat l).length)), va_up (rdI (va_up I 57 (upd (I 57) 1 0)) s a t nm 0 (-1) (nI (ce + (pa_flat l).length)) (pa_wr cd ce (pa_flat l))) n (va_cpy (pa_wr cd ce (pa_flat l)) (fun _ => 0) 0 0 (ce + (pa_flat l).length)), va_up L n (fun _ => 0), wQQ (va_up q n (fun _ => none)))
theorem rdI_57 {I : Nat → Nat → Int32} {xs xa xt xm xf xl xc x : Int32} {cd : Nat → Int32} : va_up (rdI I xs xa xt xm xf xl xc cd) 57 (upd ((rdI I xs xa xt xm xf xl xc cd) 57) 1 x) = rdI (va_up I 57 (upd (I 57) 1 x)) xs xa xt xm xf xl xc cd := by
  funext j i
  unfold va_up upd
  by_cases hj : j = 57
  · subst hj
    by_cases hi : i = 1
    · subst hi; rfl
    · rw [if_pos rfl, if_neg hi]
      unfold rdI
      simp only [if_true, hi, if_false]
  · unfold rdI
    simp only [if_neg hj, rdI_nb hj, cond_false]
theorem ev_r_dropC {d n sl : Nat} {kk : Nat → Nat × Nat} {I : Nat → Nat → Int32} {L : Nat → Nat → Int64} {q : Nat → Nat → Option Nat} {xs xa xt xm xf xl xc : Int32} {cd : Nat → Int32} : am_Ev d 66 0 (am_ent 1 [.ref 57]) [] (n, sl, wKK kk, (rdI I xs xa xt xm xf xl xc cd), L, wQQ q) (none, (n, sl, wKK kk, (rdI (va_up I 57 (upd (I 57) 1 0)) xs xa xt xm xf xl xc cd), L, wQQ q)) := by
  have e := ev_r_drop (d := d) (n := n) (sl := sl) (k := kk) (I := rdI I xs xa xt xm xf xl xc cd) (L := L) (q := q)
  have e2 : sI_r_drop (rdI I xs xa xt xm xf xl xc cd) L = rdI (va_up I 57 (upd (I 57) 1 0)) xs xa xt xm xf xl xc cd := rdI_57
  rw [e2] at e
  exact e
theorem tv_r_readF {d n sl : Nat} {kk : Nat → Nat × Nat} {I : Nat → Nat → Int32} {L : Nat → Nat → Int64} {q : Nat → Nat → Option Nat} {xs xa xm xc x1 : Int32} {cd cd0 : Nat → Int32} {k pl ce : Nat} (hk : k ≠ 0) (hk5 : k ≤ 5) : am_T (d + 2) 69 75 [some (.ref 57), some (.int x1)] [] (n, sl, wKK kk, (rdI I xs xa 39 xm (nI k) (nI pl) xc cd), L, wQQ q) (rdR n sl kk I L q (.inl (k, pl)) ce cd0) := by
  have hk0 : ¬ nI k = 0 := fun h => hk ((nI_eq (a := k) (b := 0) (by omega) (by omega)).mp h)
  refine tv_b (pc' := 76) (ls' := [some (.ref 57), some (.int x1)]) (st' := [.ref 57]) (h' := (n, sl, wKK kk, (rdI I xs xa 39 xm (nI k) (nI pl) xc cd), L, wQQ q)) 1 rfl ?_
  refine tv_cvE [] [] rfl rfl (by omega) rfl (Nat.le_of_ble_eq_true rfl) (Nat.le_of_ble_eq_true rfl) (Or.inr (Or.inr rfl)) (ev_r_dropC) ?_
  refine tv_b (pc' := (if (nI k) = 0 then 86 else 100)) (ls' := [some (.ref 57), some (.int x1)]) (st' := []) (h' := (n, sl, wKK kk, (rdI (va_up I 57 (upd (I 57) 1 0)) xs xa 39 xm (nI k) (nI pl) xc cd), L, wQQ q)) 3 rfl ?_
  refine tv_f (fun hq => absurd ((nI_eq (a := k) (b := 0) (by omega) (by omega)).mp hq) (hk)) ?_
  refine tv_b (pc' := 101) (ls' := [some (.ref 57), some (.int x1)]) (st' := [.null]) (h' := (n, sl, wKK kk, (rdI (va_up I 57 (upd (I 57) 1 0)) xs xa 39 xm (nI k) (nI pl) xc cd), L, wQQ q)) 1 rfl ?_
  exact tv_rn rfl ⟨rfl, hk, hk5, _, _, _, _, _, rfl⟩
theorem tv_r_readN {d n sl : Nat} {kk : Nat → Nat × Nat} {I : Nat → Nat → Int32} {L : Nat → Nat → Int64} {q : Nat → Nat → Option Nat} {xs xa xt xm x1 : Int32} {cd : Nat → Int32} {ce : Nat} (hce : ce < 800) (hn : 127 ≤ n) : am_T (d + 2) 69 75 [some (.ref 57), some (.int x1)] [] (n, sl, wKK kk, (rdI I xs xa xt xm 0 (-1) (nI ce) cd), L, wQQ q) (rdR n sl kk I L q (.inr []) ce cd) := by
  refine tv_b (pc' := 76) (ls' := [some (.ref 57), some (.int x1)]) (st' := [.ref 57]) (h' := (n, sl, wKK kk, (rdI I xs xa xt xm 0 (-1) (nI ce) cd), L, wQQ q)) 1 rfl ?_
  refine tv_cvE [] [] rfl rfl (by omega) rfl (Nat.le_of_ble_eq_true rfl) (Nat.le_of_ble_eq_true rfl) (Or.inr (Or.inr rfl)) (ev_r_dropC) ?_
  refine tv_b (pc' := 94) (ls' := [some (.ref 57), some (.int x1)]) (st' := [.int (nI ce), .ref 59]) (h' := (n, sl, wKK kk, (rdI (va_up I 57 (upd (I 57) 1 0)) xs xa xt xm 0 (-1) (nI ce) cd), L, wQQ q)) 7 rfl ?_
  refine tv_cs [.ref 59, .int (nI ce)] [] rfl rfl (by omega) rfl (Nat.le_of_ble_eq_true rfl) (Nat.le_of_ble_eq_true rfl) (tv_copyOf hce hn) ?_
  rintro rv9 h9 ⟨rfl, rfl⟩
  refine tv_b (pc' := 101) (ls' := [some (.ref 57), some (.int x1)]) (st' := [.ref n]) (h' := (n + 1, sl + ce, wKK (va_up kk n (20, ce)), va_up (rdI (va_up I 57 (upd (I 57) 1 0)) xs xa xt xm 0 (-1) (nI ce) cd) n (va_cpy cd (fun _ => 0) 0 0 ce), va_up L n (fun _ => 0), wQQ (va_up q n (fun _ => none)))) 1 rfl ?_
  exact tv_ra rfl ⟨rfl, hce, _, _, _, _, rfl⟩
theorem rdR_s {n sl : Nat} {kk : Nat → Nat × Nat} {I : Nat → Nat → Int32} {L : Nat → Nat → Int64} {q : Nat → Nat → Option Nat} {r : Sum (Nat × Nat) (List (Nat × Nat × List Nat))} {ce k w : Nat} {cs : List Nat} {cd : Nat → Int32} {rv : Option Value} {h' : am_H} (h : rdR n sl kk I L q r (ce + 3 + cs.length) (pa_wr cd ce (k :: w :: cs.length :: cs)) rv h') : rdR n sl kk I L q (pa_cons (k, w, cs) r) ce cd rv h' := by
  rcases r with ⟨e1, e2⟩ | l
  · exact h
  · have e : ce + 3 + cs.length + (pa_flat l).length = ce + (pa_flat ((k, w, cs) :: l)).length := by
      show _ = ce + (k :: w :: cs.length :: (cs ++ pa_flat l)).length
      simp only [List.length_cons, List.length_append]
      omega
    have e3 : pa_wr (pa_wr cd ce (k :: w :: cs.length :: cs)) (ce + 3 + cs.length) (pa_flat l) = pa_wr cd ce (pa_flat ((k, w, cs) :: l)) := by
      have := pa_wr_app (k :: w :: cs.length :: cs) (pa_flat l) cd ce
      rw [show ce + (k :: w :: cs.length :: cs).length = ce + 3 + cs.length by simp only [List.length_cons]; omega] at this
      rw [this]
      rfl
    unfold rdR at h
    unfold rdR pa_cons
    simp only at h ⊢
    rw [e, e3] at h
    exact h
theorem tv_r_readL {d n sl : Nat} {kk : Nat → Nat × Nat} {I : Nat → Nat → Int32} {L : Nat → Nat → Int64} {q : Nat → Nat → Option Nat} {tx : Nat → Nat} {T : Nat} (hH : rdH tx T I) (hW : rdW kk I) (hn : 127 ≤ n) : ∀ (f i A ce : Nat) (cd : Nat → Int32) (xs xt xm : Int32), i + f = 20 → A ≤ T → (ce = 0 ∨ ce < A) → am_T (d + 37) 69 27 [some (.ref 57), some (.int (nI i))] [] (n, sl, wKK kk, (rdI I xs (nI A) xt xm 0 (-1) (nI ce) cd), L, wQQ q) (rdR n sl kk I L q (pa_stmts tx T f A) ce cd) := by
  have hT := hH.2.1
  intro f
  induction f with
  | zero =>
    intro i A ce cd xs xt xm hi hA hce
    have e1 : pa_stmts tx T 0 A = if pa_sk tx T A < T then .inl (5, pa_sk tx T A) else .inr [] := rfl
    refine tv_b (pc' := (if 20 < (nI i) then 75 else 33)) (ls' := [some (.ref 57), some (.int (nI i))]) (st' := []) (h' := (n, sl, wKK kk, (rdI I xs (nI A) xt xm 0 (-1) (nI ce) cd), L, wQQ q)) 3 rfl ?_
    refine tv_f (fun hq => absurd ((nI_ltI (a := 20) (b := i) (by omega) (by omega)).mp hq) (by omega)) ?_
    refine tv_b (pc' := 41) (ls' := [some (.ref 57), some (.int (nI i))]) (st' := [.ref 57]) (h' := (n, sl, wKK kk, (rdI I xs (nI A) xt xm 0 (-1) (nI ce) cd), L, wQQ q)) 4 rfl ?_
    refine tv_cv [] [] rfl rfl (by omega) rfl (Nat.le_of_ble_eq_true rfl) (Nat.le_of_ble_eq_true rfl) (Or.inr (Or.inr rfl)) (tv_r_isMore hH _ A rfl hA) ?_
    rintro rv9 h9 ⟨rfl, rfl⟩
    refine tv_b (pc' := (if (if pa_sk tx T A < T then 1 else 0) = 0 then 75 else 47)) (ls' := [some (.ref 57), some (.int (nI i))]) (st' := []) (h' := (n, sl, wKK kk, (rdI I xs (nI (pa_sk tx T A)) xt xm 0 (-1) (nI ce) cd), L, wQQ q)) 1 rfl ?_
    refine tv_b0 (fun c44 => ?_) (fun c44 => ?_)
    · rw [e1, if_neg c44]
      exact tv_r_readN (by omega) hn
    · refine tv_b (pc' := (if 20 ≤ (nI i) then 60 else 53)) (ls' := [some (.ref 57), some (.int (nI i))]) (st' := []) (h' := (n, sl, wKK kk, (rdI I xs (nI (pa_sk tx T A)) xt xm 0 (-1) (nI ce) cd), L, wQQ q)) 3 rfl ?_
      refine tv_t ((nI_leI (a := 20) (b := i) (by omega) (by omega)).mpr (by omega)) ?_
      refine tv_b (pc' := 66) (ls' := [some (.ref 57), some (.int (nI i))]) (st' := [.int (nI (pa_sk tx T A)), .int 5, .ref 57]) (h' := (n, sl, wKK kk, (rdI I xs (nI (pa_sk tx T A)) xt xm 0 (-1) (nI ce) cd), L, wQQ q)) 4 rfl ?_
      refine tv_cvE [.int 5, .int (nI (pa_sk tx T A))] [] rfl rfl (by omega) rfl (Nat.le_of_ble_eq_true rfl) (Nat.le_of_ble_eq_true rfl) (Or.inr (Or.inr rfl)) (ev_r_fail0) ?_
      refine tv_iincN (k := i) (ls' := [some (.ref 57), some (.int (nI (i + 1)))]) rfl rfl rfl ?_
      refine tv_b (pc' := 27) (ls' := [some (.ref 57), some (.int (nI (i + 1)))]) (st' := []) (h' := (n, sl, wKK kk, (rdI I xs (nI (pa_sk tx T A)) 39 xm 5 (nI (pa_sk tx T A)) (nI ce) cd), L, wQQ q)) 1 rfl ?_
      refine tv_b (pc' := (if 20 < (nI (i + 1)) then 75 else 33)) (ls' := [some (.ref 57), some (.int (nI (i + 1)))]) (st' := []) (h' := (n, sl, wKK kk, (rdI I xs (nI (pa_sk tx T A)) 39 xm 5 (nI (pa_sk tx T A)) (nI ce) cd), L, wQQ q)) 3 rfl ?_
      refine tv_t ((nI_ltI (a := 20) (b := i + 1) (by omega) (by omega)).mpr (by omega)) ?_
      rw [e1, if_pos c44]
      exact tv_r_readF (k := 5) (by decide) (by decide)
  | succ f ih =>
    intro i A ce cd xs xt xm hi hA hce
    have e1 : pa_stmts tx T (f + 1) A = if pa_sk tx T A < T then (match pa_stmt tx T A with
      | .inl e => .inl e
      | .inr (p', st) => match pa_stmts tx T f p' with
        | .inl e => .inl e
        | .inr l => .inr (st :: l)) else .inr [] := rfl
    refine tv_b (pc' := (if 20 < (nI i) then 75 else 33)) (ls' := [some (.ref 57), some (.int (nI i))]) (st' := []) (h' := (n, sl, wKK kk, (rdI I xs (nI A) xt xm 0 (-1) (nI ce) cd), L, wQQ q)) 3 rfl ?_
    refine tv_f (fun hq => absurd ((nI_ltI (a := 20) (b := i) (by omega) (by omega)).mp hq) (by omega)) ?_
    refine tv_b (pc' := 41) (ls' := [some (.ref 57), some (.int (nI i))]) (st' := [.ref 57]) (h' := (n, sl, wKK kk, (rdI I xs (nI A) xt xm 0 (-1) (nI ce) cd), L, wQQ q)) 4 rfl ?_
    refine tv_cv [] [] rfl rfl (by omega) rfl (Nat.le_of_ble_eq_true rfl) (Nat.le_of_ble_eq_true rfl) (Or.inr (Or.inr rfl)) (tv_r_isMore hH _ A rfl hA) ?_
    rintro rv9 h9 ⟨rfl, rfl⟩
    refine tv_b (pc' := (if (if pa_sk tx T A < T then 1 else 0) = 0 then 75 else 47)) (ls' := [some (.ref 57), some (.int (nI i))]) (st' := []) (h' := (n, sl, wKK kk, (rdI I xs (nI (pa_sk tx T A)) xt xm 0 (-1) (nI ce) cd), L, wQQ q)) 1 rfl ?_
    refine tv_b0 (fun c44 => ?_) (fun c44 => ?_)
    · rw [e1, if_neg c44]
      exact tv_r_readN (by omega) hn
    · refine tv_b (pc' := (if 20 ≤ (nI i) then 60 else 53)) (ls' := [some (.ref 57), some (.int (nI i))]) (st' := []) (h' := (n, sl, wKK kk, (rdI I xs (nI (pa_sk tx T A)) xt xm 0 (-1) (nI ce) cd), L, wQQ q)) 3 rfl ?_
      refine tv_f (fun hq => absurd ((nI_leI (a := 20) (b := i) (by omega) (by omega)).mp hq) (by omega)) ?_
      refine tv_b (pc' := 54) (ls' := [some (.ref 57), some (.int (nI i))]) (st' := [.ref 57]) (h' := (n, sl, wKK kk, (rdI I xs (nI (pa_sk tx T A)) xt xm 0 (-1) (nI ce) cd), L, wQQ q)) 1 rfl ?_
      refine tv_cv [] [] rfl rfl (by omega) rfl (Nat.le_of_ble_eq_true rfl) (Nat.le_of_ble_eq_true rfl) (Or.inr (Or.inr rfl)) (tv_r_statement hH hW (pa_sk_le hA) (by have := pa_sk_ge (b := tx) (n := T) A; omega)) ?_
      rintro rv9 h9 ⟨rfl, I9, rfl, ho⟩
      rw [pa_stmt_sk] at ho
      rcases hs : pa_stmt tx T A with ⟨k0, l0⟩ | ⟨p0, k0, w0, cs0⟩ <;> rw [hs] at ho
      · obtain ⟨hk0, hk5, s0, a0, m0, c0, d0, _, _, rfl⟩ := ho
        refine tv_b (pc' := 69) (ls' := [some (.ref 57), some (.int (nI i))]) (st' := []) (h' := (n, sl, wKK kk, (rdI I (nI s0) (nI a0) 39 m0 (nI k0) (nI l0) (nI c0) d0), L, wQQ q)) 1 rfl ?_
        refine tv_iincN (k := i) (ls' := [some (.ref 57), some (.int (nI (i + 1)))]) rfl rfl rfl ?_
        refine tv_b (pc' := 27) (ls' := [some (.ref 57), some (.int (nI (i + 1)))]) (st' := []) (h' := (n, sl, wKK kk, (rdI I (nI s0) (nI a0) 39 m0 (nI k0) (nI l0) (nI c0) d0), L, wQQ q)) 1 rfl ?_
        refine tv_b (pc' := (if 20 < (nI (i + 1)) then 75 else 33)) (ls' := [some (.ref 57), some (.int (nI (i + 1)))]) (st' := []) (h' := (n, sl, wKK kk, (rdI I (nI s0) (nI a0) 39 m0 (nI k0) (nI l0) (nI c0) d0), L, wQQ q)) 3 rfl ?_
        refine tv_f (fun hq => absurd ((nI_ltI (a := 20) (b := i + 1) (by omega) (by omega)).mp hq) (by omega)) ?_
        refine tv_b (pc' := (if (nI k0) = 0 then 40 else 75)) (ls' := [some (.ref 57), some (.int (nI (i + 1)))]) (st' := []) (h' := (n, sl, wKK kk, (rdI I (nI s0) (nI a0) 39 m0 (nI k0) (nI l0) (nI c0) d0), L, wQQ q)) 3 rfl ?_
        refine tv_f (fun hq => absurd ((nI_eq (a := k0) (b := 0) (by omega) (by omega)).mp hq) (hk0)) ?_
        rw [e1, if_pos c44, hs]
        exact tv_r_readF hk0 hk5
      · obtain ⟨hp0, hl0, s0, t0, m0, rfl⟩ := ho
        refine tv_b (pc' := 69) (ls' := [some (.ref 57), some (.int (nI i))]) (st' := []) (h' := (n, sl, wKK kk, (rdI I s0 (nI p0) t0 m0 0 (-1) (nI (ce + 3 + cs0.length)) (pa_wr cd ce (k0 :: w0 :: cs0.length :: cs0))), L, wQQ q)) 1 rfl ?_
        refine tv_iincN (k := i) (ls' := [some (.ref 57), some (.int (nI (i + 1)))]) rfl rfl rfl ?_
        refine tv_b (pc' := 27) (ls' := [some (.ref 57), some (.int (nI (i + 1)))]) (st' := []) (h' := (n, sl, wKK kk, (rdI I s0 (nI p0) t0 m0 0 (-1) (nI (ce + 3 + cs0.length)) (pa_wr cd ce (k0 :: w0 :: cs0.length :: cs0))), L, wQQ q)) 1 rfl ?_
        rw [e1, if_pos c44, hs]
        exact tv_w (ih (i + 1) p0 _ _ _ _ _ (by omega) hp0 (Or.inr hl0)) (fun rv h9 ho => rdR_s ho)
theorem rdI_self {I : Nat → Nat → Int32} : I = rdI I (I 57 2) (I 57 3) (I 57 4) (I 57 5) (I 57 6) (I 57 7) (I 57 9) (I 59) := by
  funext j i
  unfold rdI
  by_cases hj : j = 57
  · subst hj
    show I 57 i = cond (Nat.beq i 2) _ _
    by_cases h2 : i = 2
    · subst h2; rfl
    by_cases h3 : i = 3
    · subst h3; rfl
    by_cases h4 : i = 4
    · subst h4; rfl
    by_cases h5 : i = 5
    · subst h5; rfl
    by_cases h6 : i = 6
    · subst h6; rfl
    by_cases h7 : i = 7
    · subst h7; rfl
    by_cases h9 : i = 9
    · subst h9; rfl
    simp only [rdI_nb h2, rdI_nb h3, rdI_nb h4, rdI_nb h5, rdI_nb h6, rdI_nb h7, rdI_nb h9, cond_false]
  · by_cases h9 : j = 59
    · subst h9; rfl
    · simp only [rdI_nb hj, rdI_nb h9, cond_false]
theorem tv_r_read {d n sl : Nat} {kk : Nat → Nat × Nat} {I : Nat → Nat → Int32} {L : Nat → Nat → Int64} {q : Nat → Nat → Option Nat} {tx : Nat → Nat} {T : Nat} (hH : rdH tx T I) (hW : rdW kk I) (hn : 127 ≤ n) : am_T (d + 37) 69 0 (am_ent 2 [.ref 57]) [] (n, sl, wKK kk, I, L, wQQ q) (rdR n sl kk I L q (pa_read tx T) 0 (I 59)) := by
  refine tv_hI rdI_self ?_
  show am_T _ _ 0 [some (.ref 57), none] _ _ _
  refine tv_b (pc' := 5) (ls' := [some (.ref 57), none]) (st' := []) (h' := (n, sl, wKK kk, va_up (rdI I (I 57 2) (I 57 3) (I 57 4) (I 57 5) (I 57 6) (I 57 7) (I 57 9) (I 59)) 57 (upd ((rdI I (I 57 2) (I 57 3) (I 57 4) (I 57 5) (I 57 6) (I 57 7) (I 57 9) (I 59)) 57) 2 0), L, wQQ q)) 3 rfl ?_
  refine tv_hI rdI_w_xs ?_
  refine tv_b (pc' := 10) (ls' := [some (.ref 57), none]) (st' := []) (h' := (n, sl, wKK kk, va_up (rdI I 0 (I 57 3) (I 57 4) (I 57 5) (I 57 6) (I 57 7) (I 57 9) (I 59)) 57 (upd ((rdI I 0 (I 57 3) (I 57 4) (I 57 5) (I 57 6) (I 57 7) (I 57 9) (I 59)) 57) 3 0), L, wQQ q)) 3 rfl ?_
  refine tv_hI rdI_w_xa ?_
  refine tv_b (pc' := 15) (ls' := [some (.ref 57), none]) (st' := []) (h' := (n, sl, wKK kk, va_up (rdI I 0 0 (I 57 4) (I 57 5) (I 57 6) (I 57 7) (I 57 9) (I 59)) 57 (upd ((rdI I 0 0 (I 57 4) (I 57 5) (I 57 6) (I 57 7) (I 57 9) (I 59)) 57) 9 0), L, wQQ q)) 3 rfl ?_
  refine tv_hI rdI_w_xc ?_
  refine tv_b (pc' := 20) (ls' := [some (.ref 57), none]) (st' := []) (h' := (n, sl, wKK kk, va_up (rdI I 0 0 (I 57 4) (I 57 5) (I 57 6) (I 57 7) 0 (I 59)) 57 (upd ((rdI I 0 0 (I 57 4) (I 57 5) (I 57 6) (I 57 7) 0 (I 59)) 57) 6 0), L, wQQ q)) 3 rfl ?_
  refine tv_hI rdI_w_xf ?_
  refine tv_b (pc' := 25) (ls' := [some (.ref 57), none]) (st' := []) (h' := (n, sl, wKK kk, va_up (rdI I 0 0 (I 57 4) (I 57 5) 0 (I 57 7) 0 (I 59)) 57 (upd ((rdI I 0 0 (I 57 4) (I 57 5) 0 (I 57 7) 0 (I 59)) 57) 7 (-1)), L, wQQ q)) 3 rfl ?_
  refine tv_hI rdI_w_xl ?_
  refine tv_b (pc' := 27) (ls' := [some (.ref 57), some (.int 0)]) (st' := []) (h' := (n, sl, wKK kk, (rdI I 0 0 (I 57 4) (I 57 5) 0 (-1) 0 (I 59)), L, wQQ q)) 2 rfl ?_
  exact tv_r_readL hH hW hn 20 0 0 0 _ _ _ _ rfl (Nat.zero_le _) (Or.inl rfl)
