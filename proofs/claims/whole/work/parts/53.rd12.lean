/-! THE CLASS'S READER: a copy of a row; the whole text -/
theorem wKK_n {kk : Nat → Nat × Nat} {n : Nat} {x : Nat × Nat} (hn : 131 ≤ n) : wKK (va_up kk n x) n = x := by
  unfold wKK va_up
  rw [Nat.ble_eq_true_of_le hn, if_pos rfl]
  rfl
theorem va_n1 {α : Type} {f : Nat → α} {a j : Nat} {x : α} (h : j ≠ a) : va_up f a x j = f j := by
  unfold va_up
  rw [if_neg h]
theorem va_e1 {α : Type} {f : Nat → α} {a : Nat} {x : α} : va_up f a x a = x := by
  unfold va_up
  rw [if_pos rfl]
theorem va_up_2 {α : Type} {f : Nat → α} {a : Nat} {x y : α} : va_up (va_up f a x) a y = va_up f a y := by
  funext j
  unfold va_up
  by_cases e : j = a
  · rw [if_pos e, if_pos e]
  · simp only [if_neg e]
theorem tv_copyOf {d n sl : Nat} {kk : Nat → Nat × Nat} {I : Nat → Nat → Int32} {L : Nat → Nat → Int64} {q : Nat → Nat → Option Nat} {c : Nat} (hc : c < 800) (hn : 131 ≤ n) : am_T (d + 1) 255 0 (am_ent 3 [.ref 59, .int (nI c)]) [] (n, sl, wKK kk, I, L, wQQ q) (fun rv h' => rv = some (.ref n) ∧ h' = (n + 1, sl + c, wKK (va_up kk n (20, c)), va_up I n (va_cpy (I 59) (fun _ => 0) 0 0 c), va_up L n (fun _ => 0), wQQ (va_up q n (fun _ => none)))) := by
  show am_T _ _ 0 [some (.ref 59), some (.int (nI c)), none] _ _ _
  refine tv_b (pc' := (if nI c = 800 then 6 else 14)) (ls' := [some (.ref 59), some (.int (nI c)), none]) (st' := []) (h' := (n, sl, wKK kk, I, L, wQQ q)) 4 rfl ?_
  refine tv_f (fun hq => absurd ((nI_eq (a := c) (b := 800) (by omega) (by omega)).mp hq) (by omega)) ?_
  refine tv_b (pc' := 15) (ls' := [some (.ref 59), some (.int (nI c)), none]) (st' := [.int (nI c)]) (h' := (n, sl, wKK kk, I, L, wQQ q)) 1 rfl ?_
  refine tv_nai rfl hn (by omega) ?_
  refine tv_b (pc' := 25) (ls' := [some (.ref 59), some (.int (nI c)), some (.ref n)]) (st' := [.int (nI c), .int 800, .int 0, .ref n, .int 0, .ref 59]) (h' := (n + 1, sl + c, wKK (va_up kk n (20, c)), va_up I n (fun _ => 0), va_up L n (fun _ => 0), wQQ (va_up q n (fun _ => none)))) 8 rfl ?_
  refine tv_csE [.int 800, .int (nI c)] [.int 0, .ref n, .int 0, .ref 59] rfl rfl (by omega) rfl (Nat.le_of_ble_eq_true rfl) (Nat.le_of_ble_eq_true rfl) ev_minI ?_
  have e : sp_minI 800 (nI c) = nI c := by
    unfold sp_minI
    exact if_pos (show nI c < 800 from (nI_ltI (a := c) (b := 800) (by omega) (by omega)).mpr hc)
  refine tv_top e ?_
  have hK := wKK_n (kk := kk) (x := (20, c)) hn
  have hcc : (nI c).toNatClampNeg = c := nI_clamp (by omega)
  have hca : ∀ run, am_call run [7, 875, 877, 876, 94] [.int (nI c), .int 0, .ref n, .int 0, .ref 59] (n + 1, sl + c, wKK (va_up kk n (20, c)), va_up I n (fun _ => 0), va_up L n (fun _ => 0), wQQ (va_up q n (fun _ => none))) = some ([], (n + 1, sl + c, wKK (va_up kk n (20, c)), va_up I n (va_cpy (I 59) (fun _ => 0) 0 0 c), va_up L n (fun _ => 0), wQQ (va_up q n (fun _ => none)))) := by
    intro run
    show (if am_cat [] ≤ 8 ∧ (wKK (va_up kk n (20, c)) n).1 = 20 ∧ (wKK (va_up kk n (20, c)) 59).1 = 20 ∧ ¬ nI c < 0 ∧ ¬ (0 : Int32) < 0 ∧ ¬ (0 : Int32) < 0 ∧ (0 : Int32).toNatClampNeg + (nI c).toNatClampNeg ≤ (wKK (va_up kk n (20, c)) 59).2 ∧ (0 : Int32).toNatClampNeg + (nI c).toNatClampNeg ≤ (wKK (va_up kk n (20, c)) n).2 then
        some (([] : List Value), (n + 1, sl + c, wKK (va_up kk n (20, c)), va_up (va_up I n (fun _ => 0)) n (va_cpy ((va_up I n (fun _ => 0)) 59) ((va_up I n (fun _ => 0)) n) (0 : Int32).toNatClampNeg (0 : Int32).toNatClampNeg (nI c).toNatClampNeg), va_up L n (fun _ => 0), wQQ (va_up q n (fun _ => none)))) else none) = _
    rw [hK, hcc, if_pos ⟨by decide, rfl, rfl, nI_pos (by omega), by decide, by decide, by show 0 + c ≤ 800; omega, by show 0 + c ≤ c; omega⟩, va_up_2, va_n1 (show 59 ≠ n by omega), va_e1]
    rfl
  refine tv_l (fun _ => ev_nat (st' := []) (h' := (n + 1, sl + c, wKK (va_up kk n (20, c)), va_up I n (va_cpy (I 59) (fun _ => 0) 0 0 c), va_up L n (fun _ => 0), wQQ (va_up q n (fun _ => none)))) rfl rfl hca) ?_
  refine tv_b (pc' := 32) (ls' := [some (.ref 59), some (.int (nI c)), some (.ref n)]) (st' := [.ref n]) (h' := (n + 1, sl + c, wKK (va_up kk n (20, c)), va_up I n (va_cpy (I 59) (fun _ => 0) 0 0 c), va_up L n (fun _ => 0), wQQ (va_up q n (fun _ => none)))) 1 rfl ?_
  exact tv_ra rfl ⟨rfl, rfl⟩
/-- the cells of a mandate -/
def pa_flat : List (Nat × Nat × List Nat) → List Nat
  | [] => []
  | s :: r => s.1 :: s.2.1 :: s.2.2.length :: (s.2.2 ++ pa_flat r)
def pa_cons (s : Nat × Nat × List Nat) (r : Sum (Nat × Nat) (List (Nat × Nat × List Nat))) : Sum (Nat × Nat) (List (Nat × Nat × List Nat)) := match r with
  | .inl e => .inl e
  | .inr l => .inr (s :: l)
theorem pa_nx_sk {b : Nat → Nat} {n p : Nat} : pa_nx b n (pa_sk b n p) = pa_nx b n p := by unfold pa_nx; simp only [pa_ed_sk]
theorem pa_stmt_sk {b : Nat → Nat} {n p : Nat} : pa_stmt b n (pa_sk b n p) = pa_stmt b n p := by unfold pa_stmt; simp only [pa_lf_sk, pa_tk_sk, pa_nx_sk, pa_sk_sk]
theorem pa_kd_38 {b : Nat → Nat} {n p : Nat} : pa_kd b n p = 38 ↔ ¬ pa_sk b n p < n := by
  constructor
  · intro h hs
    have h2 : pa_tk b n p = 38 := by
      cases hl : pa_lf b n p with
      | none => rw [← (pa_kd_n hl).1]; exact h
      | some f => rw [(pa_kd_s hl).1] at h; cases h
    unfold pa_tk at h2
    simp only [if_pos hs] at h2
    split at h2
    · unfold pa_wtk at h2; split at h2 <;> omega
    · split at h2
      · omega
      · unfold pa_sgn at h2; split at h2 <;> omega
  · intro h
    have E := pa_c_end (b := b) h
    rw [(pa_kd_n E.1).1]
    exact E.2.1
theorem pa_kd_lt {b : Nat → Nat} {n p : Nat} : pa_kd b n p < 40 := by
  cases hl : pa_lf b n p with
  | none => rw [(pa_kd_n hl).1]; exact pa_tk_lt p
  | some f => rw [(pa_kd_s hl).1]; decide
/-- what read answers, the store behind it: over a base J with the tokens found -/
def rdRJ (n sl : Nat) (kk : Nat → Nat × Nat) (J : Nat → Nat → Int32) (L : Nat → Nat → Int64) (q : Nat → Nat → Option Nat) (r : Sum (Nat × Nat) (List (Nat × Nat × List Nat))) (ce : Nat) (cd : Nat → Int32) (rv : Option Value) (h' : am_H) : Prop := match r with
  | .inl (k, pl) => rv = some .null ∧ k ≠ 0 ∧ k ≤ 5 ∧ ∃ s w t nm g c cd', h' = (n, sl, wKK kk, rdI J s w t nm g (nI k) (nI pl) c cd', L, wQQ q)
  | .inr l => rv = some (.ref n) ∧ ce + (pa_flat l).length < 800 ∧ ∃ s w t nm g, h' = (n + 1, sl + (ce + (pa_flat l).length), wKK (va_up kk n (20, ce + (pa_flat l).length)), va_up (rdI J s w t nm g 0 (-1) (nI (ce + (pa_flat l).length)) (pa_wr cd ce (pa_flat l))) n (va_cpy (pa_wr cd ce (pa_flat l)) (fun _ => 0) 0 0 (ce + (pa_flat l).length)), va_up L n (fun _ => 0), wQQ (va_up q n (fun _ => none)))
theorem rdRJ_s {n sl : Nat} {kk : Nat → Nat × Nat} {I : Nat → Nat → Int32} {L : Nat → Nat → Int64} {q : Nat → Nat → Option Nat} {r : Sum (Nat × Nat) (List (Nat × Nat × List Nat))} {ce k w : Nat} {cs : List Nat} {cd : Nat → Int32} {rv : Option Value} {h' : am_H} (h : rdRJ n sl kk I L q r (ce + 3 + cs.length) (pa_wr cd ce (k :: w :: cs.length :: cs)) rv h') : rdRJ n sl kk I L q (pa_cons (k, w, cs) r) ce cd rv h' := by
  rcases r with ⟨e1, e2⟩ | l
  · exact h
  · have e : ce + 3 + cs.length + (pa_flat l).length = ce + (pa_flat ((k, w, cs) :: l)).length := by
      show _ = ce + (k :: w :: cs.length :: (cs ++ pa_flat l)).length
      simp only [List.length_cons, List.length_append]
      omega
    have e3 : pa_wr (pa_wr cd ce (k :: w :: cs.length :: cs)) (ce + 3 + cs.length) (pa_flat l) = pa_wr cd ce (pa_flat ((k, w, cs) :: l)) := by
      have := pa_wr_app (k :: w :: cs.length :: cs) (pa_flat l) cd ce
      rw [show ce + (k :: w :: cs.length :: cs).length = ce + 3 + cs.length by simp only [List.length_cons]; omega] at this
      rw [this]
      rfl
    unfold rdRJ at h
    unfold rdRJ pa_cons
    simp only at h ⊢
    rw [e, e3] at h
    exact h
theorem ev_within {d c : Nat} {h : am_H} (hc : c ≤ 800) : am_Ev d 146 0 (am_ent 6 [.long (nI c).toInt64, .long 0, .long 800]) [] h (some (.int 1), h) := by
  have e := ev_isWithin (d := d) (h := h) (x := (nI c).toInt64) (a := 0) (b := 800)
  have hv : (nI c).toInt64.toInt = (c : Int) := nI_toI64 (by omega)
  have e2 : sp_isWithin (nI c).toInt64 0 800 = 1 := by
    unfold sp_isWithin
    have h1 : ¬ (nI c).toInt64 < 0 := fun z => by
      have := Int64.lt_iff_toInt_lt.mp z
      rw [hv] at this
      have h0 : (0 : Int64).toInt = 0 := rfl
      omega
    have h2 : ¬ (800 : Int64) < (nI c).toInt64 := fun z => by
      have := Int64.lt_iff_toInt_lt.mp z
      rw [hv] at this
      have h0 : (800 : Int64).toInt = 800 := rfl
      omega
    rw [if_neg (fun z => h1 ((lg_cmp_lt _ _).mp z)), if_neg (fun z => h2 ((lg_cmp_gt _ _).mp z))]
  rw [e2] at e
  exact e
theorem tv_r_readN {d n sl : Nat} {kk : Nat → Nat × Nat} {I : Nat → Nat → Int32} {L : Nat → Nat → Int64} {q : Nat → Nat → Option Nat} {xs xw xt xm xg x1 : Int32} {cd : Nat → Int32} {ce : Nat} (hce : ce < 800) (hn : 131 ≤ n) : am_T (d + 2) 69 84 [some (.ref 57), some (.int x1)] [] (n, sl, wKK kk, (rdI I xs xw xt xm xg 0 (-1) (nI ce) cd), L, wQQ q) (rdRJ n sl kk I L q (.inr []) ce cd) := by
  refine tv_b (pc' := 100) (ls' := [some (.ref 57), some (.int x1)]) (st' := [.long 800, .long 0, .long ((nI ce).toInt64)]) (h' := (n, sl, wKK kk, (rdI I xs xw xt xm xg 0 (-1) (nI ce) cd), L, wQQ q)) 8 rfl ?_
  refine tv_csE [.long ((nI ce).toInt64), .long 0, .long 800] [] rfl rfl (by omega) rfl (Nat.le_of_ble_eq_true rfl) (Nat.le_of_ble_eq_true rfl) (ev_within (by omega)) ?_
  refine tv_b (pc' := 114) (ls' := [some (.ref 57), some (.int x1)]) (st' := [.int (nI ce), .ref 59]) (h' := (n, sl, wKK kk, (rdI I xs xw xt xm xg 0 (-1) (nI ce) cd), L, wQQ q)) 5 rfl ?_
  refine tv_cs [.ref 59, .int (nI ce)] [] rfl rfl (by omega) rfl (Nat.le_of_ble_eq_true rfl) (Nat.le_of_ble_eq_true rfl) (tv_copyOf hce hn) ?_
  rintro rv9 h9 ⟨rfl, rfl⟩
  refine tv_b (pc' := 121) (ls' := [some (.ref 57), some (.int x1)]) (st' := [.ref n]) (h' := (n + 1, sl + ce, wKK (va_up kk n (20, ce)), va_up (rdI I xs xw xt xm xg 0 (-1) (nI ce) cd) n (va_cpy cd (fun _ => 0) 0 0 ce), va_up L n (fun _ => 0), wQQ (va_up q n (fun _ => none)))) 1 rfl ?_
  exact tv_ra rfl ⟨rfl, hce, _, _, _, _, _, rfl⟩
theorem tv_r_readF {d n sl : Nat} {kk : Nat → Nat × Nat} {I : Nat → Nat → Int32} {L : Nat → Nat → Int64} {q : Nat → Nat → Option Nat} {xs xw xt xm xg xc x1 : Int32} {cd cd0 : Nat → Int32} {k pl ce : Nat} (hk : k ≠ 0) (hk5 : k ≤ 5) : am_T (d + 2) 69 84 [some (.ref 57), some (.int x1)] [] (n, sl, wKK kk, (rdI I xs xw xt xm xg (nI k) (nI pl) xc cd), L, wQQ q) (rdRJ n sl kk I L q (.inl (k, pl)) ce cd0) := by
  have hk0 : ¬ nI k = 0 := fun h => hk ((nI_eq (a := k) (b := 0) (by omega) (by omega)).mp h)
  refine tv_b (pc' := (if (nI k) = 0 then 91 else 120)) (ls' := [some (.ref 57), some (.int x1)]) (st' := []) (h' := (n, sl, wKK kk, (rdI I xs xw xt xm xg (nI k) (nI pl) xc cd), L, wQQ q)) 3 rfl ?_
  refine tv_f (hk0) ?_
  refine tv_b (pc' := 121) (ls' := [some (.ref 57), some (.int x1)]) (st' := [.null]) (h' := (n, sl, wKK kk, (rdI I xs xw xt xm xg (nI k) (nI pl) xc cd), L, wQQ q)) 1 rfl ?_
  exact tv_rn rfl ⟨rfl, hk, hk5, _, _, _, _, _, _, _, rfl⟩
theorem tv_r_readL {d n sl : Nat} {kk : Nat → Nat × Nat} {I : Nat → Nat → Int32} {L : Nat → Nat → Int64} {q : Nat → Nat → Option Nat} {tx : Nat → Nat} {T G : Nat} (hH : rdG tx T G I) (hn : 131 ≤ n) : ∀ (f i A ce : Nat) (cd : Nat → Int32) (nm gn : Int32), i + f = 20 → A ≤ T → (ce = 0 ∨ ce < A) → ((pa_kd tx T A = 21 → nm = nI (pa_nm tx T A)) ∧ rdX tx T G A gn) → am_T (d + 37) 69 34 [some (.ref 57), some (.int (nI i))] [] (n, sl, wKK kk, rdK tx T I A nm gn ce cd, L, wQQ q) (rdRJ n sl kk I L q (pa_stmts tx T f A) ce cd) := by
  have hT := hH.2.1
  intro f
  induction f with
  | zero =>
    intro i A ce cd nm gn hi hA hce hq
    have hk38 := pa_kd_38 (b := tx) (n := T) (p := A)
    have hklt := pa_kd_lt (b := tx) (n := T) (p := A)
    have e1 : pa_stmts tx T 0 A = if pa_sk tx T A < T then .inl (5, pa_sk tx T A) else .inr [] := rfl
    by_cases hsA : pa_sk tx T A < T
    · have hne : pa_kd tx T A ≠ 38 := fun q => hk38.mp q hsA
      show am_T _ _ _ _ _ (n, sl, wKK kk, (rdI I (nI (pa_sk tx T A)) (nI (pa_wg tx T A)) (nI (pa_kd tx T A)) nm gn 0 (-1) (nI ce) cd), L, wQQ q) _
      refine tv_b (pc' := (if 20 ≤ (nI i) then 66 else 40)) (ls' := [some (.ref 57), some (.int (nI i))]) (st' := []) (h' := (n, sl, wKK kk, (rdI I (nI (pa_sk tx T A)) (nI (pa_wg tx T A)) (nI (pa_kd tx T A)) nm gn 0 (-1) (nI ce) cd), L, wQQ q)) 3 rfl ?_
      refine tv_t ((nI_leI (a := 20) (b := i) (by omega) (by omega)).mpr (by omega)) ?_
      refine tv_b (pc' := (if (nI (pa_kd tx T A)) = 38 then 84 else 75)) (ls' := [some (.ref 57), some (.int (nI i))]) (st' := []) (h' := (n, sl, wKK kk, (rdI I (nI (pa_sk tx T A)) (nI (pa_wg tx T A)) (nI (pa_kd tx T A)) nm gn 0 (-1) (nI ce) cd), L, wQQ q)) 4 rfl ?_
      refine tv_f (fun hq => absurd ((nI_eq (a := (pa_kd tx T A)) (b := 38) (by omega) (by omega)).mp hq) (by omega)) ?_
      refine tv_b (pc' := 81) (ls' := [some (.ref 57), some (.int (nI i))]) (st' := [.int (nI (pa_sk tx T A)), .int 5, .ref 57]) (h' := (n, sl, wKK kk, (rdI I (nI (pa_sk tx T A)) (nI (pa_wg tx T A)) (nI (pa_kd tx T A)) nm gn 0 (-1) (nI ce) cd), L, wQQ q)) 4 rfl ?_
      refine tv_cvE [.int 5, .int (nI (pa_sk tx T A))] [] rfl rfl (by omega) rfl (Nat.le_of_ble_eq_true rfl) (Nat.le_of_ble_eq_true rfl) (Or.inr (Or.inr rfl)) (ev_r_fail0) ?_
      rw [e1, if_pos hsA]
      exact tv_r_readF (k := 5) (by decide) (by decide)
    · have heq := hk38.mpr hsA
      show am_T _ _ _ _ _ (n, sl, wKK kk, (rdI I (nI (pa_sk tx T A)) (nI (pa_wg tx T A)) (nI (pa_kd tx T A)) nm gn 0 (-1) (nI ce) cd), L, wQQ q) _
      refine tv_b (pc' := (if 20 ≤ (nI i) then 66 else 40)) (ls' := [some (.ref 57), some (.int (nI i))]) (st' := []) (h' := (n, sl, wKK kk, (rdI I (nI (pa_sk tx T A)) (nI (pa_wg tx T A)) (nI (pa_kd tx T A)) nm gn 0 (-1) (nI ce) cd), L, wQQ q)) 3 rfl ?_
      refine tv_t ((nI_leI (a := 20) (b := i) (by omega) (by omega)).mpr (by omega)) ?_
      refine tv_b (pc' := (if (nI (pa_kd tx T A)) = 38 then 84 else 75)) (ls' := [some (.ref 57), some (.int (nI i))]) (st' := []) (h' := (n, sl, wKK kk, (rdI I (nI (pa_sk tx T A)) (nI (pa_wg tx T A)) (nI (pa_kd tx T A)) nm gn 0 (-1) (nI ce) cd), L, wQQ q)) 4 rfl ?_
      refine tv_t ((nI_eq (a := (pa_kd tx T A)) (b := 38) (by omega) (by omega)).mpr (by omega)) ?_
      rw [e1, if_neg hsA]
      exact tv_r_readN (by omega) hn
  | succ f ih =>
    intro i A ce cd nm gn hi hA hce hq
    have hk38 := pa_kd_38 (b := tx) (n := T) (p := A)
    have hklt := pa_kd_lt (b := tx) (n := T) (p := A)
    have hce2 : ce ≤ A := by omega
    have e1 : pa_stmts tx T (f + 1) A = if pa_sk tx T A < T then (match pa_stmt tx T A with
      | .inl e => .inl e
      | .inr (p', st) => match pa_stmts tx T f p' with
        | .inl e => .inl e
        | .inr l => .inr (st :: l)) else .inr [] := rfl
    by_cases hsA : pa_sk tx T A < T
    · have hne : pa_kd tx T A ≠ 38 := fun q => hk38.mp q hsA
      show am_T _ _ _ _ _ (n, sl, wKK kk, (rdI I (nI (pa_sk tx T A)) (nI (pa_wg tx T A)) (nI (pa_kd tx T A)) nm gn 0 (-1) (nI ce) cd), L, wQQ q) _
      refine tv_b (pc' := (if 20 ≤ (nI i) then 66 else 40)) (ls' := [some (.ref 57), some (.int (nI i))]) (st' := []) (h' := (n, sl, wKK kk, (rdI I (nI (pa_sk tx T A)) (nI (pa_wg tx T A)) (nI (pa_kd tx T A)) nm gn 0 (-1) (nI ce) cd), L, wQQ q)) 3 rfl ?_
      refine tv_f (fun hq => absurd ((nI_leI (a := 20) (b := i) (by omega) (by omega)).mp hq) (by omega)) ?_
      refine tv_b (pc' := (if (nI (pa_kd tx T A)) = 38 then 66 else 56)) (ls' := [some (.ref 57), some (.int (nI i))]) (st' := []) (h' := (n, sl, wKK kk, (rdI I (nI (pa_sk tx T A)) (nI (pa_wg tx T A)) (nI (pa_kd tx T A)) nm gn 0 (-1) (nI ce) cd), L, wQQ q)) 7 rfl ?_
      refine tv_f (fun hq => absurd ((nI_eq (a := (pa_kd tx T A)) (b := 38) (by omega) (by omega)).mp hq) (by omega)) ?_
      refine tv_b (pc' := 57) (ls' := [some (.ref 57), some (.int (nI i))]) (st' := [.ref 57]) (h' := (n, sl, wKK kk, (rdI I (nI (pa_sk tx T A)) (nI (pa_wg tx T A)) (nI (pa_kd tx T A)) nm gn 0 (-1) (nI ce) cd), L, wQQ q)) 1 rfl ?_
      refine tv_cv [] [] rfl rfl (by omega) rfl (Nat.le_of_ble_eq_true rfl) (Nat.le_of_ble_eq_true rfl) (Or.inr (Or.inr rfl)) (tv_r_statement hH hA hce2 hq) ?_
      rintro rv9 h9 ⟨rfl, I9, rfl, ho⟩
      rcases hs : pa_stmt tx T A with ⟨k0, l0⟩ | ⟨p0, k0, w0, cs0⟩ <;> rw [hs] at ho
      · obtain ⟨hk0, hk5, s0, w0, m0, g0, c0, d0, hc0, rfl⟩ := ho
        have hkz : ¬ nI k0 = 0 := fun h => hk0 ((nI_eq (a := k0) (b := 0) (by omega) (by omega)).mp h)
        refine tv_iincN (k := i) (ls' := [some (.ref 57), some (.int (nI (i + 1)))]) rfl rfl rfl ?_
        refine tv_b (pc' := 34) (ls' := [some (.ref 57), some (.int (nI (i + 1)))]) (st' := []) (h' := (n, sl, wKK kk, (rdI I s0 w0 39 m0 g0 (nI k0) (nI l0) (nI c0) d0), L, wQQ q)) 1 rfl ?_
        refine tv_b (pc' := (if 20 ≤ (nI (i + 1)) then 66 else 40)) (ls' := [some (.ref 57), some (.int (nI (i + 1)))]) (st' := []) (h' := (n, sl, wKK kk, (rdI I s0 w0 39 m0 g0 (nI k0) (nI l0) (nI c0) d0), L, wQQ q)) 3 rfl ?_
        refine tv_ifq (nI_leI (a := 20) (b := i + 1) (by omega) (by omega)) (fun c37 => ?_) (fun c37 => ?_)
        · refine tv_b (pc' := 81) (ls' := [some (.ref 57), some (.int (nI (i + 1)))]) (st' := [.int s0, .int 5, .ref 57]) (h' := (n, sl, wKK kk, (rdI I s0 w0 39 m0 g0 (nI k0) (nI l0) (nI c0) d0), L, wQQ q)) 8 rfl ?_
          refine tv_cvE [.int 5, .int s0] [] rfl rfl (by omega) rfl (Nat.le_of_ble_eq_true rfl) (Nat.le_of_ble_eq_true rfl) (Or.inr (Or.inr rfl)) (ev_r_failF hkz) ?_
          rw [e1, if_pos hsA, hs]
          exact tv_r_readF hk0 hk5
        · refine tv_b (pc' := (if (nI k0) = 0 then 47 else 66)) (ls' := [some (.ref 57), some (.int (nI (i + 1)))]) (st' := []) (h' := (n, sl, wKK kk, (rdI I s0 w0 39 m0 g0 (nI k0) (nI l0) (nI c0) d0), L, wQQ q)) 3 rfl ?_
          refine tv_f (hkz) ?_
          refine tv_b (pc' := 81) (ls' := [some (.ref 57), some (.int (nI (i + 1)))]) (st' := [.int s0, .int 5, .ref 57]) (h' := (n, sl, wKK kk, (rdI I s0 w0 39 m0 g0 (nI k0) (nI l0) (nI c0) d0), L, wQQ q)) 8 rfl ?_
          refine tv_cvE [.int 5, .int s0] [] rfl rfl (by omega) rfl (Nat.le_of_ble_eq_true rfl) (Nat.le_of_ble_eq_true rfl) (Or.inr (Or.inr rfl)) (ev_r_failF hkz) ?_
          rw [e1, if_pos hsA, hs]
          exact tv_r_readF hk0 hk5
      · obtain ⟨hp0, hl0, m0, g0, hq0, rfl⟩ := ho
        refine tv_iincN (k := i) (ls' := [some (.ref 57), some (.int (nI (i + 1)))]) rfl rfl rfl ?_
        refine tv_b (pc' := 34) (ls' := [some (.ref 57), some (.int (nI (i + 1)))]) (st' := []) (h' := (n, sl, wKK kk, (rdI I (nI (pa_sk tx T p0)) (nI (pa_wg tx T p0)) (nI (pa_kd tx T p0)) m0 g0 0 (-1) (nI (ce + 3 + cs0.length)) (pa_wr cd ce (k0 :: w0 :: cs0.length :: cs0))), L, wQQ q)) 1 rfl ?_
        rw [e1, if_pos hsA, hs]
        exact tv_w (ih (i + 1) p0 _ _ _ _ (by omega) hp0 (Or.inr hl0) hq0) (fun rv h9 ho => rdRJ_s ho)
    · have heq := hk38.mpr hsA
      show am_T _ _ _ _ _ (n, sl, wKK kk, (rdI I (nI (pa_sk tx T A)) (nI (pa_wg tx T A)) (nI (pa_kd tx T A)) nm gn 0 (-1) (nI ce) cd), L, wQQ q) _
      refine tv_b (pc' := (if 20 ≤ (nI i) then 66 else 40)) (ls' := [some (.ref 57), some (.int (nI i))]) (st' := []) (h' := (n, sl, wKK kk, (rdI I (nI (pa_sk tx T A)) (nI (pa_wg tx T A)) (nI (pa_kd tx T A)) nm gn 0 (-1) (nI ce) cd), L, wQQ q)) 3 rfl ?_
      refine tv_f (fun hq => absurd ((nI_leI (a := 20) (b := i) (by omega) (by omega)).mp hq) (by omega)) ?_
      refine tv_b (pc' := (if (nI (pa_kd tx T A)) = 38 then 66 else 56)) (ls' := [some (.ref 57), some (.int (nI i))]) (st' := []) (h' := (n, sl, wKK kk, (rdI I (nI (pa_sk tx T A)) (nI (pa_wg tx T A)) (nI (pa_kd tx T A)) nm gn 0 (-1) (nI ce) cd), L, wQQ q)) 7 rfl ?_
      refine tv_t ((nI_eq (a := (pa_kd tx T A)) (b := 38) (by omega) (by omega)).mpr (by omega)) ?_
      refine tv_b (pc' := (if (nI (pa_kd tx T A)) = 38 then 84 else 75)) (ls' := [some (.ref 57), some (.int (nI i))]) (st' := []) (h' := (n, sl, wKK kk, (rdI I (nI (pa_sk tx T A)) (nI (pa_wg tx T A)) (nI (pa_kd tx T A)) nm gn 0 (-1) (nI ce) cd), L, wQQ q)) 4 rfl ?_
      refine tv_t ((nI_eq (a := (pa_kd tx T A)) (b := 38) (by omega) (by omega)).mpr (by omega)) ?_
      rw [e1, if_neg hsA]
      exact tv_r_readN (by omega) hn
theorem rdI_self {I : Nat → Nat → Int32} : I = rdI I (I 57 8) (I 57 9) (I 57 7) (I 57 10) (I 57 11) (I 57 12) (I 57 13) (I 57 15) (I 59) := by
  funext j i
  unfold rdI
  by_cases hj : j = 57
  · subst hj
    show I 57 i = cond (Nat.beq i 8) _ _
    by_cases h8 : i = 8
    · subst h8; rfl
    by_cases h9 : i = 9
    · subst h9; rfl
    by_cases h7 : i = 7
    · subst h7; rfl
    by_cases h10 : i = 10
    · subst h10; rfl
    by_cases h11 : i = 11
    · subst h11; rfl
    by_cases h12 : i = 12
    · subst h12; rfl
    by_cases h13 : i = 13
    · subst h13; rfl
    by_cases h15 : i = 15
    · subst h15; rfl
    simp only [rdI_nb h8, rdI_nb h9, rdI_nb h7, rdI_nb h10, rdI_nb h11, rdI_nb h12, rdI_nb h13, rdI_nb h15, cond_false]
  · by_cases h9 : j = 59
    · subst h9; rfl
    · simp only [rdI_nb hj, rdI_nb h9, cond_false]
theorem spI_self {I : Nat → Nat → Int32} : I = spI I (I 57 6) (I 127) (I 128) (I 129) (I 130) := by
  funext j i
  unfold spI
  by_cases hj : j = 57
  · subst hj
    show I 57 i = cond (Nat.beq i 6) _ _
    by_cases h6 : i = 6
    · subst h6; rfl
    simp only [rdI_nb h6, cond_false]
  · by_cases h1 : j = 127
    · subst h1; rfl
    by_cases h2 : j = 128
    · subst h2; rfl
    by_cases h3 : j = 129
    · subst h3; rfl
    by_cases h4 : j = 130
    · subst h4; rfl
    simp only [rdI_nb hj, rdI_nb h1, rdI_nb h2, rdI_nb h3, rdI_nb h4, cond_false]
/-- what the reader leaves: the tape gone, the fault and its place; the rest as it was but for its own rows -/
def rdM (I I' : Nat → Nat → Int32) (f l : Int32) : Prop := (∀ j, j ≠ 57 → j ≠ 59 → (j < 127 ∨ 131 ≤ j) → I' j = I j) ∧ I' 57 1 = 0 ∧ I' 57 12 = f ∧ I' 57 13 = l
def rdR (n sl : Nat) (kk : Nat → Nat × Nat) (I : Nat → Nat → Int32) (L : Nat → Nat → Int64) (q : Nat → Nat → Option Nat) (r : Sum (Nat × Nat) (List (Nat × Nat × List Nat))) (rv : Option Value) (h' : am_H) : Prop := match r with
  | .inl (k, pl) => rv = some .null ∧ k ≠ 0 ∧ k ≤ 5 ∧ ∃ I', rdM I I' (nI k) (nI pl) ∧ h' = (n, sl, wKK kk, I', L, wQQ q)
  | .inr l => rv = some (.ref n) ∧ (pa_flat l).length < 800 ∧ ∃ I', rdM I I' 0 (-1) ∧ h' = (n + 1, sl + (pa_flat l).length, wKK (va_up kk n (20, (pa_flat l).length)), va_up I' n (va_cpy (pa_wr (I 59) 0 (pa_flat l)) (fun _ => 0) 0 0 (pa_flat l).length), va_up L n (fun _ => 0), wQQ (va_up q n (fun _ => none)))
theorem tv_r_read {d n sl : Nat} {kk : Nat → Nat × Nat} {I : Nat → Nat → Int32} {L : Nat → Nat → Int64} {q : Nat → Nat → Option Nat} {tx : Nat → Nat} {T : Nat} (hH : rdH tx T I) (hW : rdW kk I) (hn : 131 ≤ n) : am_T (d + 37) 69 0 (am_ent 2 [.ref 57]) [] (n, sl, wKK kk, I, L, wQQ q) (rdR n sl kk I L q (pa_read tx T)) := by
  refine tv_hI spI_self ?_
  show am_T _ _ 0 [some (.ref 57), none] _ _ _
  refine tv_b (pc' := 1) (ls' := [some (.ref 57), none]) (st' := [.ref 57]) (h' := (n, sl, wKK kk, (spI I (I 57 6) (I 127) (I 128) (I 129) (I 130)), L, wQQ q)) 1 rfl ?_
  refine tv_cv [] [] rfl rfl (by omega) rfl (Nat.le_of_ble_eq_true rfl) (Nat.le_of_ble_eq_true rfl) (Or.inr (Or.inr rfl)) (tv_r_split hH hW) ?_
  rintro rv9 h9 ⟨rfl, G, r1, r2, r3, r4, hG8, hR, hGT, rfl⟩
  refine tv_b (pc' := 5) (ls' := [some (.ref 57), none]) (st' := [.ref 57]) (h' := (n, sl, wKK kk, (spI I (nI (G + 1)) r1 r2 r3 r4), L, wQQ q)) 1 rfl ?_
  have hdr := ev_r_drop (d := d + 36) (n := n) (sl := sl) (k := kk) (I := spI I (nI (G + 1)) r1 r2 r3 r4) (L := L) (q := q)
  have edr : sI_r_drop (spI I (nI (G + 1)) r1 r2 r3 r4) L = va_up (spI I (nI (G + 1)) r1 r2 r3 r4) 57 (upd ((spI I (nI (G + 1)) r1 r2 r3 r4) 57) 1 0) := rfl
  rw [edr] at hdr
  have hJ1 : rdG tx T G (va_up (spI I (nI (G + 1)) r1 r2 r3 r4) 57 (upd ((spI I (nI (G + 1)) r1 r2 r3 r4) 57) 1 0)) := ⟨rfl, hH.2.1, hG8, hR, hGT⟩
  have hJ2 : ∀ j, j ≠ 57 → (j < 127 ∨ 131 ≤ j) → (va_up (spI I (nI (G + 1)) r1 r2 r3 r4) 57 (upd ((spI I (nI (G + 1)) r1 r2 r3 r4) 57) 1 0)) j = I j := fun j j1 j2 => by rw [va_n1 j1, spI_hi j1 j2]
  have hJ3 : (va_up (spI I (nI (G + 1)) r1 r2 r3 r4) 57 (upd ((spI I (nI (G + 1)) r1 r2 r3 r4) 57) 1 0)) 57 1 = 0 := rfl
  generalize (va_up (spI I (nI (G + 1)) r1 r2 r3 r4) 57 (upd ((spI I (nI (G + 1)) r1 r2 r3 r4) 57) 1 0)) = J at hdr hJ1 hJ2 hJ3
  refine tv_cvE [] [] rfl rfl (by omega) rfl (Nat.le_of_ble_eq_true rfl) (Nat.le_of_ble_eq_true rfl) (Or.inr (Or.inr rfl)) (hdr) ?_
  refine tv_hI rdI_self ?_
  refine tv_b (pc' := 13) (ls' := [some (.ref 57), none]) (st' := []) (h' := (n, sl, wKK kk, va_up (rdI J (J 57 8) (J 57 9) (J 57 7) (J 57 10) (J 57 11) (J 57 12) (J 57 13) (J 57 15) (J 59)) 57 (upd ((rdI J (J 57 8) (J 57 9) (J 57 7) (J 57 10) (J 57 11) (J 57 12) (J 57 13) (J 57 15) (J 59)) 57) 12 0), L, wQQ q)) 3 rfl ?_
  refine tv_hI rdI_w_xf ?_
  refine tv_b (pc' := 18) (ls' := [some (.ref 57), none]) (st' := []) (h' := (n, sl, wKK kk, va_up (rdI J (J 57 8) (J 57 9) (J 57 7) (J 57 10) (J 57 11) 0 (J 57 13) (J 57 15) (J 59)) 57 (upd ((rdI J (J 57 8) (J 57 9) (J 57 7) (J 57 10) (J 57 11) 0 (J 57 13) (J 57 15) (J 59)) 57) 13 (-1)), L, wQQ q)) 3 rfl ?_
  refine tv_hI rdI_w_xl ?_
  refine tv_b (pc' := 23) (ls' := [some (.ref 57), none]) (st' := []) (h' := (n, sl, wKK kk, va_up (rdI J (J 57 8) (J 57 9) (J 57 7) (J 57 10) (J 57 11) 0 (-1) (J 57 15) (J 59)) 57 (upd ((rdI J (J 57 8) (J 57 9) (J 57 7) (J 57 10) (J 57 11) 0 (-1) (J 57 15) (J 59)) 57) 15 0), L, wQQ q)) 3 rfl ?_
  refine tv_hI rdI_w_xc ?_
  refine tv_b (pc' := 28) (ls' := [some (.ref 57), none]) (st' := []) (h' := (n, sl, wKK kk, va_up (rdI J (J 57 8) (J 57 9) (J 57 7) (J 57 10) (J 57 11) 0 (-1) 0 (J 59)) 57 (upd ((rdI J (J 57 8) (J 57 9) (J 57 7) (J 57 10) (J 57 11) 0 (-1) 0 (J 59)) 57) 11 0), L, wQQ q)) 3 rfl ?_
  refine tv_hI rdI_w_xg ?_
  refine tv_b (pc' := 29) (ls' := [some (.ref 57), none]) (st' := [.ref 57]) (h' := (n, sl, wKK kk, (rdI J (J 57 8) (J 57 9) (J 57 7) (J 57 10) 0 0 (-1) 0 (J 59)), L, wQQ q)) 1 rfl ?_
  refine tv_cvE [] [] rfl rfl (by omega) rfl (Nat.le_of_ble_eq_true rfl) (Nat.le_of_ble_eq_true rfl) (Or.inr (Or.inr rfl)) (ev_r_nextG hJ1 (g := 0) (Nat.zero_le _)) ?_
  refine tv_b (pc' := 34) (ls' := [some (.ref 57), some (.int 0)]) (st' := []) (h' := (n, sl, wKK kk, (rdI J (J 128 0) (J 129 0) (J 127 0) (J 130 0) (nI (0 + 1)) 0 (-1) 0 (J 59)), L, wQQ q)) 2 rfl ?_
  have h0 := hJ1.2.2.2.1 0 (by omega)
  have h59 : J 59 = I 59 := hJ2 59 (by decide) (Or.inl (by decide))
  have eK : rdI J (J 128 0) (J 129 0) (J 127 0) (J 130 0) (nI (0 + 1)) 0 (-1) 0 (J 59) = rdK tx T J 0 (J 130 0) (nI (0 + 1)) 0 (J 59) := by
    unfold rdK
    rw [h0.1, h0.2.1, h0.2.2.1]
    rfl
  refine tv_hI eK ?_
  have hM : ∀ s w t nm g f l c cd, rdM I (rdI J s w t nm g f l c cd) f l := fun s w t nm g f l c cd => ⟨fun j j1 j2 j3 => by rw [rdI_hi j1 j2, hJ2 j j1 j3], hJ3, rfl, rfl⟩
  refine tv_w (tv_r_readL hJ1 hn 20 0 0 0 _ _ _ rfl (Nat.zero_le _) (Or.inl rfl) ⟨h0.2.2.2, 0, Nat.zero_le _, rfl, rfl⟩) ?_
  intro rv h' ho
  have er : pa_stmts tx T 20 0 = pa_read tx T := rfl
  rw [er] at ho
  rcases hs : pa_read tx T with ⟨k0, l0⟩ | l0 <;> rw [hs] at ho
  · obtain ⟨rfl, hk0, hk5, s0, w0, t0, m0, g0, c0, d0, rfl⟩ := ho
    exact ⟨rfl, hk0, hk5, _, hM _ _ _ _ _ _ _ _ _, rfl⟩
  · obtain ⟨rfl, hl0, s0, w0, t0, m0, g0, rfl⟩ := ho
    rw [Nat.zero_add] at hl0
    refine ⟨rfl, hl0, _, hM s0 w0 t0 m0 g0 0 (-1) (nI (pa_flat l0).length) (pa_wr (J 59) 0 (pa_flat l0)), ?_⟩
    rw [Nat.zero_add, h59]
