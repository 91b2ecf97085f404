/-! THE GRAMMAR, purely: what the class's reader does with a text, and the reference's machine of frames -/
def pa_rn (P : Nat → Bool) : Nat → Nat → Nat
  | _, 0 => 0
  | A, m + 1 => cond (P A) (pa_rn P (A + 1) m + 1) 0
def pa_lt (x : Nat) : Bool := Nat.ble 97 x && Nat.ble x 122
def pa_dg (x : Nat) : Bool := Nat.ble 48 x && Nat.ble x 57
def pa_bl (x : Nat) : Bool := Nat.beq x 10 || Nat.beq x 32
def pa_words : List (List Nat) := [[108,101,97,100],[112,105,112,101],[102,114,111,115,116],[115,116,111,112],[97,108,108,111,119],[108,105,109,105,116],[119,104,101,110],[111,114],[97,110,100],[110,111,116],[97,108,108],[108,101,97,110],[114,97,116,101],[119,111,114,115,116],[119,97,116,101,114],[100,97,121],[116,111,110,115],[100,114,97,119,110],[108,111,97,100],[109,105,110],[109,97,120]]
def pa_wtk (l : List Nat) : Nat := if pa_words.idxOf l < 21 then pa_words.idxOf l else 39
def pa_sgn (x : Nat) : Nat := match x with
  | 40 => 32
  | 41 => 33
  | 91 => 34
  | 93 => 35
  | 44 => 36
  | 59 => 37
  | 43 => 22
  | 45 => 23
  | 42 => 24
  | 47 => 25
  | 60 => 26
  | 62 => 27
  | 61 => 28
  | _ => 39
section PA
variable (b : Nat → Nat) (n : Nat)
def pa_sk (p : Nat) : Nat := p + pa_rn (fun i => pa_bl (b i)) p (n - p)
def pa_wl (s : Nat) : Nat := pa_rn (fun i => pa_lt (b i)) s (n - s)
def pa_dl (s : Nat) : Nat := pa_rn (fun i => pa_dg (b i)) s (n - s)
/-- where the token behind p is at fault (kind 1) -/
def pa_lf (p : Nat) : Option Nat :=
  let s := pa_sk b n p
  if s < n then (if pa_lt (b s) || pa_dg (b s) then
      (if 0 < s ∧ (pa_lt (b (s - 1)) || pa_dg (b (s - 1))) = true then some s
       else if pa_lt (b s) then (if 8 < pa_wl b n s then some (s + 8) else none)
       else (if 7 < pa_dl b n s then some (s + 7) else none))
    else none) else none
def pa_bs (s : Nat) : Nat → List Nat
  | 0 => []
  | m + 1 => pa_bs s m ++ [b (s + m)]
def pa_dv (s : Nat) : Nat → Nat
  | 0 => 0
  | m + 1 => 10 * pa_dv s m + (b (s + m) - 48)
def pa_tk (p : Nat) : Nat :=
  let s := pa_sk b n p
  if s < n then (if pa_lt (b s) then pa_wtk (pa_bs b s (pa_wl b n s)) else if pa_dg (b s) then 21 else pa_sgn (b s)) else 38
def pa_ed (p : Nat) : Nat :=
  let s := pa_sk b n p
  if s < n then (if pa_lt (b s) then s + pa_wl b n s else if pa_dg (b s) then s + pa_dl b n s else s + 1) else s
def pa_nm (p : Nat) : Nat := pa_dv b (pa_sk b n p) (pa_dl b n (pa_sk b n p)) % 10000000
theorem pa_nm_b (p : Nat) : pa_nm b n p < 10000000 := Nat.mod_lt _ (by decide)
/-- what comes of a piece: a fault, or where it ends and its cells -/
abbrev pa_E : Type := Sum (Nat × Nat) (Nat × List Nat)
def pa_bnd (r : pa_E) (f : Nat → pa_E) : pa_E := match r with
  | .inl e => .inl e
  | .inr (p, cs) => match f p with
    | .inl e => .inl e
    | .inr (p', ds) => .inr (p', cs ++ ds)
def pa_em (c : Nat) (p : Nat) : pa_E := .inr (p, [c])
def pa_nx (p : Nat) : pa_E := match pa_lf b n (pa_ed b n p) with
  | some f => .inl (1, f)
  | none => .inr (pa_ed b n p, [])
def pa_fl (k p : Nat) : pa_E := .inl (k, pa_sk b n p)
def pa_ex (c : Bool) (p : Nat) : pa_E := cond c (pa_nx b n p) (pa_fl b n 1 p)
def pa_part (lev : Nat) (inner : Nat → pa_E) (p : Nat) : pa_E :=
  let t := pa_tk b n p
  if t = 21 then pa_bnd (pa_nx b n p) (pa_em (pa_nm b n p * 32 + 21))
  else if 11 ≤ t ∧ t ≤ 17 then pa_bnd (pa_nx b n p) (pa_em t)
  else if t = 18 then pa_bnd (pa_nx b n p) (fun p1 =>
    if pa_tk b n p1 = 21 then (if 15 < pa_nm b n p1 then pa_fl b n 4 p1 else pa_bnd (pa_nx b n p1) (pa_em (pa_nm b n p1 * 32 + 18))) else pa_fl b n 1 p1)
  else if t = 32 then (if lev = 0 then pa_fl b n 5 p else
    pa_bnd (pa_nx b n p) (fun p1 => pa_bnd (inner p1) (fun p2 => pa_ex b n (Nat.beq (pa_tk b n p2) 33) p2)))
  else if t = 19 ∨ t = 20 then pa_bnd (pa_nx b n p) (fun p0 => if pa_tk b n p0 = 32 then (if lev = 0 then pa_fl b n 5 p0 else
    pa_bnd (pa_nx b n p0) (fun p1 => pa_bnd (inner p1) (fun p2 => pa_bnd (pa_ex b n (Nat.beq (pa_tk b n p2) 36) p2)
      (fun p3 => pa_bnd (inner p3) (fun p4 => pa_bnd (pa_ex b n (Nat.beq (pa_tk b n p4) 33) p4) (pa_em t)))))) else pa_fl b n 1 p0)
  else pa_fl b n 1 p
def pa_lp (op : Nat → Bool) (q : Nat → pa_E) : Nat → Nat → pa_E
  | 0, p => .inr (p, [])
  | f + 1, p => cond (op (pa_tk b n p)) (pa_bnd (pa_nx b n p) (fun p1 => pa_bnd (q p1) (fun p2 => pa_bnd (pa_em (pa_tk b n p) p2) (pa_lp op q f)))) (.inr (p, []))
def pa_isM (t : Nat) : Bool := Nat.beq t 24 || Nat.beq t 25
def pa_isA (t : Nat) : Bool := Nat.beq t 22 || Nat.beq t 23
def pa_isC (t : Nat) : Bool := Nat.beq t 26 || Nat.beq t 27 || Nat.beq t 28
def pa_prod (lev : Nat) (inner : Nat → pa_E) (p : Nat) : pa_E := pa_bnd (pa_part b n lev inner p) (pa_lp b n pa_isM (pa_part b n lev inner) 800)
def pa_sumO (lev : Nat) (inner : Nat → pa_E) (p : Nat) : pa_E := pa_bnd (pa_prod b n lev inner p) (pa_lp b n pa_isA (pa_prod b n lev inner) 800)
def pa_sum : Nat → Nat → pa_E
  | 0 => pa_sumO b n 0 (fun _ => .inl (0, 0))
  | l + 1 => pa_sumO b n (l + 1) (pa_sum l)
def pa_cmp (lev : Nat) (p : Nat) : pa_E := pa_bnd (pa_sum b n lev p) (fun p1 => pa_bnd (pa_ex b n (pa_isC (pa_tk b n p1)) p1) (fun p2 => pa_bnd (pa_sum b n lev p2) (pa_em (pa_tk b n p1))))
def pa_nots : Nat → Nat → Bool → Sum (Nat × Nat) (Nat × Bool)
  | 0, p, z => .inr (p, z)
  | f + 1, p, z => if pa_tk b n p = 9 then (match pa_nx b n p with
    | .inl e => .inl e
    | .inr (p', _) => pa_nots f p' (!z)) else .inr (p, z)
def pa_fact1 (lev : Nat) (inner : Nat → pa_E) (p : Nat) : pa_E :=
  if pa_tk b n p = 34 then (if lev = 0 then pa_fl b n 5 p else pa_bnd (pa_nx b n p) (fun p2 => pa_bnd (inner p2) (fun p3 => pa_ex b n (Nat.beq (pa_tk b n p3) 35) p3)))
  else if pa_tk b n p = 10 then pa_bnd (pa_nx b n p) (pa_em 10)
  else pa_cmp b n lev p
def pa_fact (lev : Nat) (inner : Nat → pa_E) (p : Nat) : pa_E := match pa_nots b n 800 p false with
  | .inl e => .inl e
  | .inr (p1, z) => pa_bnd (pa_fact1 b n lev inner p1) (fun p2 => cond z (pa_em 9 p2) (.inr (p2, [])))
def pa_both (lev : Nat) (inner : Nat → pa_E) (p : Nat) : pa_E := pa_bnd (pa_fact b n lev inner p) (pa_lp b n (fun t => Nat.beq t 8) (pa_fact b n lev inner) 800)
def pa_testO (lev : Nat) (inner : Nat → pa_E) (p : Nat) : pa_E := pa_bnd (pa_both b n lev inner p) (pa_lp b n (fun t => Nat.beq t 7) (pa_both b n lev inner) 800)
def pa_test : Nat → Nat → pa_E
  | 0 => pa_testO b n 0 (fun _ => .inl (0, 0))
  | l + 1 => pa_testO b n (l + 1) (pa_test l)
/-- a statement from p on: a fault, or its end, its word, its work, its cells -/
def pa_stmt (p : Nat) : Sum (Nat × Nat) (Nat × Nat × Nat × List Nat) := match pa_lf b n p with
  | some f => .inl (1, f)
  | none =>
    let k := pa_tk b n p
    if k = 3 ∨ k = 4 ∨ k = 5 then (match pa_nx b n p with
      | .inl e => .inl e
      | .inr (p1, _) =>
        let w := if k = 3 then 0 else pa_tk b n p1
        match (if k = 3 then .inr (p1, []) else pa_ex b n (Nat.ble (pa_tk b n p1) 2) p1 : pa_E) with
        | .inl e => .inl e
        | .inr (p2, _) => match (if k = 5 then pa_sum b n 8 p2 else pa_bnd (pa_ex b n (Nat.beq (pa_tk b n p2) 6) p2) (pa_test b n 8)) with
          | .inl e => .inl e
          | .inr (p3, cs) => if pa_tk b n p3 = 37 then .inr (pa_ed b n p3, k, w, cs) else .inl (1, pa_sk b n p3))
    else .inl (1, pa_sk b n p)
def pa_stmts : Nat → Nat → Sum (Nat × Nat) (List (Nat × Nat × List Nat))
  | 0, p => if pa_sk b n p < n then .inl (5, pa_sk b n p) else .inr []
  | f + 1, p => if pa_sk b n p < n then (match pa_stmt b n p with
      | .inl e => .inl e
      | .inr (p', st) => match pa_stmts f p' with
        | .inl e => .inl e
        | .inr l => .inr (st :: l)) else .inr []
def pa_read : Sum (Nat × Nat) (List (Nat × Nat × List Nat)) := pa_stmts b n 20 0
end PA
/-! THE REFERENCE'S MACHINE OF FRAMES, purely -/
/-- a frame: kind, phase, whether it begins, its pair, its operators -/
abbrev pa_F : Type := Nat × Nat × Bool × Nat × List Nat
/-- place, whether an operand stands, frames (the top first), codes -/
abbrev pa_S : Type := Nat × Bool × List pa_F × List (Nat × Nat)
abbrev pa_R : Type := Sum (Nat × Nat) (Bool × pa_S)
def pa_rank (o : Nat) : Nat := match o with
  | 25 => 1
  | 24 => 2
  | 26 => 3
  | 21 => 4
  | 22 => 4
  | 23 => 4
  | 15 => 5
  | 16 => 5
  | _ => 6
def pa_isT (k : Nat) : Bool := Nat.beq k 1 || Nat.beq k 5
/-- an operator's code, by its token -/
def pa_opc (t : Nat) : Nat := match t with
  | 22 => 15
  | 23 => 16
  | 24 => 17
  | 25 => 18
  | 26 => 21
  | 27 => 22
  | 28 => 23
  | 8 => 24
  | 7 => 25
  | _ => t
def pa_z (l : List Nat) : List (Nat × Nat) := l.map (fun o => (o, 0))
def pa_top (least : Nat) (ops : List Nat) : List Nat := ops.takeWhile (fun o => Nat.ble least (pa_rank o))
def pa_low (least : Nat) (ops : List Nat) : List Nat := ops.dropWhile (fun o => Nat.ble least (pa_rank o))
section PB
variable (b : Nat → Nat) (n : Nat)
def pa_nr (p : Nat) (k : Nat → pa_R) : pa_R := match pa_nx b n p with
  | .inl e => .inl e
  | .inr (p', _) => k p'
def pa_fr (k p : Nat) : pa_R := .inl (k, pa_sk b n p)
def pa_stP (p : Nat) (f : pa_F) (fs : List pa_F) (out : List (Nat × Nat)) : pa_R :=
  let t := pa_tk b n p
  if (pa_isT f.1 && f.2.2.1) = true ∧ t = 9 then pa_nr b n p (fun p' => .inr (true, p', false, (f.1, f.2.1, f.2.2.1, f.2.2.2.1, 26 :: f.2.2.2.2) :: fs, out))
  else if (pa_isT f.1 && f.2.2.1) = true ∧ t = 34 then (if fs.length = 8 then pa_fr b n 5 p else pa_nr b n p (fun p' => .inr (true, p', false, (5, 0, true, 0, []) :: (f.1, f.2.1, false, f.2.2.2) :: fs, out)))
  else if (pa_isT f.1 && f.2.2.1) = true ∧ t = 10 then pa_nr b n p (fun p' => .inr (true, p', true, (f.1, 2, false, f.2.2.2) :: fs, out ++ [(9, 0)]))
  else if t = 18 then pa_nr b n p (fun p1 => if pa_tk b n p1 = 21 then (if 15 < pa_nm b n p1 then pa_fr b n 4 p1 else pa_nr b n p1 (fun p2 => .inr (true, p2, true, (f.1, f.2.1, false, f.2.2.2) :: fs, out ++ [(8, pa_nm b n p1)]))) else pa_fr b n 1 p1)
  else if t = 32 then (if fs.length = 8 then pa_fr b n 5 p else pa_nr b n p (fun p' => .inr (true, p', false, (2, 0, true, 0, []) :: (f.1, f.2.1, false, f.2.2.2) :: fs, out)))
  else if t = 19 ∨ t = 20 then pa_nr b n p (fun p0 => if pa_tk b n p0 = 32 then (if fs.length = 8 then pa_fr b n 5 p0 else pa_nr b n p0 (fun p1 => .inr (true, p1, false, (3, 0, true, t, []) :: (f.1, f.2.1, false, f.2.2.2) :: fs, out))) else pa_fr b n 1 p0)
  else if t = 21 then pa_nr b n p (fun p' => .inr (true, p', true, (f.1, f.2.1, false, f.2.2.2) :: fs, out ++ [(0, pa_nm b n p)]))
  else if 11 ≤ t ∧ t ≤ 17 then pa_nr b n p (fun p' => .inr (true, p', true, (f.1, f.2.1, false, f.2.2.2) :: fs, out ++ [(t - 10, 0)]))
  else pa_fr b n 1 p
/-- the frame below a bracket that closes -/
def pa_bel (five : Bool) (fs : List pa_F) : List pa_F := cond five (match fs with
  | [] => []
  | g :: gs => (g.1, 2, g.2.2) :: gs) fs
def pa_stG (p : Nat) (f : pa_F) (fs : List pa_F) (out : List (Nat × Nat)) : pa_R :=
  let t := pa_tk b n p
  let ops := f.2.2.2.2
  if f.2.1 < 2 ∧ (pa_isA t || pa_isM t) = true then pa_nr b n p (fun p' => .inr (true, p', false, (f.1, f.2.1, f.2.2.1, f.2.2.2.1, pa_opc t :: pa_low (cond (pa_isA t) 5 6) ops) :: fs, out ++ pa_z (pa_top (cond (pa_isA t) 5 6) ops)))
  else if pa_isT f.1 = true ∧ f.2.1 = 0 ∧ pa_isC t = true then pa_nr b n p (fun p' => .inr (true, p', false, (f.1, 1, f.2.2.1, f.2.2.2.1, pa_opc t :: pa_low 5 ops) :: fs, out ++ pa_z (pa_top 5 ops)))
  else if pa_isT f.1 = true ∧ (t = 8 ∨ t = 7) then (if f.2.1 = 0 then pa_fr b n 1 p else pa_nr b n p (fun p' => .inr (true, p', false, (f.1, 0, true, f.2.2.2.1, pa_opc t :: pa_low (cond (Nat.beq t 8) 2 1) ops) :: fs, out ++ pa_z (pa_top (cond (Nat.beq t 8) 2 1) ops))))
  else if pa_isT f.1 = true ∧ f.2.1 = 0 then pa_fr b n 1 p
  else if f.1 < 2 then .inr (false, p, true, (f.1, f.2.1, f.2.2.1, f.2.2.2.1, pa_low 1 ops) :: fs, out ++ pa_z (pa_top 1 ops))
  else if f.1 = 3 then (if t = 36 then pa_nr b n p (fun p' => .inr (true, p', false, (4, f.2.1, f.2.2.1, f.2.2.2.1, pa_low 1 ops) :: fs, out ++ pa_z (pa_top 1 ops))) else pa_fr b n 1 p)
  else if t = cond (Nat.beq f.1 5) 35 33 then pa_nr b n p (fun p' => .inr (true, p', true, pa_bel (Nat.beq f.1 5) fs, out ++ pa_z (pa_top 1 ops) ++ cond (Nat.beq f.1 4) [(f.2.2.2.1, 0)] []))
  else pa_fr b n 1 p
def pa_st (s : pa_S) : pa_R := match s with
  | (_, _, [], _) => .inl (0, 0)
  | (p, o, f :: fs, out) => cond o (pa_stG b n p f fs out) (pa_stP b n p f fs out)
def pa_it : Nat → pa_S → pa_R
  | 0, s => .inr (true, s)
  | k + 1, s => match pa_st b n s with
    | .inl e => .inl e
    | .inr (true, s') => pa_it k s'
    | .inr (false, s') => .inr (false, s')
def pa_Re (s s' : pa_S) : Prop := ∃ k, ∀ j, pa_it b n (j + k) s = pa_it b n j s'
def pa_En (s : pa_S) (r : pa_R) : Prop := ∃ k, ∀ j, pa_it b n (j + k) s = r
end PB
section PC
variable {b : Nat → Nat} {n : Nat} {s s' s2 : pa_S} {r : pa_R}
theorem pa_Re.tr (h1 : pa_Re b n s s') (h2 : pa_Re b n s' s2) : pa_Re b n s s2 := by
  obtain ⟨k1, h1⟩ := h1
  obtain ⟨k2, h2⟩ := h2
  exact ⟨k2 + k1, fun j => by rw [← Nat.add_assoc, h1, h2]⟩
theorem pa_Re.en (h1 : pa_Re b n s s') (h2 : pa_En b n s' r) : pa_En b n s r := by
  obtain ⟨k1, h1⟩ := h1
  obtain ⟨k2, h2⟩ := h2
  exact ⟨k2 + k1, fun j => by rw [← Nat.add_assoc, h1, h2]⟩
theorem pa_Re.one (h : pa_st b n s = .inr (true, s')) : pa_Re b n s s' := ⟨1, fun j => by simp only [pa_it, h]⟩
theorem pa_En.bad {e : Nat × Nat} (h : pa_st b n s = .inl e) : pa_En b n s (.inl e) := ⟨1, fun j => by simp only [pa_it, h]⟩
theorem pa_En.don (h : pa_st b n s = .inr (false, s')) : pa_En b n s (.inr (false, s')) := ⟨1, fun j => by simp only [pa_it, h]⟩
/-! places -/
theorem pa_rn_le (P : Nat → Bool) : ∀ m A, pa_rn P A m ≤ m := by
  intro m
  induction m with
  | zero => intro A; exact Nat.le_refl _
  | succ m ih =>
    intro A
    show cond (P A) (pa_rn P (A + 1) m + 1) 0 ≤ _
    cases P A
    · exact Nat.zero_le _
    · exact Nat.succ_le_succ (ih _)
theorem pa_rn_1 {P : Nat → Bool} {A m : Nat} (h : P A = true) (hm : 0 < m) : 1 ≤ pa_rn P A m := by
  cases m with
  | zero => omega
  | succ m =>
    show 1 ≤ cond (P A) (pa_rn P (A + 1) m + 1) 0
    rw [h]
    exact Nat.succ_le_succ (Nat.zero_le _)
theorem pa_sk_ge (p : Nat) : p ≤ pa_sk b n p := Nat.le_add_right _ _
theorem pa_sk_le {p : Nat} (h : p ≤ n) : pa_sk b n p ≤ n := by
  have := pa_rn_le (fun i => pa_bl (b i)) (n - p) p
  unfold pa_sk
  omega
theorem pa_sk_end {p : Nat} (h : n ≤ p) : pa_sk b n p = p := by
  unfold pa_sk
  rw [show n - p = 0 by omega]
  rfl
theorem pa_tk_end {p : Nat} (h : n ≤ p) : pa_tk b n p = 38 := by
  unfold pa_tk
  simp only
  rw [pa_sk_end h, if_neg (by omega)]
theorem pa_ed_gt {p : Nat} (h : pa_tk b n p ≠ 38) : p < pa_ed b n p ∧ pa_ed b n p ≤ n := by
  unfold pa_tk at h
  simp only at h
  by_cases hs : pa_sk b n p < n
  · have h1 := pa_sk_ge (b := b) (n := n) p
    unfold pa_ed
    simp only [if_pos hs]
    by_cases hl : pa_lt (b (pa_sk b n p)) = true
    · rw [if_pos hl]
      have h2 : 1 ≤ pa_wl b n (pa_sk b n p) := pa_rn_1 (P := fun i => pa_lt (b i)) hl (by omega)
      have h3 : pa_wl b n (pa_sk b n p) ≤ n - pa_sk b n p := pa_rn_le _ _ _
      omega
    · rw [if_neg hl]
      by_cases hd : pa_dg (b (pa_sk b n p)) = true
      · rw [if_pos hd]
        have h2 : 1 ≤ pa_dl b n (pa_sk b n p) := pa_rn_1 (P := fun i => pa_dg (b i)) hd (by omega)
        have h3 : pa_dl b n (pa_sk b n p) ≤ n - pa_sk b n p := pa_rn_le _ _ _
        omega
      · rw [if_neg hd]
        omega
  · rw [if_neg hs] at h
    exact absurd rfl h
theorem pa_nx_or (p : Nat) : (∃ e, pa_nx b n p = .inl e) ∨ pa_nx b n p = .inr (pa_ed b n p, []) := by
  unfold pa_nx
  cases pa_lf b n (pa_ed b n p) with
  | none => exact Or.inr rfl
  | some f => exact Or.inl ⟨_, rfl⟩
end PC
/-! WHAT CODES MEAN, of both sides -/
section PD
variable (ld fc : Nat → Int64) (jn tw : Nat → Int64 → Int64 → Int64)
def pa_vC (c : Nat) : Int64 := if c % 32 = 21 then Int64.ofNat (c / 32) else if c % 32 = 18 then ld (c / 32) else if 11 ≤ c % 32 ∧ c % 32 ≤ 17 then fc (c % 32 - 11) else 1
def pa_jnS (s : Nat) : Bool := Nat.ble 22 s || Nat.beq s 7 || Nat.beq s 8 || Nat.beq s 19 || Nat.beq s 20
/-- the values that stand on a stack -/
def pa_Rb (v : Int64) : Bool := decide (-1000000000000 ≤ v) && decide (v ≤ 1000000000000)
def pa_ok (t : Nat) (x y : Int64) : Bool := if t = 7 ∨ t = 8 then decide (x = 0 ∨ x = 1) && decide (y = 0 ∨ y = 1) else pa_Rb x && pa_Rb y
def pa_c1 (c : Nat) (st : List Int64) : Option (List Int64) :=
  if c / 32 < 16777216 then
  (if c % 32 = 9 then (match st with
    | x :: r => if x = 0 ∨ x = 1 then some ((1 - x) :: r) else none
    | _ => none)
  else if pa_jnS (c % 32) = true then (match st with
    | y :: x :: r => if pa_ok (c % 32) x y = true then some (jn (c % 32) x y :: r) else none
    | _ => none)
  else if st.length < 64 then some (pa_vC ld fc c :: st) else none)
  else none
def pa_evC : List Nat → List Int64 → Option (List Int64)
  | [], st => some st
  | c :: cs, st => match pa_c1 ld fc jn c st with
    | some st' => pa_evC cs st'
    | none => none
def pa_vR (o v : Nat) : Int64 := if o = 0 then Int64.ofNat v else if o = 8 then ld v else if o = 9 then 1 else fc (o - 1)
def pa_r1 (c : Nat × Nat) (st : List Int64) : Option (List Int64) :=
  if c.2 < 16777216 ∧ c.1 ≤ 26 then
  (if c.1 ≤ 9 then (if st.length < 64 then some (pa_vR ld fc c.1 c.2 :: st) else none)
  else if c.1 = 26 then (match st with
    | x :: r => some ((1 - x) :: r)
    | _ => none)
  else (match st with
    | y :: x :: r => some (tw c.1 x y :: r)
    | _ => none))
  else none
def pa_evR : List (Nat × Nat) → List Int64 → Option (List Int64)
  | [], st => some st
  | c :: cs, st => match pa_r1 ld fc tw c st with
    | some st' => pa_evR cs st'
    | none => none
def pa_Sem (B : Bool) (m : Nat) (cs : List Nat) (rs : List (Nat × Nat)) : Prop := ∀ st : List Int64, st.length + m ≤ 64 → ∃ v, pa_evC ld fc jn cs st = some (v :: st) ∧ pa_evR ld fc tw rs st = some (v :: st) ∧ pa_Rb v = true ∧ (B = true → v = 0 ∨ v = 1)
/-- the operators mean the same -/
def pa_Ag : Prop := ((∀ c, pa_Rb (ld c) = true) ∧ ∀ i, pa_Rb (fc i) = true) ∧ (∀ t, (t = 19 ∨ t = 20 ∨ (22 ≤ t ∧ t ≤ 28)) → ∀ x y, pa_Rb x = true → pa_Rb y = true → jn t x y = tw (pa_opc t) x y ∧ pa_Rb (tw (pa_opc t) x y) = true) ∧ (∀ t, 26 ≤ t → t ≤ 28 → ∀ x y, tw (pa_opc t) x y = 0 ∨ tw (pa_opc t) x y = 1) ∧
  (∀ t, (t = 7 ∨ t = 8) → ∀ x y : Int64, (x = 0 ∨ x = 1) → (y = 0 ∨ y = 1) → jn t x y = tw (pa_opc t) x y ∧ (tw (pa_opc t) x y = 0 ∨ tw (pa_opc t) x y = 1))
variable {ld fc jn tw}
theorem pa_evC_app (a c : List Nat) (st : List Int64) : pa_evC ld fc jn (a ++ c) st = (match pa_evC ld fc jn a st with
    | some s => pa_evC ld fc jn c s
    | none => none) := by
  induction a generalizing st with
  | nil => rfl
  | cons x a ih =>
    show (match pa_c1 ld fc jn x st with
      | some st' => pa_evC ld fc jn (a ++ c) st'
      | none => none) = (match (match pa_c1 ld fc jn x st with
      | some st' => pa_evC ld fc jn a st'
      | none => none) with
      | some s => pa_evC ld fc jn c s
      | none => none)
    cases pa_c1 ld fc jn x st with
    | none => rfl
    | some s => exact ih s
theorem pa_evR_app (a c : List (Nat × Nat)) (st : List Int64) : pa_evR ld fc tw (a ++ c) st = (match pa_evR ld fc tw a st with
    | some s => pa_evR ld fc tw c s
    | none => none) := by
  induction a generalizing st with
  | nil => rfl
  | cons x a ih =>
    show (match pa_r1 ld fc tw x st with
      | some st' => pa_evR ld fc tw (a ++ c) st'
      | none => none) = (match (match pa_r1 ld fc tw x st with
      | some st' => pa_evR ld fc tw a st'
      | none => none) with
      | some s => pa_evR ld fc tw c s
      | none => none)
    cases pa_r1 ld fc tw x st with
    | none => rfl
    | some s => exact ih s
theorem pa_Sem.mono {B : Bool} {m m' : Nat} {cs : List Nat} {rs : List (Nat × Nat)} (h : pa_Sem ld fc jn tw B m cs rs) (hm : m ≤ m') : pa_Sem ld fc jn tw B m' cs rs := fun st hs => h st (by omega)
theorem pa_Sem.weak {B : Bool} {m : Nat} {cs : List Nat} {rs : List (Nat × Nat)} (h : pa_Sem ld fc jn tw B m cs rs) : pa_Sem ld fc jn tw false m cs rs := fun st hs => by
  obtain ⟨v, h1, h2, h3, _⟩ := h st hs
  exact ⟨v, h1, h2, h3, fun h => by cases h⟩
theorem pa_vC_R (hg : (∀ c, pa_Rb (ld c) = true) ∧ ∀ i, pa_Rb (fc i) = true) {c : Nat} (hc : c / 32 < 16777216) : pa_Rb (pa_vC ld fc c) = true := by
  unfold pa_vC
  by_cases h1 : c % 32 = 21
  · rw [if_pos h1]
    have e : (Int64.ofNat (c / 32)).toInt = (c / 32 : Nat) := Int64.toInt_ofNat_of_lt (by omega)
    have e1 : (-1000000000000 : Int64).toInt = -1000000000000 := rfl
    have e2 : (1000000000000 : Int64).toInt = 1000000000000 := rfl
    have a1 : (-1000000000000 : Int64) ≤ Int64.ofNat (c / 32) := Int64.le_iff_toInt_le.mpr (by rw [e, e1]; omega)
    have a2 : Int64.ofNat (c / 32) ≤ 1000000000000 := Int64.le_iff_toInt_le.mpr (by rw [e, e2]; omega)
    unfold pa_Rb
    rw [decide_eq_true a1, decide_eq_true a2]
    rfl
  · rw [if_neg h1]
    by_cases h2 : c % 32 = 18
    · rw [if_pos h2]; exact hg.1 _
    · rw [if_neg h2]
      by_cases h3 : 11 ≤ c % 32 ∧ c % 32 ≤ 17
      · rw [if_pos h3]; exact hg.2 _
      · rw [if_neg h3]; decide
theorem pa_okA {t : Nat} {x y : Int64} (h : t ≠ 7 ∧ t ≠ 8) (hx : pa_Rb x = true) (hy : pa_Rb y = true) : pa_ok t x y = true := by
  unfold pa_ok
  rw [if_neg (by omega), hx, hy]
  rfl
theorem pa_okB {t : Nat} {x y : Int64} (h : t = 7 ∨ t = 8) (hx : x = 0 ∨ x = 1) (hy : y = 0 ∨ y = 1) : pa_ok t x y = true := by
  unfold pa_ok
  rw [if_pos h, decide_eq_true hx, decide_eq_true hy]
  rfl
theorem pa_Rb01 {x : Int64} (hx : x = 0 ∨ x = 1) : pa_Rb x = true := by
  rcases hx with rfl | rfl <;> decide
theorem pa_Sem.leaf {c o v : Nat} {m : Nat} (hg : (∀ c, pa_Rb (ld c) = true) ∧ ∀ i, pa_Rb (fc i) = true) (hm : 1 ≤ m) (hc : c / 32 < 16777216 ∧ v < 16777216) (h9 : c % 32 ≠ 9) (hj : pa_jnS (c % 32) = false) (ho : o ≤ 9) (hv : pa_vC ld fc c = pa_vR ld fc o v) : pa_Sem ld fc jn tw false m [c] [(o, v)] := by
  intro st hs
  refine ⟨pa_vC ld fc c, ?_, ?_, pa_vC_R hg hc.1, fun h => by cases h⟩
  · simp only [pa_evC, pa_c1, if_pos hc.1, if_neg h9, hj, Bool.false_eq_true, if_false, if_pos (show st.length < 64 by omega)]
  · simp only [pa_evR, pa_r1, if_pos (show v < 16777216 ∧ o ≤ 26 from ⟨hc.2, by omega⟩), if_pos ho, if_pos (show st.length < 64 by omega), hv]
theorem pa_Sem.bin {B1 B2 B : Bool} {m1 m2 m t : Nat} {a c : List Nat} {a' c' : List (Nat × Nat)} (h1 : pa_Sem ld fc jn tw B1 m1 a a') (h2 : pa_Sem ld fc jn tw B2 m2 c c') (hm1 : m1 ≤ m) (hm2 : m2 + 1 ≤ m) (ht : t % 32 = t) (ht9 : t ≠ 9) (htj : pa_jnS t = true) (ho : 10 ≤ pa_opc t) (ho2 : pa_opc t ≠ 26) (ho3 : pa_opc t ≤ 26)
    (hop : ∀ x y : Int64, pa_Rb x = true → pa_Rb y = true → (B1 = true → x = 0 ∨ x = 1) → (B2 = true → y = 0 ∨ y = 1) → pa_ok t x y = true ∧ jn t x y = tw (pa_opc t) x y ∧ pa_Rb (tw (pa_opc t) x y) = true ∧ (B = true → tw (pa_opc t) x y = 0 ∨ tw (pa_opc t) x y = 1)) : pa_Sem ld fc jn tw B m (a ++ c ++ [t]) (a' ++ c' ++ [(pa_opc t, 0)]) := by
  intro st hs
  obtain ⟨x, p1, p2, pr, p3⟩ := h1 st (by omega)
  obtain ⟨y, q1, q2, qr, q3⟩ := h2 (x :: st) (by simp only [List.length_cons]; omega)
  obtain ⟨e0, e1, er, e2⟩ := hop x y pr qr p3 q3
  refine ⟨tw (pa_opc t) x y, ?_, ?_, er, e2⟩
  · rw [pa_evC_app, pa_evC_app, p1]
    simp only [q1, pa_evC, pa_c1, ht, if_pos (show t / 32 < 16777216 by omega), if_neg ht9, htj, if_true, e0, e1]
  · rw [pa_evR_app, pa_evR_app, p2]
    simp only [q2, pa_evR, pa_r1, if_pos (show 0 < 16777216 ∧ pa_opc t ≤ 26 from ⟨by decide, ho3⟩), if_neg (show ¬ pa_opc t ≤ 9 by omega), if_neg ho2]
theorem pa_sub1 (x : Int64) : 1 - (1 - x) = x := by
  apply Int64.toBitVec_inj.mp
  show (1 : BitVec 64) - (1 - x.toBitVec) = x.toBitVec
  bv_omega
theorem pa_Sem.not1 {m : Nat} {a : List Nat} {a' : List (Nat × Nat)} (h : pa_Sem ld fc jn tw true m a a') : ∀ k : Nat, pa_Sem ld fc jn tw true m (a ++ cond (Nat.beq (k % 2) 1) [9] []) (a' ++ pa_z (List.replicate k 26)) := by
  intro k st hs
  obtain ⟨x, p1, p2, _, p3⟩ := h st hs
  have key : ∀ j : Nat, ∀ z : Int64, pa_evR ld fc tw (pa_z (List.replicate j 26)) (z :: st) = some ((if j % 2 = 1 then 1 - z else z) :: st) := by
    intro j
    induction j with
    | zero => intro z; rfl
    | succ j ih =>
      intro z
      have e : pa_evR ld fc tw (pa_z (List.replicate (j + 1) 26)) (z :: st) = pa_evR ld fc tw (pa_z (List.replicate j 26)) ((1 - z) :: st) := rfl
      rw [e, ih]
      by_cases hj : j % 2 = 1
      · rw [if_pos hj, if_neg (by omega), pa_sub1]
      · rw [if_neg hj, if_pos (by omega)]
  have p3 := p3 rfl
  have h01 : (if k % 2 = 1 then 1 - x else x) = 0 ∨ (if k % 2 = 1 then 1 - x else x) = 1 := by
    by_cases hk : k % 2 = 1
    · rw [if_pos hk]
      rcases p3 with rfl | rfl
      · right; rfl
      · left; rfl
    · rw [if_neg hk]; exact p3
  refine ⟨if k % 2 = 1 then 1 - x else x, ?_, ?_, pa_Rb01 h01, fun _ => h01⟩
  · rw [pa_evC_app, p1]
    by_cases hk : k % 2 = 1
    · rw [if_pos hk, hk]
      rcases p3 with rfl | rfl <;> rfl
    · rw [if_neg hk, show Nat.beq (k % 2) 1 = false from Bool.eq_false_iff.mpr (fun q => hk (Nat.eq_of_beq_eq_true q))]; rfl
  · rw [pa_evR_app, p2]
    exact key k x
end PD
section PE
variable {b : Nat → Nat} {n : Nat}
theorem pa_bnd_l {r : pa_E} {f : Nat → pa_E} {e : Nat × Nat} (h : pa_bnd r f = .inl e) : r = .inl e ∨ ∃ p cs, r = .inr (p, cs) ∧ f p = .inl e := by
  unfold pa_bnd at h
  rcases r with e1 | ⟨p, cs⟩
  · left; exact h
  · right
    refine ⟨p, cs, rfl, ?_⟩
    simp only at h
    split at h
    · rename_i e2 h2; rw [h2]; exact h
    · cases h
theorem pa_bnd_r {r : pa_E} {f : Nat → pa_E} {p' : Nat} {cs : List Nat} (h : pa_bnd r f = .inr (p', cs)) : ∃ p c1 c2, r = .inr (p, c1) ∧ f p = .inr (p', c2) ∧ cs = c1 ++ c2 := by
  unfold pa_bnd at h
  rcases r with e1 | ⟨p, c1⟩
  · cases h
  · simp only at h
    split at h
    · cases h
    · rename_i p2 ds h2
      have h3 := Sum.inr.inj h
      refine ⟨p, c1, ds, rfl, ?_, ?_⟩
      · rw [h2, (Prod.mk.inj h3).1]
      · exact (Prod.mk.inj h3).2.symm
theorem pa_nx_r {p p' : Nat} {cs : List Nat} (h : pa_nx b n p = .inr (p', cs)) : p' = pa_ed b n p ∧ cs = [] := by
  rcases pa_nx_or (b := b) (n := n) p with ⟨e, h2⟩ | h2
  · rw [h2] at h; cases h
  · rw [h2] at h
    have h3 := Sum.inr.inj h
    exact ⟨(Prod.mk.inj h3).1.symm, (Prod.mk.inj h3).2.symm⟩
theorem pa_nr_l {p : Nat} {e : Nat × Nat} {k : Nat → pa_R} (h : pa_nx b n p = .inl e) : pa_nr b n p k = .inl e := by
  unfold pa_nr; rw [h]
theorem pa_nr_r {p p' : Nat} {cs : List Nat} {k : Nat → pa_R} (h : pa_nx b n p = .inr (p', cs)) : pa_nr b n p k = k p' := by
  unfold pa_nr; rw [h]
theorem pa_ex_r {c : Bool} {p p' : Nat} {cs : List Nat} (h : pa_ex b n c p = .inr (p', cs)) : c = true ∧ pa_nx b n p = .inr (p', cs) := by
  cases c with
  | true => exact ⟨rfl, h⟩
  | false => cases h
theorem pa_ex_l {c : Bool} {p : Nat} {e : Nat × Nat} (h : pa_ex b n c p = .inl e) : (c = true ∧ pa_nx b n p = .inl e) ∨ (c = false ∧ e = (1, pa_sk b n p)) := by
  cases c with
  | true => exact Or.inl ⟨rfl, h⟩
  | false => exact Or.inr ⟨rfl, (Sum.inl.inj h).symm⟩
theorem pa_em_r {c p p' : Nat} {cs : List Nat} (h : pa_em c p = .inr (p', cs)) : p' = p ∧ cs = [c] := by
  have h3 := Sum.inr.inj h
  exact ⟨(Prod.mk.inj h3).1.symm, (Prod.mk.inj h3).2.symm⟩
/-- a piece of arithmetic, of both sides -/
def pa_Sim (b : Nat → Nat) (n : Nat) (ld fc : Nat → Int64) (jn tw : Nat → Int64 → Int64 → Int64) (rho m L : Nat) (ex : Nat → Prop) (q : Nat → pa_E) : Prop :=
  ∀ (p kd ph : Nat) (bg : Bool) (pr : Nat) (ops : List Nat) (fs : List pa_F) (out : List (Nat × Nat)), fs.length = L → ph < 2 → (pa_isT kd = true → bg = true → pa_tk b n p ≠ 9 ∧ pa_tk b n p ≠ 34 ∧ pa_tk b n p ≠ 10) → (∀ o, ops.head? = some o → pa_rank o < rho) →
    (∀ e, q p = .inl e → pa_En b n (p, false, (kd, ph, bg, pr, ops) :: fs, out) (.inl e)) ∧
    (∀ p' cs, q p = .inr (p', cs) → ∃ rs pend, (∀ o ∈ pend, rho ≤ pa_rank o) ∧ pa_Sem ld fc jn tw false m cs (rs ++ pa_z pend) ∧ pa_Re b n (p, false, (kd, ph, bg, pr, ops) :: fs, out) (p', true, (kd, ph, false, pr, pend ++ ops) :: fs, out ++ rs) ∧ ex p' ∧ p < p')
end PE
section PF
variable {b : Nat → Nat} {n : Nat} {ld fc : Nat → Int64} {jn tw : Nat → Int64 → Int64 → Int64}
theorem pa_flr {k p : Nat} {e : Nat × Nat} (h : pa_fl b n k p = .inl e) : pa_fr b n k p = .inl e := by
  have h2 : (k, pa_sk b n p) = e := Sum.inl.inj h
  show Sum.inl (k, pa_sk b n p) = _
  rw [h2]
theorem pa_noT {kd : Nat} {bg : Bool} {t x : Nat} (hb : pa_isT kd = true → bg = true → t ≠ 9 ∧ t ≠ 34 ∧ t ≠ 10) (hx : x = 9 ∨ x = 34 ∨ x = 10) : ¬ ((pa_isT kd && bg) = true ∧ t = x) := by
  rintro ⟨h1, h2⟩
  rw [Bool.and_eq_true] at h1
  obtain ⟨a, c, e⟩ := hb h1.1 h1.2
  rcases hx with rfl | rfl | rfl
  · exact a h2
  · exact c h2
  · exact e h2
theorem pa_top_all {l : Nat} {pend ops : List Nat} (h1 : ∀ o ∈ pend, l ≤ pa_rank o) (h2 : ∀ o, ops.head? = some o → pa_rank o < l) : pa_top l (pend ++ ops) = pend ∧ pa_low l (pend ++ ops) = ops := by
  induction pend with
  | nil =>
    cases ops with
    | nil => exact ⟨rfl, rfl⟩
    | cons o r =>
      have := h2 o rfl
      have e : Nat.ble l (pa_rank o) = false := Bool.eq_false_iff.mpr (fun q => by have := Nat.le_of_ble_eq_true q; omega)
      unfold pa_top pa_low
      simp only [List.nil_append, List.takeWhile_cons, List.dropWhile_cons, e]
      exact ⟨rfl, rfl⟩
  | cons o r ih =>
    have e : Nat.ble l (pa_rank o) = true := Nat.ble_eq_true_of_le (h1 o (List.mem_cons_self ..))
    obtain ⟨i1, i2⟩ := ih (fun o ho => h1 o (List.mem_cons_of_mem _ ho))
    unfold pa_top at i1 ⊢
    unfold pa_low at i2 ⊢
    simp only [List.cons_append, List.takeWhile_cons, List.dropWhile_cons, e, if_true, i1, i2]
    exact ⟨trivial, trivial⟩
theorem pa_top_nil {l : Nat} {pend : List Nat} (h1 : ∀ o ∈ pend, l ≤ pa_rank o) : pa_top l pend = pend ∧ pa_low l pend = [] := by
  have := pa_top_all (ops := []) h1 (fun o h => by cases h)
  rw [List.append_nil] at this
  exact this
theorem pa_z_app (a c : List Nat) : pa_z (a ++ c) = pa_z a ++ pa_z c := List.map_append
theorem pa_part_sim {m L lev : Nat} {inner : Nat → pa_E} {exS : Nat → Prop} (hL : L + lev = 8) (hexS : ∀ p, exS p → (pa_isA (pa_tk b n p) || pa_isM (pa_tk b n p)) = false) (hag : pa_Ag ld fc jn tw) (hm : 1 ≤ m) (hm2 : 0 < lev → ∃ mi, mi + 1 ≤ m ∧ pa_Sim b n ld fc jn tw 5 mi (L + 1) exS inner) :
    pa_Sim b n ld fc jn tw 7 m L (fun _ => True) (pa_part b n lev inner) := by
  intro p kd ph bg pr ops fs out hl hph hb hops
  have hlen : fs.length = 8 ↔ lev = 0 := by omega
  have hst : ∀ r, pa_stP b n p (kd, ph, bg, pr, ops) fs out = r → pa_st b n (p, false, (kd, ph, bg, pr, ops) :: fs, out) = r := fun r h => h
  have h9 := pa_noT hb (x := 9) (Or.inl rfl)
  have h34 := pa_noT hb (x := 34) (Or.inr (Or.inl rfl))
  have h10 := pa_noT hb (x := 10) (Or.inr (Or.inr rfl))
  have hS : ∀ r, pa_stP b n p (kd, ph, bg, pr, ops) fs out = r → pa_st b n (p, false, (kd, ph, bg, pr, ops) :: fs, out) = r := fun r h => h
  unfold pa_stP at hS
  simp only [if_neg h9, if_neg h34, if_neg h10] at hS
  have hgt : pa_tk b n p ≠ 38 → p < pa_ed b n p := fun h => (pa_ed_gt h).1
  unfold pa_part
  simp only
  by_cases h21 : pa_tk b n p = 21
  · simp only [if_pos h21, if_neg (show ¬ pa_tk b n p = 18 by omega), if_neg (show ¬ pa_tk b n p = 32 by omega), if_neg (show ¬ (pa_tk b n p = 19 ∨ pa_tk b n p = 20) by omega)] at hS ⊢
    constructor
    · intro e he
      rcases pa_bnd_l he with h | ⟨p1, c1, h, h2⟩
      · exact pa_En.bad (hS _ (pa_nr_l h))
      · cases h2
    · intro p' cs he
      obtain ⟨p1, c1, c2, h, h2, rfl⟩ := pa_bnd_r he
      obtain ⟨rfl, rfl⟩ := pa_em_r h2
      obtain ⟨hp, rfl⟩ := pa_nx_r h
      refine ⟨[(0, pa_nm b n p)], [], fun o ho => (by cases ho), ?_, pa_Re.one (hS _ (pa_nr_r h)), trivial, ?_⟩
      · refine pa_Sem.leaf hag.1 hm (by have := pa_nm_b b n p; omega) (by omega) ?_ (by omega) ?_
        · rw [show (pa_nm b n p * 32 + 21) % 32 = 21 by omega]; rfl
        · unfold pa_vC pa_vR
          rw [if_pos (by omega), if_pos rfl, show (pa_nm b n p * 32 + 21) / 32 = pa_nm b n p by omega]
      · rw [hp]; exact hgt (by omega)
  · simp only [if_neg h21] at hS ⊢
    by_cases hf : 11 ≤ pa_tk b n p ∧ pa_tk b n p ≤ 17
    · simp only [if_pos hf, if_neg (show ¬ pa_tk b n p = 18 by omega), if_neg (show ¬ pa_tk b n p = 32 by omega), if_neg (show ¬ (pa_tk b n p = 19 ∨ pa_tk b n p = 20) by omega)] at hS ⊢
      constructor
      · intro e he
        rcases pa_bnd_l he with h | ⟨p1, c1, h, h2⟩
        · exact pa_En.bad (hS _ (pa_nr_l h))
        · cases h2
      · intro p' cs he
        obtain ⟨p1, c1, c2, h, h2, rfl⟩ := pa_bnd_r he
        obtain ⟨rfl, rfl⟩ := pa_em_r h2
        obtain ⟨hp, rfl⟩ := pa_nx_r h
        refine ⟨[(pa_tk b n p - 10, 0)], [], fun o ho => (by cases ho), ?_, pa_Re.one (hS _ (pa_nr_r h)), trivial, ?_⟩
        · refine pa_Sem.leaf hag.1 hm (by omega) (by omega) ?_ (by omega) ?_
          · rw [show (pa_tk b n p) % 32 = pa_tk b n p by omega]
            unfold pa_jnS
            generalize pa_tk b n p = t at hf
            obtain ⟨f1, f2⟩ := hf
            have : t = 11 ∨ t = 12 ∨ t = 13 ∨ t = 14 ∨ t = 15 ∨ t = 16 ∨ t = 17 := by omega
            rcases this with rfl | rfl | rfl | rfl | rfl | rfl | rfl <;> rfl
          · unfold pa_vC pa_vR
            rw [show (pa_tk b n p) % 32 = pa_tk b n p by omega, if_neg h21, if_neg (by omega), if_pos hf, if_neg (by omega), if_neg (by omega), if_neg (by omega), show pa_tk b n p - 10 - 1 = pa_tk b n p - 11 by omega]
        · rw [hp]; exact hgt (by omega)
    · simp only [if_neg hf] at hS ⊢
      by_cases h18 : pa_tk b n p = 18
      · simp only [if_pos h18] at hS ⊢
        constructor
        · intro e he
          rcases pa_bnd_l he with h | ⟨p1, c1, h, h2⟩
          · exact pa_En.bad (hS _ (pa_nr_l h))
          · have hS2 := fun r (hr : _ = r) => hS r ((pa_nr_r h).trans hr)
            by_cases k1 : pa_tk b n p1 = 21
            · simp only [if_pos k1] at h2 hS2
              by_cases k2 : 15 < pa_nm b n p1
              · simp only [if_pos k2] at h2 hS2
                exact pa_En.bad (hS2 _ (pa_flr h2))
              · simp only [if_neg k2] at h2 hS2
                rcases pa_bnd_l h2 with h3 | ⟨p3, c3, h3, h4⟩
                · exact pa_En.bad (hS2 _ (pa_nr_l h3))
                · cases h4
            · simp only [if_neg k1] at h2 hS2
              exact pa_En.bad (hS2 _ (pa_flr h2))
        · intro p' cs he
          obtain ⟨p1, c1, c2, h, h2, rfl⟩ := pa_bnd_r he
          have hS2 := fun r (hr : _ = r) => hS r ((pa_nr_r h).trans hr)
          obtain ⟨hp, rfl⟩ := pa_nx_r h
          by_cases k1 : pa_tk b n p1 = 21
          · simp only [if_pos k1] at h2 hS2
            by_cases k2 : 15 < pa_nm b n p1
            · simp only [if_pos k2] at h2
              cases h2
            · simp only [if_neg k2] at h2 hS2
              obtain ⟨p3, c3, c4, h3, h4, rfl⟩ := pa_bnd_r h2
              obtain ⟨rfl, rfl⟩ := pa_em_r h4
              obtain ⟨hp3, rfl⟩ := pa_nx_r h3
              refine ⟨[(8, pa_nm b n p1)], [], fun o ho => (by cases ho), ?_, pa_Re.one (hS2 _ (pa_nr_r h3)), trivial, ?_⟩
              · refine pa_Sem.leaf hag.1 hm (by have := pa_nm_b b n p1; omega) (by omega) ?_ (by omega) ?_
                · rw [show (pa_nm b n p1 * 32 + 18) % 32 = 18 by omega]; rfl
                · unfold pa_vC pa_vR
                  rw [if_neg (by omega), if_pos (by omega), if_neg (by omega), if_pos rfl, show (pa_nm b n p1 * 32 + 18) / 32 = pa_nm b n p1 by omega]
              · have a1 := hgt (by omega)
                have a2 := (pa_ed_gt (b := b) (n := n) (p := p1) (by omega)).1
                omega
          · simp only [if_neg k1] at h2
            cases h2
      · simp only [if_neg h18] at hS ⊢
        by_cases h32 : pa_tk b n p = 32
        · simp only [if_pos h32] at hS ⊢
          by_cases hz : lev = 0
          · simp only [if_pos hz, if_pos (hlen.mpr hz)] at hS ⊢
            exact ⟨fun e he => pa_En.bad (hS _ (pa_flr he)), fun p' cs he => by cases he⟩
          · simp only [if_neg hz, if_neg (fun h => hz (hlen.mp h))] at hS ⊢
            obtain ⟨mi, hmi, hI⟩ := hm2 (by omega)
            have hG : ∀ p2 pend rs, (∀ o ∈ pend, 5 ≤ pa_rank o) → exS p2 → ∀ r, (if pa_tk b n p2 = 33 then pa_nr b n p2 (fun p' => .inr (true, p', true, (kd, ph, false, pr, ops) :: fs, out ++ rs ++ pa_z pend)) else pa_fr b n 1 p2) = r → pa_st b n (p2, true, (2, 0, false, 0, pend ++ []) :: (kd, ph, false, pr, ops) :: fs, out ++ rs) = r := by
              intro p2 pend rs hp2 hx r hr
              rw [← hr]
              show pa_stG b n p2 (2, 0, false, 0, pend ++ []) ((kd, ph, false, pr, ops) :: fs) (out ++ rs) = _
              unfold pa_stG
              have hx2 := hexS _ hx
              simp only [List.append_nil]
              rw [if_neg (by rw [hx2]; simp), if_neg (by rintro ⟨a, _⟩; cases a), if_neg (by rintro ⟨a, _⟩; cases a), if_neg (by rintro ⟨a, _⟩; cases a), if_neg (by omega), if_neg (by omega)]
              have e1 := (pa_top_nil (l := 1) (pend := pend) (fun o ho => by have := hp2 o ho; omega)).1
              rw [e1]
              simp only [show Nat.beq 2 5 = false from rfl, show Nat.beq 2 4 = false from rfl, cond_false, List.append_nil]
              rfl
            constructor
            · intro e he
              rcases pa_bnd_l he with h | ⟨p1, c1, h, h2⟩
              · exact pa_En.bad (hS _ (pa_nr_l h))
              · have R1 := pa_Re.one (hS _ (pa_nr_r h))
                obtain ⟨I1, I2⟩ := hI p1 2 0 true 0 [] ((kd, ph, false, pr, ops) :: fs) out (by simp [hl]) (by omega) (fun h => by cases h) (fun o h => by cases h)
                rcases pa_bnd_l h2 with h3 | ⟨p2, c2, h3, h4⟩
                · exact R1.en (I1 _ h3)
                · obtain ⟨rs, pend, q1, q2, q3, q4, q5⟩ := I2 _ _ h3
                  refine R1.en (q3.en (pa_En.bad (hG _ _ rs q1 q4 _ ?_)))
                  rcases pa_ex_l h4 with ⟨a1, a2⟩ | ⟨a1, a2⟩
                  · rw [if_pos (Nat.eq_of_beq_eq_true a1), pa_nr_l a2]
                  · rw [if_neg (fun q => by rw [q] at a1; cases a1), a2]; rfl
            · intro p' cs he
              obtain ⟨p1, c1, c2, h, h2, rfl⟩ := pa_bnd_r he
              have R1 := pa_Re.one (hS _ (pa_nr_r h))
              obtain ⟨I1, I2⟩ := hI p1 2 0 true 0 [] ((kd, ph, false, pr, ops) :: fs) out (by simp [hl]) (by omega) (fun h => by cases h) (fun o h => by cases h)
              obtain ⟨p2, c3, c4, h3, h4, rfl⟩ := pa_bnd_r h2
              obtain ⟨hp, rfl⟩ := pa_nx_r h
              obtain ⟨rs, pend, q1, q2, q3, q4, q5⟩ := I2 _ _ h3
              obtain ⟨a1, a2⟩ := pa_ex_r h4
              obtain ⟨hp4, rfl⟩ := pa_nx_r a2
              have a3 := Nat.eq_of_beq_eq_true a1
              refine ⟨rs ++ pa_z pend, [], fun o ho => (by cases ho), ?_, R1.tr (q3.tr (pa_Re.one (hG _ _ rs q1 q4 _ ?_))), trivial, ?_⟩
              · simp only [List.nil_append, List.append_nil, show pa_z [] = [] from rfl]
                exact q2.mono (by omega)
              · rw [if_pos a3, pa_nr_r a2]
                simp only [List.append_nil, List.nil_append, List.append_assoc]
              · have b1 := hgt (by omega)
                have b2 := (pa_ed_gt (b := b) (n := n) (p := p2) (by omega)).1
                omega
        · simp only [if_neg h32] at hS ⊢
          by_cases hmm : pa_tk b n p = 19 ∨ pa_tk b n p = 20
          · simp only [if_pos hmm] at hS ⊢
            by_cases hz : lev = 0
            · simp only [if_pos hz, if_pos (hlen.mpr hz)] at hS ⊢
              constructor
              · intro e he
                rcases pa_bnd_l he with h | ⟨p1, c1, h, h2⟩
                · exact pa_En.bad (hS _ (pa_nr_l h))
                · refine pa_En.bad (hS _ ?_)
                  rw [pa_nr_r h]
                  by_cases k1 : pa_tk b n p1 = 32
                  · simp only [if_pos k1] at h2 ⊢; exact pa_flr h2
                  · simp only [if_neg k1] at h2 ⊢; exact pa_flr h2
              · intro p' cs he
                obtain ⟨p1, c1, c2, h, h2, rfl⟩ := pa_bnd_r he
                by_cases k1 : pa_tk b n p1 = 32
                · simp only [if_pos k1] at h2; cases h2
                · simp only [if_neg k1] at h2; cases h2
            · simp only [if_neg hz, if_neg (fun h => hz (hlen.mp h))] at hS ⊢
              obtain ⟨mi, hmi, hI⟩ := hm2 (by omega)
              -- the comma
              have hG : ∀ p2 pend rs, (∀ o ∈ pend, 5 ≤ pa_rank o) → exS p2 → ∀ r, (if pa_tk b n p2 = 36 then pa_nr b n p2 (fun p' => .inr (true, p', false, (4, 0, false, pa_tk b n p, []) :: (kd, ph, false, pr, ops) :: fs, out ++ rs ++ pa_z pend)) else pa_fr b n 1 p2) = r → pa_st b n (p2, true, (3, 0, false, pa_tk b n p, pend ++ []) :: (kd, ph, false, pr, ops) :: fs, out ++ rs) = r := by
                intro p2 pend rs hp2 hx r hr
                rw [← hr]
                show pa_stG b n p2 (3, 0, false, pa_tk b n p, pend ++ []) ((kd, ph, false, pr, ops) :: fs) (out ++ rs) = _
                unfold pa_stG
                have hx2 := hexS _ hx
                simp only [List.append_nil]
                rw [if_neg (by rw [hx2]; simp), if_neg (by rintro ⟨a, _⟩; cases a), if_neg (by rintro ⟨a, _⟩; cases a), if_neg (by rintro ⟨a, _⟩; cases a), if_neg (by omega), if_pos trivial]
                have e1 := (pa_top_nil (l := 1) (pend := pend) (fun o ho => by have := hp2 o ho; omega))
                rw [e1.1, e1.2]
              -- the bracket that closes
              have hH : ∀ p2 pend rs o2, (∀ o ∈ pend, 5 ≤ pa_rank o) → exS p2 → ∀ r, (if pa_tk b n p2 = 33 then pa_nr b n p2 (fun p' => .inr (true, p', true, (kd, ph, false, pr, ops) :: fs, o2 ++ rs ++ pa_z pend ++ [(pa_tk b n p, 0)])) else pa_fr b n 1 p2) = r → pa_st b n (p2, true, (4, 0, false, pa_tk b n p, pend ++ []) :: (kd, ph, false, pr, ops) :: fs, o2 ++ rs) = r := by
                intro p2 pend rs o2 hp2 hx r hr
                rw [← hr]
                show pa_stG b n p2 (4, 0, false, pa_tk b n p, pend ++ []) ((kd, ph, false, pr, ops) :: fs) (o2 ++ rs) = _
                unfold pa_stG
                have hx2 := hexS _ hx
                simp only [List.append_nil]
                rw [if_neg (by rw [hx2]; simp), if_neg (by rintro ⟨a, _⟩; cases a), if_neg (by rintro ⟨a, _⟩; cases a), if_neg (by rintro ⟨a, _⟩; cases a), if_neg (by omega), if_neg (by omega)]
                have e1 := (pa_top_nil (l := 1) (pend := pend) (fun o ho => by have := hp2 o ho; omega)).1
                rw [e1]
                rfl
              constructor
              · intro e he
                rcases pa_bnd_l he with h | ⟨p0, c0, h, h2⟩
                · exact pa_En.bad (hS _ (pa_nr_l h))
                · have hS2 := fun r (hr : _ = r) => hS r ((pa_nr_r h).trans hr)
                  by_cases k1 : pa_tk b n p0 = 32
                  · simp only [if_pos k1] at h2 hS2
                    rcases pa_bnd_l h2 with h3 | ⟨p1, c1, h3, h4⟩
                    · exact pa_En.bad (hS2 _ (pa_nr_l h3))
                    · have R1 := pa_Re.one (hS2 _ (pa_nr_r h3))
                      obtain ⟨I1, I2⟩ := hI p1 3 0 true (pa_tk b n p) [] ((kd, ph, false, pr, ops) :: fs) out (by simp [hl]) (by omega) (fun h => by cases h) (fun o h => by cases h)
                      rcases pa_bnd_l h4 with h5 | ⟨p2, c2, h5, h6⟩
                      · exact R1.en (I1 _ h5)
                      · obtain ⟨rs, pend, q1, q2, q3, q4, q5⟩ := I2 _ _ h5
                        rcases pa_bnd_l h6 with h7 | ⟨p3, c3, h7, h8⟩
                        · refine R1.en (q3.en (pa_En.bad (hG _ _ rs q1 q4 _ ?_)))
                          rcases pa_ex_l h7 with ⟨a1, a2⟩ | ⟨a1, a2⟩
                          · rw [if_pos (Nat.eq_of_beq_eq_true a1), pa_nr_l a2]
                          · rw [if_neg (fun q => by rw [q] at a1; cases a1), a2]; rfl
                        · obtain ⟨a1, a2⟩ := pa_ex_r h7
                          have R2 := pa_Re.one (hG _ _ rs q1 q4 _ ((if_pos (Nat.eq_of_beq_eq_true a1)).trans (pa_nr_r a2)))
                          obtain ⟨J1, J2⟩ := hI p3 4 0 false (pa_tk b n p) [] ((kd, ph, false, pr, ops) :: fs) (out ++ rs ++ pa_z pend) (by simp [hl]) (by omega) (fun h => by cases h) (fun o h => by cases h)
                          rcases pa_bnd_l h8 with h9' | ⟨p4, c4, h9', h10'⟩
                          · exact R1.en (q3.en (R2.en (J1 _ h9')))
                          · obtain ⟨rs2, pend2, r1, r2, r3, r4, r5⟩ := J2 _ _ h9'
                            rcases pa_bnd_l h10' with h11 | ⟨p5, c5, h11, h12⟩
                            · refine R1.en (q3.en (R2.en (r3.en (pa_En.bad (hH _ _ rs2 (out ++ rs ++ pa_z pend) r1 r4 _ ?_)))))
                              rcases pa_ex_l h11 with ⟨a3, a4⟩ | ⟨a3, a4⟩
                              · rw [if_pos (Nat.eq_of_beq_eq_true a3), pa_nr_l a4]
                              · rw [if_neg (fun q => by rw [q] at a3; cases a3), a4]; rfl
                            · cases h12
                  · simp only [if_neg k1] at h2 hS2
                    exact pa_En.bad (hS2 _ (pa_flr h2))
              · intro p' cs he
                obtain ⟨p0, c0, c0', h, h2, rfl⟩ := pa_bnd_r he
                have hS2 := fun r (hr : _ = r) => hS r ((pa_nr_r h).trans hr)
                obtain ⟨hp, rfl⟩ := pa_nx_r h
                by_cases k1 : pa_tk b n p0 = 32
                · simp only [if_pos k1] at h2 hS2
                  obtain ⟨p1, c1, c1', h3, h4, rfl⟩ := pa_bnd_r h2
                  have R1 := pa_Re.one (hS2 _ (pa_nr_r h3))
                  obtain ⟨hp1, rfl⟩ := pa_nx_r h3
                  obtain ⟨I1, I2⟩ := hI p1 3 0 true (pa_tk b n p) [] ((kd, ph, false, pr, ops) :: fs) out (by simp [hl]) (by omega) (fun h => by cases h) (fun o h => by cases h)
                  obtain ⟨p2, c2, c2', h5, h6, rfl⟩ := pa_bnd_r h4
                  obtain ⟨rs, pend, q1, q2, q3, q4, q5⟩ := I2 _ _ h5
                  obtain ⟨p3, c3, c3', h7, h8, rfl⟩ := pa_bnd_r h6
                  obtain ⟨a1, a2⟩ := pa_ex_r h7
                  have R2 := pa_Re.one (hG _ _ rs q1 q4 _ ((if_pos (Nat.eq_of_beq_eq_true a1)).trans (pa_nr_r a2)))
                  obtain ⟨hp3, rfl⟩ := pa_nx_r a2
                  obtain ⟨J1, J2⟩ := hI p3 4 0 false (pa_tk b n p) [] ((kd, ph, false, pr, ops) :: fs) (out ++ rs ++ pa_z pend) (by simp [hl]) (by omega) (fun h => by cases h) (fun o h => by cases h)
                  obtain ⟨p4, c4, c4', h9', h10', rfl⟩ := pa_bnd_r h8
                  obtain ⟨rs2, pend2, r1, r2, r3, r4, r5⟩ := J2 _ _ h9'
                  obtain ⟨p5, c5, c5', h11, h12, rfl⟩ := pa_bnd_r h10'
                  obtain ⟨a3, a4⟩ := pa_ex_r h11
                  obtain ⟨hp5, rfl⟩ := pa_nx_r a4
                  obtain ⟨rfl, rfl⟩ := pa_em_r h12
                  have R3 := pa_Re.one (hH _ _ rs2 (out ++ rs ++ pa_z pend) r1 r4 _ ((if_pos (Nat.eq_of_beq_eq_true a3)).trans (pa_nr_r a4)))
                  refine ⟨rs ++ pa_z pend ++ (rs2 ++ pa_z pend2) ++ [(pa_tk b n p, 0)], [], fun o ho => (by cases ho), ?_, R1.tr (q3.tr (R2.tr (r3.tr ?_))), trivial, ?_⟩
                  · have ho : pa_opc (pa_tk b n p) = pa_tk b n p := by rcases hmm with h | h <;> rw [h] <;> rfl
                    have e := pa_Sem.bin (B := false) (t := pa_tk b n p) q2 r2 (show mi ≤ m by omega) (show mi + 1 ≤ m by omega) (by omega) (by omega) (by rcases hmm with h | h <;> rw [h] <;> rfl) (by rw [ho]; omega) (by rw [ho]; omega) (by rw [ho]; omega) (fun x y hx hy _ _ => ⟨pa_okA (by omega) hx hy, (hag.2.1 _ (by omega) x y hx hy).1, (hag.2.1 _ (by omega) x y hx hy).2, fun h => by cases h⟩)
                    rw [ho] at e
                    simpa [pa_z] using e
                  · have e : out ++ rs ++ pa_z pend ++ rs2 ++ pa_z pend2 ++ [(pa_tk b n p, 0)] = out ++ (rs ++ pa_z pend ++ (rs2 ++ pa_z pend2) ++ [(pa_tk b n p, 0)]) := by simp only [List.append_assoc]
                    rw [e] at R3
                    exact R3
                  · have b0 := hgt (by omega)
                    have b1 := (pa_ed_gt (b := b) (n := n) (p := p0) (by omega)).1
                    have a1' := Nat.eq_of_beq_eq_true a1
                    have b2 := (pa_ed_gt (b := b) (n := n) (p := p2) (by omega)).1
                    have a3' := Nat.eq_of_beq_eq_true a3
                    have b4 := (pa_ed_gt (b := b) (n := n) (p := p4) (by omega)).1
                    omega
                · simp only [if_neg k1] at h2
                  cases h2
          · simp only [if_neg hmm] at hS ⊢
            exact ⟨fun e he => pa_En.bad (hS _ (pa_flr he)), fun p' cs he => by cases he⟩
end PF
section PG
variable {b : Nat → Nat} {n : Nat} {ld fc : Nat → Int64} {jn tw : Nat → Int64 → Int64 → Int64}
theorem pa_bfalse {a c : Nat} (h : ¬ a = c) : Nat.beq a c = false := Bool.eq_false_iff.mpr (fun q => h (Nat.eq_of_beq_eq_true q))
theorem pa_isAc {t : Nat} (h : pa_isA t = true) : t = 22 ∨ t = 23 := by
  unfold pa_isA at h
  rcases Bool.or_eq_true _ _ |>.mp h with q | q
  · exact Or.inl (Nat.eq_of_beq_eq_true q)
  · exact Or.inr (Nat.eq_of_beq_eq_true q)
theorem pa_isMc {t : Nat} (h : pa_isM t = true) : t = 24 ∨ t = 25 := by
  unfold pa_isM at h
  rcases Bool.or_eq_true _ _ |>.mp h with q | q
  · exact Or.inl (Nat.eq_of_beq_eq_true q)
  · exact Or.inr (Nat.eq_of_beq_eq_true q)
theorem pa_isCc {t : Nat} (h : pa_isC t = true) : t = 26 ∨ t = 27 ∨ t = 28 := by
  unfold pa_isC at h
  rcases Bool.or_eq_true _ _ |>.mp h with q | q
  · rcases Bool.or_eq_true _ _ |>.mp q with q | q
    · exact Or.inl (Nat.eq_of_beq_eq_true q)
    · exact Or.inr (Or.inl (Nat.eq_of_beq_eq_true q))
  · exact Or.inr (Or.inr (Nat.eq_of_beq_eq_true q))
/-- the loop over operators of one rank: times and over (6), plus and minus (5) -/
theorem pa_lp_sim {rho m mq L : Nat} {op : Nat → Bool} {exq : Nat → Prop} {q : Nat → pa_E} (hq : pa_Sim b n ld fc jn tw (rho + 1) mq L exq q) (hm : mq + 1 ≤ m) (hag : pa_Ag ld fc jn tw) (hn : n ≤ 800) (ho38 : op 38 = false)
    (hop : ∀ t, op t = true → (t = 22 ∨ t = 23 ∨ t = 24 ∨ t = 25) ∧ cond (pa_isA t) 5 6 = rho ∧ pa_rank (pa_opc t) = rho) :
    ∀ (f p kd ph : Nat) (pr : Nat) (ops : List Nat) (fs : List pa_F) (out : List (Nat × Nat)) (cs0 : List Nat) (rs0 : List (Nat × Nat)) (pend0 : List Nat), n ≤ p + f → fs.length = L → ph < 2 → (∀ o, ops.head? = some o → pa_rank o < rho) → (∀ o ∈ pend0, rho ≤ pa_rank o) → pa_Sem ld fc jn tw false m cs0 (rs0 ++ pa_z pend0) → exq p →
    (∀ e, pa_lp b n op q f p = .inl e → pa_En b n (p, true, (kd, ph, false, pr, pend0 ++ ops) :: fs, out ++ rs0) (.inl e)) ∧
    (∀ p' ds, pa_lp b n op q f p = .inr (p', ds) → ∃ rs pend, (∀ o ∈ pend, rho ≤ pa_rank o) ∧ pa_Sem ld fc jn tw false m (cs0 ++ ds) (rs ++ pa_z pend) ∧ pa_Re b n (p, true, (kd, ph, false, pr, pend0 ++ ops) :: fs, out ++ rs0) (p', true, (kd, ph, false, pr, pend ++ ops) :: fs, out ++ rs) ∧ op (pa_tk b n p') = false ∧ exq p' ∧ p ≤ p') := by
  intro f
  induction f with
  | zero =>
    intro p kd ph pr ops fs out cs0 rs0 pend0 hf hl hph hops hp0 hS hx
    refine ⟨fun e he => (by cases he), fun p' ds he => ?_⟩
    have h3 := Sum.inr.inj he
    obtain ⟨rfl, rfl⟩ := Prod.mk.inj h3
    refine ⟨rs0, pend0, hp0, by rw [List.append_nil]; exact hS, ⟨0, fun j => rfl⟩, ?_, hx, Nat.le_refl _⟩
    rw [pa_tk_end (by omega)]
    exact ho38
  | succ f ih =>
    intro p kd ph pr ops fs out cs0 rs0 pend0 hf hl hph hops hp0 hS hx
    have e1 : pa_lp b n op q (f + 1) p = cond (op (pa_tk b n p)) (pa_bnd (pa_nx b n p) (fun p1 => pa_bnd (q p1) (fun p2 => pa_bnd (pa_em (pa_tk b n p) p2) (pa_lp b n op q f)))) (.inr (p, [])) := rfl
    rw [e1]
    cases hc : op (pa_tk b n p) with
    | false =>
      rw [cond_false]
      refine ⟨fun e he => (by cases he), fun p' ds he => ?_⟩
      have h3 := Sum.inr.inj he
      obtain ⟨rfl, rfl⟩ := Prod.mk.inj h3
      exact ⟨rs0, pend0, hp0, by rw [List.append_nil]; exact hS, ⟨0, fun j => rfl⟩, hc, hx, Nat.le_refl _⟩
    | true =>
      rw [cond_true]
      obtain ⟨ht, hrho, hrk⟩ := hop _ hc
      have hAM : (pa_isA (pa_tk b n p) || pa_isM (pa_tk b n p)) = true := by rcases ht with h | h | h | h <;> rw [h] <;> rfl
      have tops := pa_top_all hp0 hops
      have hG : ∀ r, pa_nr b n p (fun p' => .inr (true, p', false, (kd, ph, false, pr, pa_opc (pa_tk b n p) :: ops) :: fs, out ++ rs0 ++ pa_z pend0)) = r → pa_st b n (p, true, (kd, ph, false, pr, pend0 ++ ops) :: fs, out ++ rs0) = r := by
        intro r hr
        rw [← hr]
        show pa_stG b n p (kd, ph, false, pr, pend0 ++ ops) fs (out ++ rs0) = _
        unfold pa_stG
        simp only
        rw [if_pos ⟨hph, hAM⟩, hrho, tops.1, tops.2]
      have hgt := (pa_ed_gt (b := b) (n := n) (p := p) (by omega)).1
      constructor
      · intro e he
        rcases pa_bnd_l he with h | ⟨p1, c1, h, h2⟩
        · exact pa_En.bad (hG _ (pa_nr_l h))
        · have R1 := pa_Re.one (hG _ (pa_nr_r h))
          obtain ⟨hp1, rfl⟩ := pa_nx_r h
          obtain ⟨Q1, Q2⟩ := hq p1 kd ph false pr (pa_opc (pa_tk b n p) :: ops) fs (out ++ rs0 ++ pa_z pend0) hl hph (fun _ h => by cases h) (fun o ho => by rw [← Option.some.inj ho]; omega)
          rcases pa_bnd_l h2 with h3 | ⟨p2, c2, h3, h4⟩
          · exact R1.en (Q1 _ h3)
          · obtain ⟨rs, pend, q1, q2, q3, q4, q5⟩ := Q2 _ _ h3
            rcases pa_bnd_l h4 with h5 | ⟨p3, c3, h5, h6⟩
            · cases h5
            · obtain ⟨rfl, rfl⟩ := pa_em_r h5
              have hb := pa_Sem.bin (B := false) (m := m) (t := pa_tk b n p) hS q2 (Nat.le_refl m) hm (by omega) (by omega) (by rcases ht with h | h | h | h <;> rw [h] <;> rfl) (by rcases ht with h | h | h | h <;> rw [h] <;> decide) (by rcases ht with h | h | h | h <;> rw [h] <;> decide) (by rcases ht with h | h | h | h <;> rw [h] <;> decide) (fun x y hx hy _ _ => ⟨pa_okA (by omega) hx hy, (hag.2.1 _ (by omega) x y hx hy).1, (hag.2.1 _ (by omega) x y hx hy).2, fun h => by cases h⟩)
              obtain ⟨I1, _⟩ := ih p3 kd ph pr ops fs out (cs0 ++ c2 ++ [pa_tk b n p]) (rs0 ++ pa_z pend0 ++ rs) (pend ++ [pa_opc (pa_tk b n p)]) (by omega) hl hph hops (fun o ho => by
                rcases List.mem_append.mp ho with h | h
                · have := q1 o h; omega
                · rw [List.mem_singleton.mp h]; omega) (by
                have e : rs0 ++ pa_z pend0 ++ (rs ++ pa_z pend) ++ [(pa_opc (pa_tk b n p), 0)] = rs0 ++ pa_z pend0 ++ rs ++ pa_z (pend ++ [pa_opc (pa_tk b n p)]) := by simp [pa_z]
                rw [← e]; exact hb) q4
              have J := I1 _ h6
              have e2 : (pend ++ [pa_opc (pa_tk b n p)]) ++ ops = pend ++ pa_opc (pa_tk b n p) :: ops := by simp
              rw [e2, ← List.append_assoc, ← List.append_assoc] at J
              exact R1.en (q3.en J)
      · intro p' ds he
        obtain ⟨p1, c1, c1', h, h2, rfl⟩ := pa_bnd_r he
        have R1 := pa_Re.one (hG _ (pa_nr_r h))
        obtain ⟨hp1, rfl⟩ := pa_nx_r h
        obtain ⟨Q1, Q2⟩ := hq p1 kd ph false pr (pa_opc (pa_tk b n p) :: ops) fs (out ++ rs0 ++ pa_z pend0) hl hph (fun _ h => by cases h) (fun o ho => by rw [← Option.some.inj ho]; omega)
        obtain ⟨p2, c2, c2', h3, h4, rfl⟩ := pa_bnd_r h2
        obtain ⟨rs, pend, q1, q2, q3, q4, q5⟩ := Q2 _ _ h3
        obtain ⟨p3, c3, c3', h5, h6, rfl⟩ := pa_bnd_r h4
        obtain ⟨rfl, rfl⟩ := pa_em_r h5
        have hb := pa_Sem.bin (B := false) (m := m) (t := pa_tk b n p) hS q2 (Nat.le_refl m) hm (by omega) (by omega) (by rcases ht with h | h | h | h <;> rw [h] <;> rfl) (by rcases ht with h | h | h | h <;> rw [h] <;> decide) (by rcases ht with h | h | h | h <;> rw [h] <;> decide) (by rcases ht with h | h | h | h <;> rw [h] <;> decide) (fun x y hx hy _ _ => ⟨pa_okA (by omega) hx hy, (hag.2.1 _ (by omega) x y hx hy).1, (hag.2.1 _ (by omega) x y hx hy).2, fun h => by cases h⟩)
        obtain ⟨_, I2⟩ := ih p3 kd ph pr ops fs out (cs0 ++ c2 ++ [pa_tk b n p]) (rs0 ++ pa_z pend0 ++ rs) (pend ++ [pa_opc (pa_tk b n p)]) (by omega) hl hph hops (fun o ho => by
          rcases List.mem_append.mp ho with h | h
          · have := q1 o h; omega
          · rw [List.mem_singleton.mp h]; omega) (by
          have e : rs0 ++ pa_z pend0 ++ (rs ++ pa_z pend) ++ [(pa_opc (pa_tk b n p), 0)] = rs0 ++ pa_z pend0 ++ rs ++ pa_z (pend ++ [pa_opc (pa_tk b n p)]) := by simp [pa_z]
          rw [← e]; exact hb) q4
        obtain ⟨rs9, pend9, j1, j2, j3, j4, j5, j6⟩ := I2 _ _ h6
        have e2 : (pend ++ [pa_opc (pa_tk b n p)]) ++ ops = pend ++ pa_opc (pa_tk b n p) :: ops := by simp
        rw [e2, ← List.append_assoc, ← List.append_assoc] at j3
        refine ⟨rs9, pend9, j1, ?_, R1.tr (q3.tr j3), j4, j5, by omega⟩
        have e3 : cs0 ++ ([] ++ (c2 ++ ([pa_tk b n p] ++ c3'))) = cs0 ++ c2 ++ [pa_tk b n p] ++ c3' := by simp
        rw [e3]
        exact j2
/-- one piece, then the loop over it -/
theorem pa_row_sim {rho m mq L : Nat} {op : Nat → Bool} {exq : Nat → Prop} {q : Nat → pa_E} (hq : pa_Sim b n ld fc jn tw (rho + 1) mq L exq q) (hm : mq + 1 ≤ m) (hag : pa_Ag ld fc jn tw) (hn : n ≤ 800) (ho38 : op 38 = false)
    (hop : ∀ t, op t = true → (t = 22 ∨ t = 23 ∨ t = 24 ∨ t = 25) ∧ cond (pa_isA t) 5 6 = rho ∧ pa_rank (pa_opc t) = rho) : pa_Sim b n ld fc jn tw rho m L (fun p => op (pa_tk b n p) = false ∧ exq p) (fun p => pa_bnd (q p) (pa_lp b n op q 800)) := by
  intro p kd ph bg pr ops fs out hl hph hb hops
  obtain ⟨Q1, Q2⟩ := hq p kd ph bg pr ops fs out hl hph hb (fun o ho => by have := hops o ho; omega)
  constructor
  · intro e he
    rcases pa_bnd_l he with h | ⟨p1, c1, h, h2⟩
    · exact Q1 _ h
    · obtain ⟨rs, pend, q1, q2, q3, q4, q5⟩ := Q2 _ _ h
      exact q3.en ((pa_lp_sim hq hm hag hn ho38 hop 800 p1 kd ph pr ops fs out c1 rs pend (by omega) hl hph hops (fun o ho => by have := q1 o ho; omega) (q2.mono (by omega)) q4).1 _ h2)
  · intro p' cs he
    obtain ⟨p1, c1, c2, h, h2, rfl⟩ := pa_bnd_r he
    obtain ⟨rs, pend, q1, q2, q3, q4, q5⟩ := Q2 _ _ h
    obtain ⟨rs9, pend9, j1, j2, j3, j4, j5, j6⟩ := (pa_lp_sim hq hm hag hn ho38 hop 800 p1 kd ph pr ops fs out c1 rs pend (by omega) hl hph hops (fun o ho => by have := q1 o ho; omega) (q2.mono (by omega)) q4).2 _ _ h2
    exact ⟨rs9, pend9, j1, j2, q3.tr j3, ⟨j4, j5⟩, by omega⟩
def pa_exS (b : Nat → Nat) (n p : Nat) : Prop := pa_isA (pa_tk b n p) = false ∧ pa_isM (pa_tk b n p) = false ∧ True
theorem pa_sumO_sim {m L lev : Nat} {inner : Nat → pa_E} (hL : L + lev = 8) (hag : pa_Ag ld fc jn tw) (hn : n ≤ 800) (hm : 1 ≤ m) (hm2 : 0 < lev → ∃ mi, mi + 1 ≤ m ∧ pa_Sim b n ld fc jn tw 5 mi (L + 1) (pa_exS b n) inner) : pa_Sim b n ld fc jn tw 5 (m + 2) L (pa_exS b n) (pa_sumO b n lev inner) := by
  have h1 := pa_part_sim (b := b) (n := n) (ld := ld) (fc := fc) hL (fun p (hp : pa_exS b n p) => by rw [hp.1, hp.2.1]; rfl) hag hm hm2
  have h2 := pa_row_sim (op := pa_isM) (rho := 6) h1 (show m + 1 ≤ m + 1 from Nat.le_refl _) hag hn rfl (fun t ht => by rcases pa_isMc ht with rfl | rfl <;> exact ⟨by omega, rfl, rfl⟩)
  have h3 := pa_row_sim (op := pa_isA) (rho := 5) h2 (show m + 1 + 1 ≤ m + 2 from Nat.le_refl _) hag hn rfl (fun t ht => by rcases pa_isAc ht with rfl | rfl <;> exact ⟨by omega, rfl, rfl⟩)
  exact h3
theorem pa_sum_sim (hag : pa_Ag ld fc jn tw) (hn : n ≤ 800) : ∀ lev L : Nat, L + lev = 8 → pa_Sim b n ld fc jn tw 5 (3 * lev + 3) L (pa_exS b n) (pa_sum b n lev) := by
  intro lev
  induction lev with
  | zero =>
    intro L hL
    exact pa_sumO_sim (m := 1) hL hag hn (by omega) (fun h => absurd h (by omega))
  | succ l ih =>
    intro L hL
    have := pa_sumO_sim (m := 3 * l + 4) hL hag hn (by omega) (fun _ => ⟨3 * l + 3, by omega, ih (L + 1) (by omega)⟩)
    have e : 3 * (l + 1) + 3 = 3 * l + 4 + 2 := by omega
    rw [e]
    exact this
end PG
section PH
variable {b : Nat → Nat} {n : Nat} {ld fc : Nat → Int64} {jn tw : Nat → Int64 → Int64 → Int64}
/-- a piece of a test, of both sides -/
def pa_TSim (b : Nat → Nat) (n : Nat) (ld fc : Nat → Int64) (jn tw : Nat → Int64 → Int64 → Int64) (rho m L : Nat) (ex : Nat → Prop) (q : Nat → pa_E) : Prop :=
  ∀ (p kd : Nat) (pr : Nat) (ops : List Nat) (fs : List pa_F) (out : List (Nat × Nat)), fs.length = L → pa_isT kd = true → (∀ o, ops.head? = some o → pa_rank o < rho) →
    (∀ e, q p = .inl e → pa_En b n (p, false, (kd, 0, true, pr, ops) :: fs, out) (.inl e)) ∧
    (∀ p' cs, q p = .inr (p', cs) → ∃ rs pend ph, (∀ o ∈ pend, rho ≤ pa_rank o) ∧ pa_Sem ld fc jn tw true m cs (rs ++ pa_z pend) ∧ (ph = 1 ∨ ph = 2) ∧ pa_Re b n (p, false, (kd, 0, true, pr, ops) :: fs, out) (p', true, (kd, ph, false, pr, pend ++ ops) :: fs, out ++ rs) ∧ (ph = 1 → (pa_isA (pa_tk b n p') || pa_isM (pa_tk b n p')) = false) ∧ ex p' ∧ p < p')
theorem pa_isT_3 {kd : Nat} (h : pa_isT kd = true) : kd = 1 ∨ kd = 5 := by
  unfold pa_isT at h
  rcases Bool.or_eq_true _ _ |>.mp h with q | q
  · exact Or.inl (Nat.eq_of_beq_eq_true q)
  · exact Or.inr (Nat.eq_of_beq_eq_true q)
theorem pa_nots_sim {kd pr : Nat} {fs : List pa_F} {out : List (Nat × Nat)} (hk : pa_isT kd = true) (hn : n ≤ 800) : ∀ (f p : Nat) (ops : List Nat) (z : Bool), n ≤ p + f →
    (∀ e, pa_nots b n f p z = .inl e → pa_En b n (p, false, (kd, 0, true, pr, ops) :: fs, out) (.inl e)) ∧
    (∀ p' z', pa_nots b n f p z = .inr (p', z') → ∃ k, pa_Re b n (p, false, (kd, 0, true, pr, ops) :: fs, out) (p', false, (kd, 0, true, pr, List.replicate k 26 ++ ops) :: fs, out) ∧ z' = (z ^^ Nat.beq (k % 2) 1) ∧ pa_tk b n p' ≠ 9 ∧ p ≤ p') := by
  intro f
  induction f with
  | zero =>
    intro p ops z hf
    refine ⟨fun e he => (by cases he), fun p' z' he => ?_⟩
    obtain ⟨rfl, rfl⟩ := Prod.mk.inj (Sum.inr.inj he)
    refine ⟨0, ⟨0, fun j => rfl⟩, by cases z <;> rfl, ?_, Nat.le_refl _⟩
    rw [pa_tk_end (by omega)]
    decide
  | succ f ih =>
    intro p ops z hf
    have e1 : pa_nots b n (f + 1) p z = if pa_tk b n p = 9 then (match pa_nx b n p with
      | .inl e => .inl e
      | .inr (p', _) => pa_nots b n f p' (!z)) else .inr (p, z) := rfl
    rw [e1]
    by_cases h9 : pa_tk b n p = 9
    · rw [if_pos h9]
      have hG : ∀ r, pa_nr b n p (fun p' => .inr (true, p', false, (kd, 0, true, pr, 26 :: ops) :: fs, out)) = r → pa_st b n (p, false, (kd, 0, true, pr, ops) :: fs, out) = r := by
        intro r hr
        rw [← hr]
        show pa_stP b n p (kd, 0, true, pr, ops) fs out = _
        unfold pa_stP
        simp only
        rw [if_pos ⟨by rw [hk]; rfl, h9⟩]
      rcases pa_nx_or (b := b) (n := n) p with ⟨e, h⟩ | h
      · rw [h]
        refine ⟨fun e' he => ?_, fun p' z' he => (by cases he)⟩
        rw [← Sum.inl.inj he]
        exact pa_En.bad (hG _ (pa_nr_l h))
      · rw [h]
        have R1 := pa_Re.one (hG _ (pa_nr_r h))
        have hgt := (pa_ed_gt (b := b) (n := n) (p := p) (by omega)).1
        obtain ⟨I1, I2⟩ := ih (pa_ed b n p) (26 :: ops) (!z) (by omega)
        refine ⟨fun e he => R1.en (I1 _ he), fun p' z' he => ?_⟩
        obtain ⟨k, i1, i2, i3, i4⟩ := I2 _ _ he
        refine ⟨k + 1, R1.tr ?_, ?_, i3, by omega⟩
        · have e2 : List.replicate (k + 1) 26 ++ ops = List.replicate k 26 ++ 26 :: ops := by
            rw [List.replicate_succ']
            simp
          rw [e2]
          exact i1
        · rw [i2]
          by_cases hk2 : k % 2 = 1
          · rw [hk2, show (k + 1) % 2 = 0 by omega]; cases z <;> rfl
          · rw [show k % 2 = 0 by omega, show (k + 1) % 2 = 1 by omega]; cases z <;> rfl
    · rw [if_neg h9]
      refine ⟨fun e he => (by cases he), fun p' z' he => ?_⟩
      obtain ⟨rfl, rfl⟩ := Prod.mk.inj (Sum.inr.inj he)
      exact ⟨0, ⟨0, fun j => rfl⟩, by cases z <;> rfl, h9, Nat.le_refl _⟩
/-- a comparison, all in brackets, or all: behind the NOTs -/
theorem pa_fact1_sim {m L lev : Nat} {inner : Nat → pa_E} (hL : L + lev = 8) (hag : pa_Ag ld fc jn tw) (hn : n ≤ 800) (hm : 3 * lev + 4 ≤ m) (hm2 : 0 < lev → ∃ mi, mi ≤ m ∧ pa_TSim b n ld fc jn tw 1 mi (L + 1) (fun p => pa_tk b n p ≠ 8 ∧ pa_tk b n p ≠ 7) inner) (p kd pr : Nat) (ops : List Nat) (fs : List pa_F) (out : List (Nat × Nat)) (hl : fs.length = L) (hk : pa_isT kd = true) (hops : ∀ o, ops.head? = some o → pa_rank o < 4) (h9 : pa_tk b n p ≠ 9) :
    (∀ e, pa_fact1 b n lev inner p = .inl e → pa_En b n (p, false, (kd, 0, true, pr, ops) :: fs, out) (.inl e)) ∧
    (∀ p' cs, pa_fact1 b n lev inner p = .inr (p', cs) → ∃ rs pend ph, (∀ o ∈ pend, 3 ≤ pa_rank o) ∧ pa_Sem ld fc jn tw true m cs (rs ++ pa_z pend) ∧ (ph = 1 ∨ ph = 2) ∧ pa_Re b n (p, false, (kd, 0, true, pr, ops) :: fs, out) (p', true, (kd, ph, false, pr, pend ++ ops) :: fs, out ++ rs) ∧ (ph = 1 → (pa_isA (pa_tk b n p') || pa_isM (pa_tk b n p')) = false) ∧ p < p') := by
  have hlen : fs.length = 8 ↔ lev = 0 := by omega
  have hS : ∀ r, pa_stP b n p (kd, 0, true, pr, ops) fs out = r → pa_st b n (p, false, (kd, 0, true, pr, ops) :: fs, out) = r := fun r h => h
  have hkt : (pa_isT kd && true) = true := by rw [hk]; rfl
  unfold pa_fact1
  by_cases h34 : pa_tk b n p = 34
  · rw [if_pos h34]
    unfold pa_stP at hS
    simp only [if_neg (show ¬ ((pa_isT kd && true) = true ∧ pa_tk b n p = 9) from fun h => h9 h.2), if_pos (show (pa_isT kd && true) = true ∧ pa_tk b n p = 34 from ⟨hkt, h34⟩)] at hS
    by_cases hz : lev = 0
    · simp only [if_pos hz, if_pos (hlen.mpr hz)] at hS ⊢
      exact ⟨fun e he => pa_En.bad (hS _ (pa_flr he)), fun p' cs he => by cases he⟩
    · simp only [if_neg hz, if_neg (fun h => hz (hlen.mp h))] at hS ⊢
      obtain ⟨mi, hmi, hI⟩ := hm2 (by omega)
      have hG : ∀ p2 pend rs ph, (∀ o ∈ pend, 1 ≤ pa_rank o) → (ph = 1 ∨ ph = 2) → (ph = 1 → (pa_isA (pa_tk b n p2) || pa_isM (pa_tk b n p2)) = false) → (pa_tk b n p2 ≠ 8 ∧ pa_tk b n p2 ≠ 7) → ∀ r, (if pa_tk b n p2 = 35 then pa_nr b n p2 (fun p' => .inr (true, p', true, (kd, 2, false, pr, ops) :: fs, out ++ rs ++ pa_z pend)) else pa_fr b n 1 p2) = r → pa_st b n (p2, true, (5, ph, false, 0, pend ++ []) :: (kd, 0, false, pr, ops) :: fs, out ++ rs) = r := by
        intro p2 pend rs ph hp2 hph hx hx7 r hr
        rw [← hr]
        show pa_stG b n p2 (5, ph, false, 0, pend ++ []) ((kd, 0, false, pr, ops) :: fs) (out ++ rs) = _
        unfold pa_stG
        simp only [List.append_nil]
        have n1 : ¬ (ph < 2 ∧ (pa_isA (pa_tk b n p2) || pa_isM (pa_tk b n p2)) = true) := by
          rintro ⟨a, c⟩
          rw [hx (by omega)] at c
          cases c
        rw [if_neg n1, if_neg (by rintro ⟨_, a, _⟩; omega), if_neg (by rintro ⟨_, a | a⟩; exact hx7.1 a; exact hx7.2 a), if_neg (by rintro ⟨_, a⟩; omega), if_neg (by omega), if_neg (by omega)]
        have e1 := (pa_top_nil (l := 1) (pend := pend) hp2).1
        rw [e1]
        simp only [show Nat.beq 5 5 = true from rfl, show Nat.beq 5 4 = false from rfl, cond_false, cond_true, List.append_nil]
        rfl
      constructor
      · intro e he
        rcases pa_bnd_l he with h | ⟨p1, c1, h, h2⟩
        · exact pa_En.bad (hS _ (pa_nr_l h))
        · have R1 := pa_Re.one (hS _ (pa_nr_r h))
          obtain ⟨I1, I2⟩ := hI p1 5 0 [] ((kd, 0, false, pr, ops) :: fs) out (by simp [hl]) rfl (fun o h => by cases h)
          rcases pa_bnd_l h2 with h3 | ⟨p2, c2, h3, h4⟩
          · exact R1.en (I1 _ h3)
          · obtain ⟨rs, pend, ph, q1, q2, q3, q4, q5, q6, q7⟩ := I2 _ _ h3
            refine R1.en (q4.en (pa_En.bad (hG _ _ rs ph q1 q3 q5 q6 _ ?_)))
            rcases pa_ex_l h4 with ⟨a1, a2⟩ | ⟨a1, a2⟩
            · rw [if_pos (Nat.eq_of_beq_eq_true a1), pa_nr_l a2]
            · rw [if_neg (fun q => by rw [q] at a1; cases a1), a2]; rfl
      · intro p' cs he
        obtain ⟨p1, c1, c2, h, h2, rfl⟩ := pa_bnd_r he
        have R1 := pa_Re.one (hS _ (pa_nr_r h))
        obtain ⟨I1, I2⟩ := hI p1 5 0 [] ((kd, 0, false, pr, ops) :: fs) out (by simp [hl]) rfl (fun o h => by cases h)
        obtain ⟨p2, c3, c4, h3, h4, rfl⟩ := pa_bnd_r h2
        obtain ⟨hp, rfl⟩ := pa_nx_r h
        obtain ⟨rs, pend, ph, q1, q2, q3, q4, q5, q6, q7⟩ := I2 _ _ h3
        obtain ⟨a1, a2⟩ := pa_ex_r h4
        have a3 := Nat.eq_of_beq_eq_true a1
        have R2 := pa_Re.one (hG _ _ rs ph q1 q3 q5 q6 _ ((if_pos a3).trans (pa_nr_r a2)))
        obtain ⟨hp4, rfl⟩ := pa_nx_r a2
        refine ⟨rs ++ pa_z pend, [], 2, fun o ho => (by cases ho), ?_, Or.inr rfl, R1.tr (q4.tr ?_), fun h => absurd h (by omega), ?_⟩
        · simp only [List.nil_append, List.append_nil, show pa_z [] = [] from rfl]
          exact q2.mono hmi
        · rw [List.append_assoc] at R2
          exact R2
        · have b1 := (pa_ed_gt (b := b) (n := n) (p := p) (by omega)).1
          have b2 := (pa_ed_gt (b := b) (n := n) (p := p2) (by omega)).1
          omega
  · rw [if_neg h34]
    by_cases h10 : pa_tk b n p = 10
    · rw [if_pos h10]
      unfold pa_stP at hS
      simp only [if_neg (show ¬ ((pa_isT kd && true) = true ∧ pa_tk b n p = 9) from fun h => h9 h.2), if_neg (show ¬ ((pa_isT kd && true) = true ∧ pa_tk b n p = 34) from fun h => h34 h.2), if_pos (show (pa_isT kd && true) = true ∧ pa_tk b n p = 10 from ⟨hkt, h10⟩)] at hS
      constructor
      · intro e he
        rcases pa_bnd_l he with h | ⟨p1, c1, h, h2⟩
        · exact pa_En.bad (hS _ (pa_nr_l h))
        · cases h2
      · intro p' cs he
        obtain ⟨p1, c1, c2, h, h2, rfl⟩ := pa_bnd_r he
        obtain ⟨rfl, rfl⟩ := pa_em_r h2
        have R1 := pa_Re.one (hS _ (pa_nr_r h))
        obtain ⟨hp, rfl⟩ := pa_nx_r h
        refine ⟨[(9, 0)], [], 2, fun o ho => (by cases ho), ?_, Or.inr rfl, R1, fun h => absurd h (by omega), ?_⟩
        · intro st hs
          refine ⟨1, ?_, ?_, by decide, fun _ => Or.inr rfl⟩
          · show (match pa_c1 ld fc jn 10 st with
              | some st' => pa_evC ld fc jn [] st'
              | none => none) = _
            have e : pa_c1 ld fc jn 10 st = some (1 :: st) := by
              unfold pa_c1
              rw [if_pos (by decide), if_neg (by decide), if_neg (by decide), if_pos (by omega)]
              rfl
            rw [e]
            rfl
          · show (match pa_r1 ld fc tw (9, 0) st with
              | some st' => pa_evR ld fc tw [] st'
              | none => none) = _
            have e : pa_r1 ld fc tw (9, 0) st = some (1 :: st) := by
              unfold pa_r1
              rw [if_pos (by decide), if_pos (by decide), if_pos (by omega)]
              rfl
            rw [e]
            rfl
        · have b1 := (pa_ed_gt (b := b) (n := n) (p := p) (by omega)).1
          omega
    · rw [if_neg h10]
      have hsum := pa_sum_sim (b := b) (n := n) (ld := ld) (fc := fc) hag hn lev L hL
      obtain ⟨I1, I2⟩ := hsum p kd 0 true pr ops fs out hl (by omega) (fun _ _ => ⟨h9, h34, h10⟩) (fun o ho => by have := hops o ho; omega)
      have hG : ∀ p2 pend rs, (∀ o ∈ pend, 5 ≤ pa_rank o) → pa_exS b n p2 → ∀ r, (if pa_isC (pa_tk b n p2) = true then pa_nr b n p2 (fun p' => .inr (true, p', false, (kd, 1, false, pr, pa_opc (pa_tk b n p2) :: ops) :: fs, out ++ rs ++ pa_z pend)) else pa_fr b n 1 p2) = r → pa_st b n (p2, true, (kd, 0, false, pr, pend ++ ops) :: fs, out ++ rs) = r := by
        intro p2 pend rs hp2 hx r hr
        rw [← hr]
        show pa_stG b n p2 (kd, 0, false, pr, pend ++ ops) fs (out ++ rs) = _
        unfold pa_stG
        simp only
        rw [if_neg (by rw [hx.1, hx.2.1]; rintro ⟨_, a⟩; cases a)]
        have tops := pa_top_all hp2 (fun o ho => by have := hops o ho; omega)
        rw [tops.1, tops.2]
        by_cases hc : pa_isC (pa_tk b n p2) = true
        · rw [if_pos hc, if_pos ⟨hk, trivial, hc⟩]
        · rw [if_neg hc, if_neg (fun h => hc h.2.2)]
          by_cases h78 : pa_isT kd = true ∧ (pa_tk b n p2 = 8 ∨ pa_tk b n p2 = 7)
          · rw [if_pos h78, if_pos trivial]
          · rw [if_neg h78, if_pos ⟨hk, trivial⟩]
      unfold pa_cmp
      constructor
      · intro e he
        rcases pa_bnd_l he with h | ⟨p1, c1, h, h2⟩
        · exact I1 _ h
        · obtain ⟨rs, pend, q1, q2, q3, q4, q5⟩ := I2 _ _ h
          rcases pa_bnd_l h2 with h3 | ⟨p2, c2, h3, h4⟩
          · refine q3.en (pa_En.bad (hG _ _ rs q1 q4 _ ?_))
            rcases pa_ex_l h3 with ⟨a1, a2⟩ | ⟨a1, a2⟩
            · rw [if_pos a1, pa_nr_l a2]
            · rw [if_neg (by rw [a1]; simp), a2]; rfl
          · obtain ⟨a1, a2⟩ := pa_ex_r h3
            have R2 := pa_Re.one (hG _ _ rs q1 q4 _ ((if_pos a1).trans (pa_nr_r a2)))
            obtain ⟨J1, J2⟩ := hsum p2 kd 1 false pr (pa_opc (pa_tk b n p1) :: ops) fs (out ++ rs ++ pa_z pend) hl (by omega) (fun _ h => by cases h) (fun o ho => by
              rw [← Option.some.inj ho]
              rcases pa_isCc a1 with h | h | h <;> rw [h] <;> decide)
            rcases pa_bnd_l h4 with h5 | ⟨p3, c3, h5, h6⟩
            · exact q3.en (R2.en (J1 _ h5))
            · cases h6
      · intro p' cs he
        obtain ⟨p1, c1, c1', h, h2, rfl⟩ := pa_bnd_r he
        obtain ⟨rs, pend, q1, q2, q3, q4, q5⟩ := I2 _ _ h
        obtain ⟨p2, c2, c2', h3, h4, rfl⟩ := pa_bnd_r h2
        obtain ⟨a1, a2⟩ := pa_ex_r h3
        have R2 := pa_Re.one (hG _ _ rs q1 q4 _ ((if_pos a1).trans (pa_nr_r a2)))
        obtain ⟨hp2, rfl⟩ := pa_nx_r a2
        obtain ⟨J1, J2⟩ := hsum p2 kd 1 false pr (pa_opc (pa_tk b n p1) :: ops) fs (out ++ rs ++ pa_z pend) hl (by omega) (fun _ h => by cases h) (fun o ho => by
          rw [← Option.some.inj ho]
          rcases pa_isCc a1 with h | h | h <;> rw [h] <;> decide)
        obtain ⟨p3, c3, c3', h5, h6, rfl⟩ := pa_bnd_r h4
        obtain ⟨rfl, rfl⟩ := pa_em_r h6
        obtain ⟨rs2, pend2, r1, r2, r3, r4, r5⟩ := J2 _ _ h5
        have hcc := pa_isCc a1
        refine ⟨rs ++ pa_z pend ++ rs2, pend2 ++ [pa_opc (pa_tk b n p1)], 1, ?_, ?_, Or.inl rfl, q3.tr (R2.tr ?_), fun _ => by rw [r4.1, r4.2.1]; rfl, ?_⟩
        · intro o ho
          rcases List.mem_append.mp ho with h | h
          · have := r1 o h; omega
          · rw [List.mem_singleton.mp h]
            rcases hcc with h | h | h <;> rw [h] <;> decide
        · have e := pa_Sem.bin (B := true) (m := m) (t := pa_tk b n p1) q2 r2 (by omega) (by omega) (by omega) (by omega) (by rcases hcc with h | h | h <;> rw [h] <;> rfl) (by rcases hcc with h | h | h <;> rw [h] <;> decide) (by rcases hcc with h | h | h <;> rw [h] <;> decide) (by rcases hcc with h | h | h <;> rw [h] <;> decide) (fun x y hx hy _ _ => ⟨pa_okA (by omega) hx hy, (hag.2.1 _ (by omega) x y hx hy).1, (hag.2.1 _ (by omega) x y hx hy).2, fun _ => hag.2.2.1 _ (by omega) (by omega) x y⟩)
          have e2 : rs ++ pa_z pend ++ rs2 ++ pa_z (pend2 ++ [pa_opc (pa_tk b n p1)]) = rs ++ pa_z pend ++ (rs2 ++ pa_z pend2) ++ [(pa_opc (pa_tk b n p1), 0)] := by simp [pa_z]
          have e3 : c1 ++ ([] ++ (c3 ++ [pa_tk b n p1])) = c1 ++ c3 ++ [pa_tk b n p1] := by simp
          rw [e2, e3]
          exact e
        · have e2 : pend2 ++ [pa_opc (pa_tk b n p1)] ++ ops = pend2 ++ pa_opc (pa_tk b n p1) :: ops := by simp
          rw [e2, ← List.append_assoc, ← List.append_assoc]
          exact r3
        · have b1 := (pa_ed_gt (b := b) (n := n) (p := p1) (by rcases hcc with h | h | h <;> omega)).1
          omega
end PH
section PI
variable {b : Nat → Nat} {n : Nat} {ld fc : Nat → Int64} {jn tw : Nat → Int64 → Int64 → Int64}
theorem pa_rank_26 {k : Nat} : ∀ o ∈ List.replicate k 26, 3 ≤ pa_rank o := by
  intro o ho
  rw [(List.mem_replicate.mp ho).2]
  decide
theorem pa_fact_sim {m L lev : Nat} {inner : Nat → pa_E} (hL : L + lev = 8) (hag : pa_Ag ld fc jn tw) (hn : n ≤ 800) (hm : 3 * lev + 4 ≤ m) (hm2 : 0 < lev → ∃ mi, mi ≤ m ∧ pa_TSim b n ld fc jn tw 1 mi (L + 1) (fun p => pa_tk b n p ≠ 8 ∧ pa_tk b n p ≠ 7) inner) : pa_TSim b n ld fc jn tw 3 m L (fun _ => True) (pa_fact b n lev inner) := by
  intro p kd pr ops fs out hl hk hops
  obtain ⟨N1, N2⟩ := pa_nots_sim (b := b) (pr := pr) (fs := fs) (out := out) hk hn 800 p ops false (by omega)
  unfold pa_fact
  cases hq : pa_nots b n 800 p false with
  | inl e =>
    simp only
    refine ⟨fun e' he => ?_, fun p' cs he => (by cases he)⟩
    rw [← Sum.inl.inj he]
    exact N1 _ hq
  | inr w =>
    obtain ⟨p1, z⟩ := w
    simp only
    obtain ⟨k, k1, k2, k3, k4⟩ := N2 _ _ hq
    have hz : z = Nat.beq (k % 2) 1 := by rw [k2]; cases Nat.beq (k % 2) 1 <;> rfl
    obtain ⟨F1, F2⟩ := pa_fact1_sim (lev := lev) (inner := inner) (out := out) (ld := ld) (fc := fc) hL hag hn hm hm2 p1 kd pr (List.replicate k 26 ++ ops) fs hl hk (fun o ho => by
      cases k with
      | zero => have := hops o ho; omega
      | succ k => rw [List.replicate_succ] at ho; rw [← Option.some.inj ho]; decide) k3
    constructor
    · intro e he
      rcases pa_bnd_l he with h | ⟨p2, c2, h, h2⟩
      · exact k1.en (F1 _ h)
      · cases z <;> cases h2
    · intro p' cs he
      obtain ⟨p2, c2, c3, h, h2, rfl⟩ := pa_bnd_r he
      obtain ⟨rs, pend, ph, q1, q2, q3, q4, q5, q6⟩ := F2 _ _ h
      have hp : p' = p2 ∧ c3 = cond z [9] [] := by
        cases z
        · obtain ⟨rfl, rfl⟩ := Prod.mk.inj (Sum.inr.inj h2)
          exact ⟨rfl, rfl⟩
        · exact pa_em_r h2
      obtain ⟨rfl, rfl⟩ := hp
      refine ⟨rs, pend ++ List.replicate k 26, ph, ?_, ?_, q3, k1.tr ?_, q5, trivial, by omega⟩
      · intro o ho
        rcases List.mem_append.mp ho with h | h
        · exact q1 o h
        · exact pa_rank_26 o h
      · rw [hz, pa_z_app, ← List.append_assoc]
        exact q2.not1 k
      · rw [List.append_assoc]
        exact q4
/-- the loop over AND (2), OR (1) -/
theorem pa_tlp_sim {rho m mq L t0 : Nat} {exq : Nat → Prop} {q : Nat → pa_E} (hq : pa_TSim b n ld fc jn tw (rho + 1) mq L exq q) (hm : mq + 1 ≤ m) (hag : pa_Ag ld fc jn tw) (hn : n ≤ 800) (ht0 : t0 = 8 ∧ rho = 2 ∨ t0 = 7 ∧ rho = 1) (hx8 : t0 = 7 → ∀ p, exq p → pa_tk b n p ≠ 8) :
    ∀ (f p kd ph : Nat) (pr : Nat) (ops : List Nat) (fs : List pa_F) (out : List (Nat × Nat)) (cs0 : List Nat) (rs0 : List (Nat × Nat)) (pend0 : List Nat), n ≤ p + f → fs.length = L → pa_isT kd = true → (ph = 1 ∨ ph = 2) → (∀ o, ops.head? = some o → pa_rank o < rho) → (∀ o ∈ pend0, rho ≤ pa_rank o) → pa_Sem ld fc jn tw true m cs0 (rs0 ++ pa_z pend0) → (ph = 1 → (pa_isA (pa_tk b n p) || pa_isM (pa_tk b n p)) = false) → exq p →
    (∀ e, pa_lp b n (fun t => Nat.beq t t0) q f p = .inl e → pa_En b n (p, true, (kd, ph, false, pr, pend0 ++ ops) :: fs, out ++ rs0) (.inl e)) ∧
    (∀ p' ds, pa_lp b n (fun t => Nat.beq t t0) q f p = .inr (p', ds) → ∃ rs pend ph', (∀ o ∈ pend, rho ≤ pa_rank o) ∧ pa_Sem ld fc jn tw true m (cs0 ++ ds) (rs ++ pa_z pend) ∧ (ph' = 1 ∨ ph' = 2) ∧ pa_Re b n (p, true, (kd, ph, false, pr, pend0 ++ ops) :: fs, out ++ rs0) (p', true, (kd, ph', false, pr, pend ++ ops) :: fs, out ++ rs) ∧ (ph' = 1 → (pa_isA (pa_tk b n p') || pa_isM (pa_tk b n p')) = false) ∧ (pa_tk b n p' ≠ t0 ∧ exq p') ∧ p ≤ p') := by
  intro f
  induction f with
  | zero =>
    intro p kd ph pr ops fs out cs0 rs0 pend0 hf hl hk hph hops hp0 hS hA hx
    refine ⟨fun e he => (by cases he), fun p' ds he => ?_⟩
    obtain ⟨rfl, rfl⟩ := Prod.mk.inj (Sum.inr.inj he)
    refine ⟨rs0, pend0, ph, hp0, by rw [List.append_nil]; exact hS, hph, ⟨0, fun j => rfl⟩, hA, ⟨?_, hx⟩, Nat.le_refl _⟩
    rw [pa_tk_end (by omega)]
    omega
  | succ f ih =>
    intro p kd ph pr ops fs out cs0 rs0 pend0 hf hl hk hph hops hp0 hS hA hx
    have e1 : pa_lp b n (fun t => Nat.beq t t0) q (f + 1) p = cond (Nat.beq (pa_tk b n p) t0) (pa_bnd (pa_nx b n p) (fun p1 => pa_bnd (q p1) (fun p2 => pa_bnd (pa_em (pa_tk b n p) p2) (pa_lp b n (fun t => Nat.beq t t0) q f)))) (.inr (p, [])) := rfl
    rw [e1]
    by_cases hc : pa_tk b n p = t0
    · rw [show Nat.beq (pa_tk b n p) t0 = true from by rw [hc]; exact Nat.beq_refl t0, cond_true]
      have tops := pa_top_all hp0 hops
      have h78 : pa_tk b n p = 8 ∨ pa_tk b n p = 7 := by omega
      have hG : ∀ r, pa_nr b n p (fun p' => .inr (true, p', false, (kd, 0, true, pr, pa_opc (pa_tk b n p) :: ops) :: fs, out ++ rs0 ++ pa_z pend0)) = r → pa_st b n (p, true, (kd, ph, false, pr, pend0 ++ ops) :: fs, out ++ rs0) = r := by
        intro r hr
        rw [← hr]
        show pa_stG b n p (kd, ph, false, pr, pend0 ++ ops) fs (out ++ rs0) = _
        unfold pa_stG
        simp only
        have hnA : (pa_isA (pa_tk b n p) || pa_isM (pa_tk b n p)) = false := by rcases h78 with h | h <;> rw [h] <;> rfl
        have hnC : pa_isC (pa_tk b n p) = false := by rcases h78 with h | h <;> rw [h] <;> rfl
        have hlv : cond (Nat.beq (pa_tk b n p) 8) 2 1 = rho := by
          rcases ht0 with ⟨h, h'⟩ | ⟨h, h'⟩ <;> rw [hc, h, h'] <;> rfl
        rw [if_neg (by rw [hnA]; rintro ⟨_, a⟩; cases a), if_neg (by rw [hnC]; rintro ⟨_, _, a⟩; cases a), if_pos ⟨hk, h78⟩, if_neg (by omega), hlv, tops.1, tops.2]
      have hgt := (pa_ed_gt (b := b) (n := n) (p := p) (by omega)).1
      have hro : pa_rank (pa_opc (pa_tk b n p)) = rho := by rcases ht0 with ⟨h, h'⟩ | ⟨h, h'⟩ <;> rw [hc, h, h'] <;> rfl
      have hb := fun (c2 : List Nat) (w : List (Nat × Nat)) (q2 : pa_Sem ld fc jn tw true mq c2 w) => pa_Sem.bin (B := true) (m := m) (t := pa_tk b n p) hS q2 (Nat.le_refl m) hm (by omega) (by omega) (by rcases h78 with h | h <;> rw [h] <;> rfl) (by rcases h78 with h | h <;> rw [h] <;> decide) (by rcases h78 with h | h <;> rw [h] <;> decide) (by rcases h78 with h | h <;> rw [h] <;> decide) (fun x y _ _ hx1 hy1 => by
        obtain ⟨a1, a2⟩ := hag.2.2.2 _ (by omega : pa_tk b n p = 7 ∨ pa_tk b n p = 8) x y (hx1 rfl) (hy1 rfl)
        exact ⟨pa_okB (by omega) (hx1 rfl) (hy1 rfl), a1, pa_Rb01 a2, fun _ => a2⟩)
      constructor
      · intro e he
        rcases pa_bnd_l he with h | ⟨p1, c1, h, h2⟩
        · exact pa_En.bad (hG _ (pa_nr_l h))
        · have R1 := pa_Re.one (hG _ (pa_nr_r h))
          obtain ⟨hp1, rfl⟩ := pa_nx_r h
          obtain ⟨Q1, Q2⟩ := hq p1 kd pr (pa_opc (pa_tk b n p) :: ops) fs (out ++ rs0 ++ pa_z pend0) hl hk (fun o ho => by rw [← Option.some.inj ho]; omega)
          rcases pa_bnd_l h2 with h3 | ⟨p2, c2, h3, h4⟩
          · exact R1.en (Q1 _ h3)
          · obtain ⟨rs, pend, ph2, q1, q2, q3, q4, q5, q6, q7⟩ := Q2 _ _ h3
            rcases pa_bnd_l h4 with h5 | ⟨p3, c3, h5, h6⟩
            · cases h5
            · obtain ⟨rfl, rfl⟩ := pa_em_r h5
              obtain ⟨I1, _⟩ := ih p3 kd ph2 pr ops fs out (cs0 ++ c2 ++ [pa_tk b n p]) (rs0 ++ pa_z pend0 ++ rs) (pend ++ [pa_opc (pa_tk b n p)]) (by omega) hl hk q3 hops (fun o ho => by
                rcases List.mem_append.mp ho with h | h
                · have := q1 o h; omega
                · rw [List.mem_singleton.mp h]; omega) (by
                have e : rs0 ++ pa_z pend0 ++ (rs ++ pa_z pend) ++ [(pa_opc (pa_tk b n p), 0)] = rs0 ++ pa_z pend0 ++ rs ++ pa_z (pend ++ [pa_opc (pa_tk b n p)]) := by simp [pa_z]
                rw [← e]; exact hb _ _ q2) q5 q6
              have J := I1 _ h6
              have e2 : (pend ++ [pa_opc (pa_tk b n p)]) ++ ops = pend ++ pa_opc (pa_tk b n p) :: ops := by simp
              rw [e2, ← List.append_assoc, ← List.append_assoc] at J
              exact R1.en (q4.en J)
      · intro p' ds he
        obtain ⟨p1, c1, c1', h, h2, rfl⟩ := pa_bnd_r he
        have R1 := pa_Re.one (hG _ (pa_nr_r h))
        obtain ⟨hp1, rfl⟩ := pa_nx_r h
        obtain ⟨Q1, Q2⟩ := hq p1 kd pr (pa_opc (pa_tk b n p) :: ops) fs (out ++ rs0 ++ pa_z pend0) hl hk (fun o ho => by rw [← Option.some.inj ho]; omega)
        obtain ⟨p2, c2, c2', h3, h4, rfl⟩ := pa_bnd_r h2
        obtain ⟨rs, pend, ph2, q1, q2, q3, q4, q5, q6, q7⟩ := Q2 _ _ h3
        obtain ⟨p3, c3, c3', h5, h6, rfl⟩ := pa_bnd_r h4
        obtain ⟨rfl, rfl⟩ := pa_em_r h5
        obtain ⟨_, I2⟩ := ih p3 kd ph2 pr ops fs out (cs0 ++ c2 ++ [pa_tk b n p]) (rs0 ++ pa_z pend0 ++ rs) (pend ++ [pa_opc (pa_tk b n p)]) (by omega) hl hk q3 hops (fun o ho => by
          rcases List.mem_append.mp ho with h | h
          · have := q1 o h; omega
          · rw [List.mem_singleton.mp h]; omega) (by
          have e : rs0 ++ pa_z pend0 ++ (rs ++ pa_z pend) ++ [(pa_opc (pa_tk b n p), 0)] = rs0 ++ pa_z pend0 ++ rs ++ pa_z (pend ++ [pa_opc (pa_tk b n p)]) := by simp [pa_z]
          rw [← e]; exact hb _ _ q2) q5 q6
        obtain ⟨rs9, pend9, ph9, j1, j2, j3, j4, j5, j6, j7⟩ := I2 _ _ h6
        have e2 : (pend ++ [pa_opc (pa_tk b n p)]) ++ ops = pend ++ pa_opc (pa_tk b n p) :: ops := by simp
        rw [e2, ← List.append_assoc, ← List.append_assoc] at j4
        refine ⟨rs9, pend9, ph9, j1, ?_, j3, R1.tr (q4.tr j4), j5, j6, by omega⟩
        have e3 : cs0 ++ ([] ++ (c2 ++ ([pa_tk b n p] ++ c3'))) = cs0 ++ c2 ++ [pa_tk b n p] ++ c3' := by simp
        rw [e3]
        exact j2
    · rw [pa_bfalse hc, cond_false]
      refine ⟨fun e he => (by cases he), fun p' ds he => ?_⟩
      obtain ⟨rfl, rfl⟩ := Prod.mk.inj (Sum.inr.inj he)
      exact ⟨rs0, pend0, ph, hp0, by rw [List.append_nil]; exact hS, hph, ⟨0, fun j => rfl⟩, hA, ⟨hc, hx⟩, Nat.le_refl _⟩
theorem pa_trow_sim {rho m mq L t0 : Nat} {exq : Nat → Prop} {q : Nat → pa_E} (hq : pa_TSim b n ld fc jn tw (rho + 1) mq L exq q) (hm : mq + 1 ≤ m) (hag : pa_Ag ld fc jn tw) (hn : n ≤ 800) (ht0 : t0 = 8 ∧ rho = 2 ∨ t0 = 7 ∧ rho = 1) (hx8 : t0 = 7 → ∀ p, exq p → pa_tk b n p ≠ 8) : pa_TSim b n ld fc jn tw rho m L (fun p => pa_tk b n p ≠ t0 ∧ exq p) (fun p => pa_bnd (q p) (pa_lp b n (fun t => Nat.beq t t0) q 800)) := by
  intro p kd pr ops fs out hl hk hops
  obtain ⟨Q1, Q2⟩ := hq p kd pr ops fs out hl hk (fun o ho => by have := hops o ho; omega)
  constructor
  · intro e he
    rcases pa_bnd_l he with h | ⟨p1, c1, h, h2⟩
    · exact Q1 _ h
    · obtain ⟨rs, pend, ph, q1, q2, q3, q4, q5, q6, q7⟩ := Q2 _ _ h
      exact q4.en ((pa_tlp_sim hq hm hag hn ht0 hx8 800 p1 kd ph pr ops fs out c1 rs pend (by omega) hl hk q3 hops (fun o ho => by have := q1 o ho; omega) (q2.mono (by omega)) q5 q6).1 _ h2)
  · intro p' cs he
    obtain ⟨p1, c1, c2, h, h2, rfl⟩ := pa_bnd_r he
    obtain ⟨rs, pend, ph, q1, q2, q3, q4, q5, q6, q7⟩ := Q2 _ _ h
    obtain ⟨rs9, pend9, ph9, j1, j2, j3, j4, j5, j6, j7⟩ := (pa_tlp_sim hq hm hag hn ht0 hx8 800 p1 kd ph pr ops fs out c1 rs pend (by omega) hl hk q3 hops (fun o ho => by have := q1 o ho; omega) (q2.mono (by omega)) q5 q6).2 _ _ h2
    exact ⟨rs9, pend9, ph9, j1, j2, j3, q4.tr j4, j5, j6, by omega⟩
theorem pa_testO_sim {m L lev : Nat} {inner : Nat → pa_E} (hL : L + lev = 8) (hag : pa_Ag ld fc jn tw) (hn : n ≤ 800) (hm : 3 * lev + 4 ≤ m) (hm2 : 0 < lev → ∃ mi, mi ≤ m ∧ pa_TSim b n ld fc jn tw 1 mi (L + 1) (fun p => pa_tk b n p ≠ 8 ∧ pa_tk b n p ≠ 7) inner) : pa_TSim b n ld fc jn tw 1 (m + 2) L (fun p => pa_tk b n p ≠ 8 ∧ pa_tk b n p ≠ 7) (pa_testO b n lev inner) := by
  have h1 := pa_fact_sim (b := b) (n := n) (ld := ld) (fc := fc) hL hag hn hm hm2
  have h2 := pa_trow_sim (t0 := 8) (rho := 2) h1 (show m + 1 ≤ m + 1 from Nat.le_refl _) hag hn (Or.inl ⟨rfl, rfl⟩) (fun h => by cases h)
  have h3 := pa_trow_sim (t0 := 7) (rho := 1) h2 (show m + 1 + 1 ≤ m + 2 from Nat.le_refl _) hag hn (Or.inr ⟨rfl, rfl⟩) (fun _ p hp => hp.1)
  intro p kd pr ops fs out hl hk hops
  obtain ⟨A, B⟩ := h3 p kd pr ops fs out hl hk hops
  refine ⟨A, fun p' cs he => ?_⟩
  obtain ⟨rs9, pend9, ph9, j1, j2, j3, j4, j5, j6, j7⟩ := B p' cs he
  exact ⟨rs9, pend9, ph9, j1, j2, j3, j4, j5, ⟨j6.2.1, j6.1⟩, j7⟩
theorem pa_test_sim (hag : pa_Ag ld fc jn tw) (hn : n ≤ 800) : ∀ lev L : Nat, L + lev = 8 → pa_TSim b n ld fc jn tw 1 (3 * lev + 6) L (fun p => pa_tk b n p ≠ 8 ∧ pa_tk b n p ≠ 7) (pa_test b n lev) := by
  intro lev
  induction lev with
  | zero =>
    intro L hL
    exact pa_testO_sim (m := 4) hL hag hn (by omega) (fun h => absurd h (by omega))
  | succ l ih =>
    intro L hL
    have := pa_testO_sim (b := b) (ld := ld) (fc := fc) (m := 3 * l + 7) (inner := pa_test b n l) hL hag hn (by omega) (fun _ => ⟨3 * l + 6, by omega, ih (L + 1) (by omega)⟩)
    have e : 3 * (l + 1) + 6 = 3 * l + 7 + 2 := by omega
    rw [e]
    exact this
/-- a whole piece behind the head of a statement: the reference's frames come to the same end -/
theorem pa_whole_sim (hag : pa_Ag ld fc jn tw) (hn : n ≤ 800) (t : Bool) (p : Nat) :
    (∀ e, (cond t (pa_test b n 8 p) (pa_sum b n 8 p) : pa_E) = .inl e → pa_En b n (p, false, [(cond t 1 0, 0, true, 0, [])], []) (.inl e)) ∧
    (∀ p' cs, (cond t (pa_test b n 8 p) (pa_sum b n 8 p) : pa_E) = .inr (p', cs) → ∃ rs f, pa_Sem ld fc jn tw t 30 cs rs ∧ pa_En b n (p, false, [(cond t 1 0, 0, true, 0, [])], []) (.inr (false, p', true, [f], rs)) ∧ p < p') := by
  cases t with
  | true =>
    obtain ⟨A, B⟩ := pa_test_sim (b := b) (ld := ld) (fc := fc) hag hn 8 0 rfl p 1 0 [] [] [] rfl rfl (fun o h => by cases h)
    refine ⟨A, fun p' cs he => ?_⟩
    obtain ⟨rs, pend, ph, j1, j2, j3, j4, j5, j6, j7⟩ := B p' cs he
    refine ⟨rs ++ pa_z pend, (1, ph, false, 0, []), j2.mono (by omega), j4.en (pa_En.don ?_), j7⟩
    show pa_stG b n p' (1, ph, false, 0, pend ++ []) [] ([] ++ rs) = _
    unfold pa_stG
    simp only [List.append_nil, List.nil_append]
    have n1 : ¬ (ph < 2 ∧ (pa_isA (pa_tk b n p') || pa_isM (pa_tk b n p')) = true) := by
      rintro ⟨a, c⟩
      rw [j5 (by omega)] at c
      cases c
    have e1 := pa_top_nil (l := 1) (pend := pend) j1
    rw [if_neg n1, if_neg (by rintro ⟨_, a, _⟩; omega), if_neg (by rintro ⟨_, a | a⟩; exact j6.1 a; exact j6.2 a), if_neg (by rintro ⟨_, a⟩; omega), if_pos (by omega), e1.1, e1.2]
  | false =>
    obtain ⟨A, B⟩ := pa_sum_sim (b := b) (ld := ld) (fc := fc) hag hn 8 0 rfl p 0 0 true 0 [] [] [] rfl (by omega) (fun h => by cases h) (fun o h => by cases h)
    refine ⟨A, fun p' cs he => ?_⟩
    obtain ⟨rs, pend, j1, j2, j3, j4, j5⟩ := B p' cs he
    refine ⟨rs ++ pa_z pend, (0, 0, false, 0, []), j2.mono (by omega), j3.en (pa_En.don ?_), j5⟩
    show pa_stG b n p' (0, 0, false, 0, pend ++ []) [] ([] ++ rs) = _
    unfold pa_stG
    simp only [List.append_nil, List.nil_append]
    have e1 := pa_top_nil (l := 1) (pend := pend) (fun o ho => by have := j1 o ho; omega)
    rw [if_neg (by rw [j4.1, j4.2.1]; rintro ⟨_, a⟩; cases a), if_neg (by rintro ⟨a, _⟩; cases a), if_neg (by rintro ⟨a, _⟩; cases a), if_neg (by rintro ⟨a, _⟩; cases a), if_pos (by omega), e1.1, e1.2]
end PI
