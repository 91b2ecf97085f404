/-! RECKONING IN THE ABSTRACT MACHINE -/
theorem am_cgen_le {run run' : Nat → am_L → am_H → Option (Option Value × am_H)} {ck mi na ml ci : Nat} {st : List Value} {h : am_H} {x : List Value × am_H} (hr : ∀ mi ls h r, run mi ls h = some r → run' mi ls h = some r) (hc : am_cgen run ck mi na ml ci st h = some x) : am_cgen run' ck mi na ml ci st h = some x := by
  have key : ∀ (ls : am_L) (f : Option Value × am_H → List Value × am_H), (match run mi ls h with
      | some (v, h') => some (f (v, h'))
      | none => none) = some x → (match run' mi ls h with
      | some (v, h') => some (f (v, h'))
      | none => none) = some x := by
    intro ls f q
    cases hq : run mi ls h with
    | none => rw [hq] at q; cases q
    | some z =>
      rw [hq] at q
      rw [hr _ _ _ _ hq]
      exact q
  unfold am_cgen at hc ⊢
  by_cases hl : st.length < na
  · rw [if_pos hl] at hc; cases hc
  · rw [if_neg hl] at hc ⊢
    by_cases h5 : ck = 5 ∨ ck = 6
    · rw [if_pos h5] at hc ⊢
      by_cases h8 : am_cat (st.drop na) ≤ 8 ∧ (am_ent1 (st.take na).reverse).length ≤ ml
      · rw [if_pos h8] at hc ⊢
        exact key _ (fun z => (z.1.toList ++ st.drop na, z.2)) hc
      · rw [if_neg h8] at hc; cases hc
    · rw [if_neg h5] at hc ⊢
      generalize st.drop na = w at hc ⊢
      cases w with
      | nil => cases hc
      | cons b r =>
        cases b <;> first | cases hc; done | skip
        rename_i b
        by_cases h8 : am_cat r ≤ 8 ∧ (am_ent1 (.ref b :: (st.take na).reverse)).length ≤ ml ∧ (ck = 0 ∨ ck = 1 ∨ (h.2.2.1 b).1 = ci)
        · simp only [if_pos h8] at hc ⊢
          exact key _ (fun z => (z.1.toList ++ r, z.2)) hc
        · simp only [if_neg h8] at hc
          cases hc
theorem am_call_le {run run' : Nat → am_L → am_H → Option (Option Value × am_H)} {ops : List Nat} {st : List Value} {h : am_H} {x : List Value × am_H} (hr : ∀ mi ls h r, run mi ls h = some r → run' mi ls h = some r) (hc : am_call run ops st h = some x) : am_call run' ops st h = some x := by
  unfold am_call at hc ⊢
  split at hc
  · exact hc
  · exact hc
  · exact hc
  · exact hc
  · exact am_cgen_le hr hc
  · cases hc
theorem am_call_gen {run : Nat → am_L → am_H → Option (Option Value × am_H)} {ck mi na ml ci : Nat} {tl : List Nat} {st : List Value} {h : am_H} (hck : ck = 0 ∨ ck = 1 ∨ ck = 3 ∨ ck = 4 ∨ ck = 5 ∨ ck = 6) : am_call run (ck :: mi :: na :: ml :: ci :: tl) st h = am_cgen run ck mi na ml ci st h := by
  rcases hck with rfl | rfl | rfl | rfl | rfl | rfl <;> rfl
theorem am_run_le : ∀ (f g d mi pc : Nat) (ls : am_L) (st : List Value) (h : am_H) (r : Option Value × am_H), f ≤ g → am_run f d mi pc ls st h = some r → am_run g d mi pc ls st h = some r := by
  intro f
  induction f with
  | zero => intro g d mi pc ls st h r _ hr; cases hr
  | succ f ih =>
    intro g d mi pc ls st h r hfg hr
    cases g with
    | zero => exact absurd hfg (by omega)
    | succ g =>
      have hfg' : f ≤ g := Nat.le_of_succ_le_succ hfg
      unfold am_run at hr ⊢
      split at hr
      · cases hr
      · split at hr
        · split at hr
          · exact ih _ _ _ _ _ _ _ _ hfg' hr
          · cases hr
        · exact hr
        · split at hr
          · cases hr
          · split at hr
            · rename_i h9
              rw [am_call_le (fun mi ls h r q => ih _ _ _ _ _ _ _ _ hfg' q) h9]
              exact ih _ _ _ _ _ _ _ _ hfg' hr
            · cases hr
section EV
variable {d mi pc pc' : Nat} {ls ls' : am_L} {st st' : List Value} {h h' h1 : am_H} {r : Option Value × am_H} {i : Instr} {len : Nat} {ops : List Nat} {v : Value} {rv : Option Value}
theorem ev_1 (hP : am_P mi pc = some (i, len, ops, v)) (hk : am_kind i = 0) (hs : am_1 i ops v pc ls st h = some (pc', ls', st', h')) (k : am_Ev d mi pc' ls' st' h' r) : am_Ev d mi pc ls st h r := by
  obtain ⟨f, hf⟩ := k
  refine ⟨f + 1, ?_⟩
  unfold am_run
  simp only [hP, hk, hs]
  exact hf
/-- some instructions that neither call nor return -/
def am_blk : Nat → Nat → am_R → Option am_R
  | 0, _, s => some s
  | n + 1, mi, s => match am_P mi s.1 with
    | some (i, _, ops, v) => cond (Nat.beq (am_kind i) 0) (match am_1 i ops v s.1 s.2.1 s.2.2.1 s.2.2.2 with
      | some s' => am_blk n mi s'
      | none => none) none
    | none => none
theorem ev_b (n : Nat) (hb : am_blk n mi (pc, ls, st, h) = some (pc', ls', st', h')) (k : am_Ev d mi pc' ls' st' h' r) : am_Ev d mi pc ls st h r := by
  induction n generalizing pc ls st h with
  | zero =>
    cases hb
    exact k
  | succ n ih =>
    unfold am_blk at hb
    split at hb
    · rename_i i len ops v hP
      cases hk : Nat.beq (am_kind i) 0 with
      | false => rw [hk] at hb; cases hb
      | true =>
        rw [hk] at hb
        have hk2 : am_kind i = 0 := Nat.eq_of_beq_eq_true hk
        simp only [cond_true] at hb
        split at hb
        · rename_i s' hs
          obtain ⟨a, b, c, e⟩ := s'
          exact ev_1 hP hk2 hs (ih hb)
        · cases hb
    · cases hb
theorem ev_r (hP : am_P mi pc = some (i, len, ops, v)) (hk : am_kind i = 1) (hr : am_rts i ops st = some rv) : am_Ev d mi pc ls st h (rv, h) := by
  refine ⟨1, ?_⟩
  unfold am_run
  simp only [hP, hk, hr]
theorem ev_ri {x y : Int32} {ls : am_L} (hP : am_P mi pc = some (.ireturn, 1, [0], v)) (e : x = y) (eh : h = h1) : am_Ev d mi pc ls [.int x] h (some (.int y), h1) := by
  subst e; subst eh
  exact ev_r hP rfl rfl
theorem ev_rz {x y : Int32} {ls : am_L} (hP : am_P mi pc = some (.ireturn, 1, [1], v)) (h01 : x = 0 ∨ x = 1) (e : x = y) (eh : h = h1) : am_Ev d mi pc ls [.int x] h (some (.int y), h1) := by
  subst e; subst eh
  exact ev_r hP rfl (if_pos h01)
theorem ev_rl {x y : Int64} {ls : am_L} (hP : am_P mi pc = some (.lreturn, 1, [], v)) (e : x = y) (eh : h = h1) : am_Ev d mi pc ls [.long x] h (some (.long y), h1) := by
  subst e; subst eh
  exact ev_r hP rfl rfl
theorem ev_rv {ls : am_L} (hP : am_P mi pc = some (.return_, 1, [], v)) (eh : h = h1) : am_Ev d mi pc ls [] h (none, h1) := by
  subst eh
  exact ev_r hP rfl rfl
theorem ev_ra {x : Nat} {y : Value} {ls : am_L} (hP : am_P mi pc = some (.areturn, 1, [], v)) (e : Value.ref x = y) (eh : h = h1) : am_Ev d mi pc ls [.ref x] h (some y, h1) := by
  subst e; subst eh
  exact ev_r hP rfl rfl
theorem ev_rn {y : Value} {ls : am_L} (hP : am_P mi pc = some (.areturn, 1, [], v)) (e : Value.null = y) (eh : h = h1) : am_Ev d mi pc ls [.null] h (some y, h1) := by
  subst e; subst eh
  exact ev_r hP rfl rfl
/-- a branch -/
theorem ev_if {c : Prop} [Decidable c] {a b : Nat} (k1 : c → am_Ev d mi a ls st h r) (k2 : ¬ c → am_Ev d mi b ls st h r) : am_Ev d mi (if c then a else b) ls st h r := by
  by_cases q : c
  · rw [if_pos q]; exact k1 q
  · rw [if_neg q]; exact k2 q
theorem ev_t {c : Prop} [Decidable c] {a b : Nat} (q : c) (k : am_Ev d mi a ls st h r) : am_Ev d mi (if c then a else b) ls st h r := by
  rw [if_pos q]; exact k
theorem ev_f {c : Prop} [Decidable c] {a b : Nat} (q : ¬ c) (k : am_Ev d mi b ls st h r) : am_Ev d mi (if c then a else b) ls st h r := by
  rw [if_neg q]; exact k
/-- a call of a static method -/
theorem ev_cs {ck mi' na ml ci : Nat} {tl : List Nat} (as rest : List Value) (hP : am_P mi pc = some (i, len, ck :: mi' :: na :: ml :: ci :: tl, v)) (hk : am_kind i = 2) (hck : ck = 5 ∨ ck = 6) (hn : as.length = na) (hcat : am_cat rest ≤ 8) (hen : (am_ent1 as).length ≤ ml)
    (hc : am_Ev d mi' 0 (am_ent ml as) [] h (rv, h1)) (k : am_Ev (d + 1) mi (pc + 3) ls (rv.toList ++ rest) h1 r) : am_Ev (d + 1) mi pc ls (as.reverse ++ rest) h r := by
  obtain ⟨f1, hf1⟩ := hc
  obtain ⟨f2, hf2⟩ := k
  refine ⟨max f1 f2 + 1, ?_⟩
  have g1 := am_run_le _ _ _ _ _ _ _ _ _ (Nat.le_max_left f1 f2) hf1
  have g2 := am_run_le _ _ _ _ _ _ _ _ _ (Nat.le_max_right f1 f2) hf2
  have e1 : (as.reverse ++ rest).take na = as.reverse := by
    rw [← hn, ← List.length_reverse (as := as), List.take_left]
  have e2 : (as.reverse ++ rest).drop na = rest := by
    rw [← hn, ← List.length_reverse (as := as), List.drop_left]
  have e3 : am_call (fun mi' ls' h' => am_run (max f1 f2) d mi' 0 ls' [] h') (ck :: mi' :: na :: ml :: ci :: tl) (as.reverse ++ rest) h = some (rv.toList ++ rest, h1) := by
    have hnl : ¬ (as.reverse ++ rest).length < na := by rw [List.length_append, List.length_reverse, hn]; omega
    rw [am_call_gen (by omega)]
    unfold am_cgen
    rw [if_neg hnl, if_pos hck, e1, e2, List.reverse_reverse, if_pos ⟨hcat, hen⟩]
    simp only [g1]
  unfold am_run
  simp only [hP, hk, e3]
  exact g2
/-- a call on an object -/
theorem ev_cv {ck mi' na ml ci b : Nat} {tl : List Nat} (as rest : List Value) (hP : am_P mi pc = some (i, len, ck :: mi' :: na :: ml :: ci :: tl, v)) (hk : am_kind i = 2) (hck : ck = 0 ∨ ck = 1 ∨ ck = 3 ∨ ck = 4) (hn : as.length = na) (hcat : am_cat rest ≤ 8) (hen : (am_ent1 (.ref b :: as)).length ≤ ml) (hci : ck = 0 ∨ ck = 1 ∨ (h.2.2.1 b).1 = ci)
    (hc : am_Ev d mi' 0 (am_ent ml (.ref b :: as)) [] h (rv, h1)) (k : am_Ev (d + 1) mi (pc + 3) ls (rv.toList ++ rest) h1 r) : am_Ev (d + 1) mi pc ls (as.reverse ++ .ref b :: rest) h r := by
  obtain ⟨f1, hf1⟩ := hc
  obtain ⟨f2, hf2⟩ := k
  refine ⟨max f1 f2 + 1, ?_⟩
  have g1 := am_run_le _ _ _ _ _ _ _ _ _ (Nat.le_max_left f1 f2) hf1
  have g2 := am_run_le _ _ _ _ _ _ _ _ _ (Nat.le_max_right f1 f2) hf2
  have e1 : (as.reverse ++ .ref b :: rest).take na = as.reverse := by
    rw [← hn, ← List.length_reverse (as := as), List.take_left]
  have e2 : (as.reverse ++ .ref b :: rest).drop na = .ref b :: rest := by
    rw [← hn, ← List.length_reverse (as := as), List.drop_left]
  have hnl : ¬ (as.reverse ++ .ref b :: rest).length < na := by rw [List.length_append, List.length_reverse, hn]; omega
  have e3 : am_call (fun mi' ls' h' => am_run (max f1 f2) d mi' 0 ls' [] h') (ck :: mi' :: na :: ml :: ci :: tl) (as.reverse ++ .ref b :: rest) h = some (rv.toList ++ rest, h1) := by
    rw [am_call_gen (by omega)]
    unfold am_cgen
    rw [if_neg hnl, if_neg (by omega), e2, e1, List.reverse_reverse]
    simp only [if_pos (show am_cat rest ≤ 8 ∧ (am_ent1 (.ref b :: as)).length ≤ ml ∧ (ck = 0 ∨ ck = 1 ∨ (h.2.2.1 b).1 = ci) from ⟨hcat, hen, hci⟩), g1]
  unfold am_run
  simp only [hP, hk, e3]
  exact g2
end EV
