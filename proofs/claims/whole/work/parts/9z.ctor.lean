/-! THE CONSTRUCTORS -/
/-- the first m cells stand -/
def cK (m : Nat) (kk : Nat → Nat × Nat) (j : Nat) : Nat × Nat := cond (Nat.ble m (am_rn j)) (kk j) (wK j)
def cI (m : Nat) (J X : Nat → Nat → Int32) (j : Nat) : Nat → Int32 := cond (Nat.ble m (am_rn j)) (X j) (J j)
def cZ (_ _ : Nat) : Int64 := 0
def cQ (l : List (Nat × Nat × Nat)) (j i : Nat) : Option Nat := (l.find? (fun t => Nat.beq t.1 j && Nat.beq t.2.1 i)).map (fun t => t.2.2)
theorem cble {m j : Nat} (h : m ≤ j) : Nat.ble m j = true := Nat.ble_eq_true_of_le h
theorem cnle {m j : Nat} (h : j < m) : Nat.ble m j = false := Bool.eq_false_iff.mpr (fun z => absurd (Nat.le_of_ble_eq_true z) (by omega))
theorem crn {m j : Nat} (e : ¬ j = am_nr m) : am_rn j ≠ m := fun q => e (am_rn_inj (by rw [am_rn_nr]; exact q))
theorem cK_al {m b : Nat} {kk : Nat → Nat × Nat} {w : Nat × Nat} (hb : am_nr m = b) (h : wK b = w) : va_up (cK m kk) b w = cK (m + 1) kk := by
  subst hb
  funext j
  by_cases e : j = am_nr m
  · subst e
    rw [va_e1]
    unfold cK
    rw [am_rn_nr, cnle (by omega), ← h]
    rfl
  · rw [va_n1 e]
    have e2 := crn e
    unfold cK
    by_cases g : m + 1 ≤ am_rn j
    · rw [cble g, cble (by omega)]
    · rw [cnle (by omega), cnle (by omega)]
theorem cI_al {m b : Nat} {J X : Nat → Nat → Int32} (hb : am_nr m = b) (h : J b = fun _ => 0) : va_up (cI m J X) b (fun _ => 0) = cI (m + 1) J X := by
  subst hb
  funext j
  by_cases e : j = am_nr m
  · subst e
    rw [va_e1]
    unfold cI
    rw [am_rn_nr, cnle (by omega), ← h]
    rfl
  · rw [va_n1 e]
    have e2 := crn e
    unfold cI
    by_cases g : m + 1 ≤ am_rn j
    · rw [cble g, cble (by omega)]
    · rw [cnle (by omega), cnle (by omega)]
theorem cZ_al {m : Nat} : va_up cZ m (fun _ => 0) = cZ := by
  funext j i
  by_cases e : j = m
  · subst e; rw [va_e1]; rfl
  · rw [va_n1 e]
theorem cQ_o {l : List (Nat × Nat × Nat)} {m : Nat} (h : l.all (fun t => !Nat.beq t.1 m) = true) (i : Nat) : cQ l m i = none := by
  unfold cQ
  have : l.find? (fun t => Nat.beq t.1 m && Nat.beq t.2.1 i) = none := by
    rw [List.find?_eq_none]
    intro t ht
    have h2 := List.all_eq_true.mp h t ht
    cases hb : Nat.beq t.1 m
    · simp
    · rw [hb] at h2; exact absurd h2 (by decide)
  rw [this]
  rfl
theorem cQ_al {l : List (Nat × Nat × Nat)} {m : Nat} (h : l.all (fun t => !Nat.beq t.1 m) = true) : va_up (cQ l) m (fun _ => none) = cQ l := by
  funext j i
  by_cases e : j = m
  · subst e; rw [va_e1, cQ_o h]
  · rw [va_n1 e]
theorem cI_w {m a k : Nat} {J X : Nat → Nat → Int32} {y : Int32} (ha : am_rn a < m) : va_up (cI m J X) a (upd (cI m J X a) k y) = cI m (va_up J a (upd (J a) k y)) X := by
  have e0 : cI m J X a = J a := by unfold cI; rw [cnle ha]; rfl
  funext j
  by_cases e : j = a
  · subst e
    rw [va_e1, e0]
    unfold cI
    rw [cnle ha]
    show _ = va_up J j (upd (J j) k y) j
    rw [va_e1]
  · rw [va_n1 e]
    unfold cI
    rw [va_n1 e]
theorem cI_f {m a : Nat} {J X : Nat → Nat → Int32} {f : Nat → Int32} (ha : am_rn a < m) : va_up (cI m J X) a f = cI m (va_up J a f) X := by
  funext j
  by_cases e : j = a
  · subst e
    rw [va_e1]
    unfold cI
    rw [cnle ha]
    show _ = va_up J j f j
    rw [va_e1]
  · rw [va_n1 e]
    unfold cI
    rw [va_n1 e]
theorem cI_a {m a : Nat} {J X : Nat → Nat → Int32} (ha : am_rn a < m) : cI m J X a = J a := by unfold cI; rw [cnle ha]; rfl
theorem cZ_w {a k : Nat} : va_up cZ a (vp_updL (cZ a) k 0) = cZ := by
  funext j i
  by_cases e : j = a
  · subst e
    rw [va_e1]
    unfold vp_updL
    split <;> rfl
  · rw [va_n1 e]
theorem cQ_w {l : List (Nat × Nat × Nat)} {a k y : Nat} : va_up (cQ l) a (va_up (cQ l a) k (some y)) = cQ ((a, k, y) :: l) := by
  funext j i
  unfold cQ
  by_cases e : j = a
  · subst e
    rw [va_e1]
    by_cases g : i = k
    · subst g
      rw [va_e1, List.find?_cons_of_pos (by simp)]
      rfl
    · rw [va_n1 g, List.find?_cons_of_neg (by
        intro z
        rw [Bool.and_eq_true] at z
        exact g (Nat.eq_of_beq_eq_true z.2).symm)]
  · rw [va_n1 e, List.find?_cons_of_neg (by
      intro z
      rw [Bool.and_eq_true] at z
      exact e (Nat.eq_of_beq_eq_true z.1).symm)]
theorem cz0 {J : Nat → Nat → Int32} {a k : Nat} (h : J a k = 0) : va_up J a (upd (J a) k 0) = J := by
  funext j i
  by_cases e : j = a
  · subst e
    rw [va_e1]
    by_cases g : i = k
    · subst g; rw [upd_e, h]
    · rw [upd_n g]
  · rw [va_n1 e]
theorem czf {J : Nat → Nat → Int32} {a c : Nat} (h : J a = fun _ => 0) : va_up J a (fun i => if i < c then 0 else J a i) = J := by
  funext j i
  by_cases e : j = a
  · subst e
    rw [va_e1, h]
    split <;> rfl
  · rw [va_n1 e]
section TC
variable {d mi pc m m' sl sl' a k ix len : Nat} {kk : Nat → Nat × Nat} {J J' X : Nat → Nat → Int32} {l : List (Nat × Nat × Nat)} {ls : am_L} {st : List Value} {v : Value} {P : Option Value → am_H → Prop} {tl : List Nat}
theorem tc_new {ci b : Nat} (hP : am_P mi pc = some (.new ix, 3, ci :: tl, v)) (hb : am_nr m = b) (hk : wK b = (ci, 0)) (hJ : J b = fun _ => 0) (hq : l.all (fun t => !Nat.beq t.1 b) = true) (hm : m + 1 = m') (hs : sl + am_NF ci = sl') (k1 : am_T d mi (pc + 3) ls (.ref b :: st) (m', sl', cK m' kk, cI m' J X, cZ, cQ l) P) : am_T d mi pc ls st (m, sl, cK m kk, cI m J X, cZ, cQ l) P := by
  subst hm hs
  refine tv_l (fun _ => ev_1 (pc' := pc + 3) (ls' := ls) (st' := .ref b :: st) (h' := (m + 1, sl + am_NF ci, va_up (cK m kk) b (ci, 0), va_up (cI m J X) b (fun _ => 0), va_up cZ b (fun _ => 0), va_up (cQ l) b (fun _ => none))) hP rfl ?_) ?_
  · subst hb; rfl
  rw [cK_al hb hk, cI_al hb hJ, cZ_al, cQ_al hq]
  exact k1
theorem tc_na {t b : Nat} {nt : ArrayType} {x : Int32} {c : Nat} (hP : am_P mi pc = some (.newarray nt, 2, t :: tl, v)) (hx : x.toNatClampNeg = c ∧ ¬ x < 0 ∧ c ≤ 200000) (hb : am_nr m = b) (hk : wK b = (t, c)) (hJ : J b = fun _ => 0) (hq : l.all (fun t => !Nat.beq t.1 b) = true) (hm : m + 1 = m') (hs : sl + c = sl') (k1 : am_T d mi (pc + 2) ls (.ref b :: st) (m', sl', cK m' kk, cI m' J X, cZ, cQ l) P) : am_T d mi pc ls (.int x :: st) (m, sl, cK m kk, cI m J X, cZ, cQ l) P := by
  subst hm hs
  obtain ⟨h1, h2, h3⟩ := hx
  refine tv_l (fun _ => ev_1 (pc' := pc + 2) (ls' := ls) (st' := .ref b :: st) (h' := (m + 1, sl + c, va_up (cK m kk) b (t, c), va_up (cI m J X) b (fun _ => 0), va_up cZ b (fun _ => 0), va_up (cQ l) b (fun _ => none))) hP rfl ?_) ?_
  · show (if x < 0 ∨ 200000 < x.toNatClampNeg then none else some (pc + 2, ls, .ref (am_nr m) :: st, am_al t x.toNatClampNeg x.toNatClampNeg _)) = _
    rw [h1, if_neg (fun z => z.elim h2 (fun y => absurd y (by omega)))]
    subst hb
    rfl
  rw [cK_al hb hk, cI_al hb hJ, cZ_al, cQ_al hq]
  exact k1
theorem tc_ana {t b : Nat} {x : Int32} {c : Nat} (hP : am_P mi pc = some (.anewarray ix, 3, t :: tl, v)) (hx : x.toNatClampNeg = c ∧ ¬ x < 0 ∧ c ≤ 200000) (hb : am_nr m = b) (hk : wK b = (t, c)) (hJ : J b = fun _ => 0) (hq : l.all (fun t => !Nat.beq t.1 b) = true) (hm : m + 1 = m') (hs : sl + c = sl') (k1 : am_T d mi (pc + 3) ls (.ref b :: st) (m', sl', cK m' kk, cI m' J X, cZ, cQ l) P) : am_T d mi pc ls (.int x :: st) (m, sl, cK m kk, cI m J X, cZ, cQ l) P := by
  subst hm hs
  obtain ⟨h1, h2, h3⟩ := hx
  refine tv_l (fun _ => ev_1 (pc' := pc + 3) (ls' := ls) (st' := .ref b :: st) (h' := (m + 1, sl + c, va_up (cK m kk) b (t, c), va_up (cI m J X) b (fun _ => 0), va_up cZ b (fun _ => 0), va_up (cQ l) b (fun _ => none))) hP rfl ?_) ?_
  · show (if x < 0 ∨ 200000 < x.toNatClampNeg then none else some (pc + 3, ls, .ref (am_nr m) :: st, am_al t x.toNatClampNeg x.toNatClampNeg _)) = _
    rw [h1, if_neg (fun z => z.elim h2 (fun y => absurd y (by omega)))]
    subst hb
    rfl
  rw [cK_al hb hk, cI_al hb hJ, cZ_al, cQ_al hq]
  exact k1
/-- an array of arrays -/
def mlst (m c : Nat) : Nat → List (Nat × Nat × Nat) → List (Nat × Nat × Nat)
  | 0, l => l
  | i + 1, l => (m, i, m + 1 + i) :: mlst m c i l
theorem cQ_c {l : List (Nat × Nat × Nat)} {a k y j i : Nat} : cQ ((a, k, y) :: l) j i = if j = a ∧ i = k then some y else cQ l j i := by
  rw [← cQ_w]
  by_cases e : j = a
  · subst e
    rw [va_e1]
    by_cases g : i = k
    · subst g; rw [va_e1, if_pos ⟨rfl, rfl⟩]
    · rw [va_n1 g, if_neg (fun z => g z.2)]
  · rw [va_n1 e, if_neg (fun z => e z.1)]
theorem mlst_v {m c : Nat} {l : List (Nat × Nat × Nat)} : ∀ n j i, cQ (mlst m c n l) j i = if j = m ∧ i < n then some (m + 1 + i) else cQ l j i := by
  intro n
  induction n with
  | zero => intro j i; rw [if_neg (fun z => absurd z.2 (by omega))]; rfl
  | succ n ih =>
    intro j i
    show cQ ((m, n, m + 1 + n) :: mlst m c n l) j i = _
    rw [cQ_c, ih]
    by_cases e : j = m ∧ i = n
    · rw [if_pos e, if_pos ⟨e.1, by omega⟩, e.2]
    · rw [if_neg e]
      by_cases g : j = m ∧ i < n
      · rw [if_pos g, if_pos ⟨g.1, by omega⟩]
      · rw [if_neg g, if_neg (fun z => g ⟨z.1, by have := fun y => e ⟨z.1, y⟩; omega⟩)]
theorem tc_mna {t c r : Nat} {x y : Int32} {dm : Nat} {l' : List (Nat × Nat × Nat)} (hP : am_P mi pc = some (.multianewarray ix dm, 4, t :: tl, v)) (h58 : m + c ≤ 58) (hx : x.toNatClampNeg = c ∧ ¬ x < 0 ∧ c ≤ 1000) (hy : y.toNatClampNeg = r ∧ ¬ y < 0 ∧ r ≤ 1000) (hk : wK m = (t, c)) (hk2 : ∀ j, m < j → j ≤ m + c → wK j = (t - 5, r)) (hJ : ∀ j, m ≤ j → j ≤ m + c → J j = fun _ => 0) (hq : ∀ j, m ≤ j → j ≤ m + c → l.all (fun t => !Nat.beq t.1 j) = true) (hl : mlst m c c l = l') (hm : m + (1 + c) = m') (hs : sl + (c + c * r) = sl') (k1 : am_T d mi (pc + 4) ls (.ref m :: st) (m', sl', cK m' kk, cI m' J X, cZ, cQ l') P) : am_T d mi pc ls (.int y :: .int x :: st) (m, sl, cK m kk, cI m J X, cZ, cQ l) P := by
  subst hm hs hl
  obtain ⟨h1, h2, h3⟩ := hx
  obtain ⟨i1, i2, i3⟩ := hy
  refine tv_l (fun _ => ev_1 (pc' := pc + 4) (ls' := ls) (st' := .ref m :: st) (h' := am_mal t c r (m, sl, cK m kk, cI m J X, cZ, cQ l)) hP rfl ?_) ?_
  · show (if x < 0 ∨ 1000 < x.toNatClampNeg ∨ y < 0 ∨ 1000 < y.toNatClampNeg ∨ 58 < m + x.toNatClampNeg then none else some (pc + 4, ls, .ref m :: st, am_mal t x.toNatClampNeg y.toNatClampNeg _)) = _
    rw [h1, i1, if_neg (fun z => z.elim h2 (fun z => z.elim (fun w => absurd w (by omega)) (fun z => z.elim i2 (fun z => z.elim (fun w => absurd w (by omega)) (fun w => absurd w (by omega))))))]
  have eK : (fun j => if j = m then (t, c) else if m < j ∧ j ≤ m + c then (t - 5, r) else cK m kk j) = cK (m + (1 + c)) kk := by
    funext j
    show (if j = m then (t, c) else if m < j ∧ j ≤ m + c then (t - 5, r) else cK m kk j) = cK (m + (1 + c)) kk j
    unfold cK
    by_cases e : j = m
    · subst e; rw [if_pos rfl, cnle (by rw [am_rn_lo (by omega)]; omega), ← hk]; rfl
    · rw [if_neg e]
      by_cases g : m < j ∧ j ≤ m + c
      · rw [if_pos g, cnle (by rw [am_rn_lo (by omega)]; omega), ← hk2 j g.1 g.2]; rfl
      · rw [if_neg g]
        have hf := am_rn_f j
        by_cases w : m ≤ am_rn j
        · rw [cble w, cble (by omega)]
        · rw [cnle (by omega), cnle (by omega)]
  have eI : (fun j => if m ≤ j ∧ j ≤ m + c then fun _ => 0 else cI m J X j) = cI (m + (1 + c)) J X := by
    funext j
    show (if m ≤ j ∧ j ≤ m + c then fun _ => 0 else cI m J X j) = cI (m + (1 + c)) J X j
    unfold cI
    by_cases g : m ≤ j ∧ j ≤ m + c
    · rw [if_pos g, cnle (by rw [am_rn_lo (by omega)]; omega), ← hJ j g.1 g.2]; rfl
    · rw [if_neg g]
      have hf := am_rn_f j
      by_cases w : m ≤ am_rn j
      · rw [cble w, cble (by omega)]
      · rw [cnle (by omega), cnle (by omega)]
  have eL : (fun j => if m ≤ j ∧ j ≤ m + c then fun _ => 0 else cZ j) = cZ := by
    funext j i
    show (if m ≤ j ∧ j ≤ m + c then fun _ => (0 : Int64) else cZ j) i = 0
    split <;> rfl
  have eQ : (fun j => if j = m then fun i => if i < c then some (m + 1 + i) else none else if m < j ∧ j ≤ m + c then fun _ => none else cQ l j) = cQ (mlst m c c l) := by
    funext j i
    show (if j = m then fun i => if i < c then some (m + 1 + i) else none else if m < j ∧ j ≤ m + c then fun _ => none else cQ l j) i = _
    rw [mlst_v]
    by_cases e : j = m
    · have h1 : (if j = m then (fun i => if i < c then some (m + 1 + i) else none) else if m < j ∧ j ≤ m + c then fun _ => none else cQ l j) = (fun i => if i < c then some (m + 1 + i) else none) := if_pos e
      rw [h1]
      show (if i < c then some (m + 1 + i) else none) = _
      by_cases g : i < c
      · rw [if_pos g, if_pos ⟨e, g⟩]
      · rw [if_neg g, if_neg (fun z => g z.2), cQ_o (hq j (by omega) (by omega))]
    · by_cases g : m < j ∧ j ≤ m + c
      · have h1 : (if j = m then (fun i => if i < c then some (m + 1 + i) else none) else if m < j ∧ j ≤ m + c then fun _ => none else cQ l j) = (fun _ => none) := (if_neg e).trans (if_pos g)
        rw [h1, if_neg (fun z => e z.1), cQ_o (hq j (by omega) g.2)]
      · have h1 : (if j = m then (fun i => if i < c then some (m + 1 + i) else none) else if m < j ∧ j ≤ m + c then fun _ => none else cQ l j) = cQ l j := (if_neg e).trans (if_neg g)
        rw [h1, if_neg (fun z => e z.1)]
  show am_T d mi (pc + 4) ls (.ref m :: st) (m + (1 + c), sl + (c + c * r), (fun j => if j = m then (t, c) else if m < j ∧ j ≤ m + c then (t - 5, r) else cK m kk j), (fun j => if m ≤ j ∧ j ≤ m + c then fun _ => 0 else cI m J X j), (fun j => if m ≤ j ∧ j ≤ m + c then fun _ => 0 else cZ j), (fun j => if j = m then fun i => if i < c then some (m + 1 + i) else none else if m < j ∧ j ≤ m + c then fun _ => none else cQ l j)) P
  rw [eK, eI, eL, eQ]
  exact k1
theorem tc_pfI {ci kd : Nat} {y : Int32} (hP : am_P mi pc = some (.putfield ix, 3, ci :: k :: kd :: tl, v)) (hd : kd = 0 ∨ (kd = 3 ∧ (y = 0 ∨ y = 1))) (hk : wK a = (ci, 0)) (ha : am_rn a < m) (hJ : va_up J a (upd (J a) k y) = J') (k1 : am_T d mi (pc + 3) ls st (m, sl, cK m kk, cI m J' X, cZ, cQ l) P) : am_T d mi pc ls (.int y :: .ref a :: st) (m, sl, cK m kk, cI m J X, cZ, cQ l) P := by
  have hk2 : (cK m kk a).1 = ci := by unfold cK; rw [cnle ha]; show (wK a).1 = ci; rw [hk]
  refine tv_l (fun _ => ev_1 (pc' := pc + 3) (ls' := ls) (st' := st) (h' := (m, sl, cK m kk, va_up (cI m J X) a (upd (cI m J X a) k y), cZ, cQ l)) hP rfl ?_) ?_
  · show (if (cK m kk a).1 = ci then _ else none) = _
    rw [if_pos hk2]
    rcases hd with rfl | ⟨rfl, h⟩
    · rfl
    · have hp : am_put 3 a k (.int y) (m, sl, cK m kk, cI m J X, cZ, cQ l) = some (m, sl, cK m kk, va_up (cI m J X) a (upd (cI m J X a) k y), cZ, cQ l) := if_pos h
      rw [hp]
  · rw [cI_w ha, hJ]; exact k1
theorem tc_pfL {ci : Nat} (hP : am_P mi pc = some (.putfield ix, 3, ci :: k :: 1 :: tl, v)) (hk : wK a = (ci, 0)) (ha : am_rn a < m) (k1 : am_T d mi (pc + 3) ls st (m, sl, cK m kk, cI m J X, cZ, cQ l) P) : am_T d mi pc ls (.long 0 :: .ref a :: st) (m, sl, cK m kk, cI m J X, cZ, cQ l) P := by
  have hk2 : (cK m kk a).1 = ci := by unfold cK; rw [cnle ha]; show (wK a).1 = ci; rw [hk]
  refine tv_l (fun _ => ev_1 (pc' := pc + 3) (ls' := ls) (st' := st) (h' := (m, sl, cK m kk, cI m J X, va_up cZ a (vp_updL (cZ a) k 0), cQ l)) hP rfl ?_) ?_
  · show (if (cK m kk a).1 = ci then _ else none) = _
    rw [if_pos hk2]
  · rw [cZ_w]; exact k1
theorem tc_pfQ {ci y : Nat} {l' : List (Nat × Nat × Nat)} (hP : am_P mi pc = some (.putfield ix, 3, ci :: k :: 2 :: tl, v)) (hk : wK a = (ci, 0)) (ha : am_rn a < m) (hl : (a, k, y) :: l = l') (k1 : am_T d mi (pc + 3) ls st (m, sl, cK m kk, cI m J X, cZ, cQ l') P) : am_T d mi pc ls (.ref y :: .ref a :: st) (m, sl, cK m kk, cI m J X, cZ, cQ l) P := by
  have hk2 : (cK m kk a).1 = ci := by unfold cK; rw [cnle ha]; show (wK a).1 = ci; rw [hk]
  refine tv_l (fun _ => ev_1 (pc' := pc + 3) (ls' := ls) (st' := st) (h' := (m, sl, cK m kk, cI m J X, cZ, va_up (cQ l) a (va_up (cQ l a) k (some y)))) hP rfl ?_) ?_
  · show (if (cK m kk a).1 = ci then _ else none) = _
    rw [if_pos hk2]
  · rw [cQ_w, hl]; exact k1
theorem tc_gf {ci y : Nat} (hP : am_P mi pc = some (.getfield ix, 3, ci :: k :: 2 :: tl, v)) (hk : wK a = (ci, 0)) (ha : am_rn a < m) (hq : cQ l a k = some y) (k1 : am_T d mi (pc + 3) ls (.ref y :: st) (m, sl, cK m kk, cI m J X, cZ, cQ l) P) : am_T d mi pc ls (.ref a :: st) (m, sl, cK m kk, cI m J X, cZ, cQ l) P := by
  have hk2 : (cK m kk a).1 = ci := by unfold cK; rw [cnle ha]; show (wK a).1 = ci; rw [hk]
  refine tv_l (fun _ => ev_1 (pc' := pc + 3) (ls' := ls) (st' := .ref y :: st) (h' := (m, sl, cK m kk, cI m J X, cZ, cQ l)) hP rfl ?_) k1
  show (if (cK m kk a).1 = ci then some (pc + 3, ls, va_rf (cQ l a k) :: st, _) else none) = _
  rw [if_pos hk2, hq]
  rfl
theorem tc_obj {w : List Nat} {i : Instr} (hP : am_P mi pc = some (i, len, 2 :: w, v)) (hk : am_kind i = 2) (hc : am_cat st ≤ 8) {h : am_H} (k1 : am_T (d + 1) mi (pc + 3) ls st h P) : am_T (d + 1) mi pc ls (.ref a :: st) h P := tv_l (fun _ => ev_nat hP hk (fun run => by
  show (if am_cat st ≤ 8 then some (st, h) else none) = some (st, h)
  exact if_pos hc)) k1
theorem tc_ias {x y : Int32} {i c : Nat} (hP : am_P mi pc = some (.iastore, 1, [], v)) (hk : wK a = (20, c)) (ha : am_rn a < m) (hx : x.toNatClampNeg = i ∧ ¬ x < 0) (hi : i < c) (hJ : va_up J a (upd (J a) i y) = J') (k1 : am_T d mi (pc + 1) ls st (m, sl, cK m kk, cI m J' X, cZ, cQ l) P) : am_T d mi pc ls (.int y :: .int x :: .ref a :: st) (m, sl, cK m kk, cI m J X, cZ, cQ l) P := by
  have hk2 : cK m kk a = (20, c) := by unfold cK; rw [cnle ha]; exact hk
  refine tv_ias hP hk2 (fun z => z.elim hx.2 (fun w => by rw [hx.1] at w; omega)) ?_
  rw [hx.1, cI_w ha, hJ]
  exact k1
end TC
theorem tc_fill0 {d c N sl a : Nat} {K : Nat → Nat × Nat} {L : Nat → Nat → Int64} {Q : Nat → Nat → Option Nat} {w : Int32} (hK : K a = (20, c)) (hc : c ≤ 1000) : ∀ m k : Nat, k + m = c → ∀ (I : Nat → Nat → Int32) (f0 : Nat → Int32), I a = (fun i => if i < k then w else f0 i) → am_T d 254 5 [some (.ref a), some (.int w), some (.int (nI k)), some (.int (nI c))] [] (N, sl, K, I, L, Q) (fun rv h' => rv = none ∧ h' = (N, sl, K, va_up I a (fun i => if i < c then w else f0 i), L, Q)) := by
  intro m
  induction m with
  | zero =>
    intro k hk I f0 hI
    have e : k = c := by omega
    subst e
    refine tv_b (pc' := (if nI k ≤ nI k then 20 else 10)) (ls' := [some (.ref a), some (.int w), some (.int (nI k)), some (.int (nI k))]) (st' := []) (h' := (N, sl, K, I, L, Q)) 3 rfl ?_
    refine tv_t (Int32.le_refl _) ?_
    refine tv_rv rfl ⟨rfl, ?_⟩
    rw [← hI, show va_up I a (I a) = I from by
      funext j
      by_cases e : j = a
      · subst e; rw [va_e1]
      · rw [va_n1 e]]
  | succ m ih =>
    intro k hk I f0 hI
    refine tv_b (pc' := (if nI c ≤ nI k then 20 else 10)) (ls' := [some (.ref a), some (.int w), some (.int (nI k)), some (.int (nI c))]) (st' := []) (h' := (N, sl, K, I, L, Q)) 3 rfl ?_
    refine tv_f (fun hq => absurd ((nI_leI (a := c) (b := k) (by omega) (by omega)).mp hq) (by omega)) ?_
    refine tv_b (pc' := 13) (ls' := [some (.ref a), some (.int w), some (.int (nI k)), some (.int (nI c))]) (st' := [.int w, .int (nI k), .ref a]) (h' := (N, sl, K, I, L, Q)) 3 rfl ?_
    refine tv_iasN (k := k) rfl hK ⟨by omega, by omega⟩ ?_
    refine tv_iincN (k := k) (ls' := [some (.ref a), some (.int w), some (.int (nI (k + 1))), some (.int (nI c))]) rfl rfl rfl ?_
    refine tv_b (pc' := 5) (ls' := [some (.ref a), some (.int w), some (.int (nI (k + 1))), some (.int (nI c))]) (st' := []) (h' := (N, sl, K, va_up I a (upd (I a) k w), L, Q)) 1 rfl ?_
    refine tv_w (ih (k + 1) (by omega) _ f0 (by
      rw [va_e1, hI]
      funext i
      show (if i = k then w else if i < k then w else f0 i) = _
      by_cases e : i = k
      · rw [if_pos e, if_pos (by omega)]
      · rw [if_neg e]
        by_cases g : i < k
        · rw [if_pos g, if_pos (by omega)]
        · rw [if_neg g, if_neg (by omega)])) (fun rv h' ho => ?_)
    obtain ⟨rfl, rfl⟩ := ho
    exact ⟨rfl, by rw [va_up_2]⟩
theorem tc_fill {d c N sl a : Nat} {K : Nat → Nat × Nat} {I : Nat → Nat → Int32} {L : Nat → Nat → Int64} {Q : Nat → Nat → Option Nat} {w : Int32} (hK : K a = (20, c)) (hc : c ≤ 1000) : am_Ev d 254 0 (am_ent 4 [.ref a, .int w]) [] (N, sl, K, I, L, Q) (none, (N, sl, K, va_up I a (fun i => if i < c then w else I a i), L, Q)) := by
  refine tv_ev ?_
  show am_T _ _ 0 [some (.ref a), some (.int w), none, none] _ _ _
  refine tv_b (pc' := 3) (ls' := [some (.ref a), some (.int w), some (.int 0), none]) (st' := [.ref a]) (h' := (N, sl, K, I, L, Q)) 3 rfl ?_
  refine tv_len rfl hK ⟨by decide, by decide⟩ ?_
  refine tv_b (pc' := 5) (ls' := [some (.ref a), some (.int w), some (.int 0), some (.int (nI c))]) (st' := []) (h' := (N, sl, K, I, L, Q)) 1 rfl ?_
  exact tc_fill0 hK hc c 0 (by omega) I (I a) (by funext i; rw [if_neg (by omega)])
theorem tc_fillC {d c m sl a : Nat} {kk : Nat → Nat × Nat} {J J' X : Nat → Nat → Int32} {l : List (Nat × Nat × Nat)} {w : Int32} (hk : wK a = (20, c)) (ha : am_rn a < m) (hc : c ≤ 1000) (hJ : va_up J a (fun i => if i < c then w else J a i) = J') : am_Ev d 254 0 (am_ent 4 [.ref a, .int w]) [] (m, sl, cK m kk, cI m J X, cZ, cQ l) (none, (m, sl, cK m kk, cI m J' X, cZ, cQ l)) := by
  have hk2 : cK m kk a = (20, c) := by unfold cK; rw [cnle ha]; exact hk
  have e := tc_fill (d := d) (N := m) (sl := sl) (I := cI m J X) (L := cZ) (Q := cQ l) (w := w) hk2 hc
  rw [cI_f ha, cI_a ha, hJ] at e
  exact e
def cJ0 (_ _ : Nat) : Int32 := 0
def cl0 : List (Nat × Nat × Nat) := []
def cl1 : List (Nat × Nat × Nat) := (1, 0, 2) :: cl0
def cl2 : List (Nat × Nat × Nat) := (1, 1, 3) :: cl1
def cJ1 : Nat → Nat → Int32 := va_up cJ0 2 (fun i => if i < 400 then 50 else cJ0 2 i)
def cl3 : List (Nat × Nat × Nat) := (0, 0, 1) :: cl2
def cl4 : List (Nat × Nat × Nat) := (4, 0, 5) :: cl3
def cl5 : List (Nat × Nat × Nat) := (4, 1, 6) :: cl4
def cl6 : List (Nat × Nat × Nat) := (0, 1, 4) :: cl5
def cl7 : List (Nat × Nat × Nat) := (7, 0, 8) :: cl6
def cl8 : List (Nat × Nat × Nat) := (7, 1, 9) :: cl7
def cl9 : List (Nat × Nat × Nat) := (7, 2, 10) :: cl8
def cl10 : List (Nat × Nat × Nat) := (7, 3, 11) :: cl9
def cl11 : List (Nat × Nat × Nat) := (7, 4, 12) :: cl10
def cJ2 : Nat → Nat → Int32 := va_up cJ1 11 (fun i => if i < 8 then 10 else cJ1 11 i)
def cJ3 : Nat → Nat → Int32 := va_up cJ2 12 (fun i => if i < 8 then 1000000 else cJ2 12 i)
def cl12 : List (Nat × Nat × Nat) := (0, 2, 7) :: cl11
def cl13 : List (Nat × Nat × Nat) := (13, 2, 14) :: cl12
def cl14 : List (Nat × Nat × Nat) := (13, 3, 15) :: cl13
def cl15 : List (Nat × Nat × Nat) := (13, 4, 16) :: cl14
def cl16 : List (Nat × Nat × Nat) := (13, 5, 17) :: cl15
def cl17 : List (Nat × Nat × Nat) := mlst 18 16 16 cl16
def cl18 : List (Nat × Nat × Nat) := (13, 6, 18) :: cl17
def cl19 : List (Nat × Nat × Nat) := mlst 35 16 16 cl18
def cl20 : List (Nat × Nat × Nat) := (13, 7, 35) :: cl19
def cl21 : List (Nat × Nat × Nat) := (13, 8, 52) :: cl20
def cl22 : List (Nat × Nat × Nat) := (13, 9, 53) :: cl21
def cl23 : List (Nat × Nat × Nat) := (13, 10, 54) :: cl22
def cl24 : List (Nat × Nat × Nat) := (13, 0, 1) :: cl23
def cl25 : List (Nat × Nat × Nat) := (13, 1, 7) :: cl24
def cJ4 : Nat → Nat → Int32 := va_up cJ3 14 (fun i => if i < 16 then 100 else cJ3 14 i)
def cl26 : List (Nat × Nat × Nat) := (0, 3, 13) :: cl25
def cl27 : List (Nat × Nat × Nat) := (55, 1, 56) :: cl26
def cJ5 : Nat → Nat → Int32 := va_up cJ4 55 (upd (cJ4 55) 3 (-1))
def cl28 : List (Nat × Nat × Nat) := (55, 0, 13) :: cl27
def cl29 : List (Nat × Nat × Nat) := (0, 4, 55) :: cl28
def cl30 : List (Nat × Nat × Nat) := (57, 0, 58) :: cl29
def cl31 : List (Nat × Nat × Nat) := (57, 2, 127) :: cl30
def cl32 : List (Nat × Nat × Nat) := (57, 3, 128) :: cl31
def cl33 : List (Nat × Nat × Nat) := (57, 4, 129) :: cl32
def cl34 : List (Nat × Nat × Nat) := (57, 5, 130) :: cl33
def cJ6 : Nat → Nat → Int32 := va_up cJ5 57 (upd (cJ5 57) 13 (-1))
def cl35 : List (Nat × Nat × Nat) := (57, 14, 59) :: cl34
def cl36 : List (Nat × Nat × Nat) := (0, 5, 57) :: cl35
def cl37 : List (Nat × Nat × Nat) := (60, 3, 61) :: cl36
def cl38 : List (Nat × Nat × Nat) := (60, 7, 62) :: cl37
def cl39 : List (Nat × Nat × Nat) := (60, 8, 63) :: cl38
def cJ7 : Nat → Nat → Int32 := va_up cJ6 60 (upd (cJ6 60) 10 (-1))
def cJ8 : Nat → Nat → Int32 := va_up cJ7 60 (upd (cJ7 60) 11 (-1))
def cl40 : List (Nat × Nat × Nat) := (60, 0, 55) :: cl39
def cl41 : List (Nat × Nat × Nat) := (60, 1, 13) :: cl40
def cl42 : List (Nat × Nat × Nat) := (60, 2, 1) :: cl41
def cl43 : List (Nat × Nat × Nat) := (0, 6, 60) :: cl42
def cl44 : List (Nat × Nat × Nat) := (64, 3, 65) :: cl43
def cl45 : List (Nat × Nat × Nat) := (64, 4, 66) :: cl44
def cl46 : List (Nat × Nat × Nat) := (64, 5, 67) :: cl45
def cl47 : List (Nat × Nat × Nat) := (64, 6, 68) :: cl46
def cl48 : List (Nat × Nat × Nat) := (64, 7, 69) :: cl47
def cl49 : List (Nat × Nat × Nat) := (64, 8, 70) :: cl48
def cl50 : List (Nat × Nat × Nat) := (64, 0, 55) :: cl49
def cl51 : List (Nat × Nat × Nat) := (64, 1, 13) :: cl50
def cl52 : List (Nat × Nat × Nat) := (64, 2, 4) :: cl51
def cJ9 : Nat → Nat → Int32 := va_up cJ8 67 (fun i => if i < 4 then 1000 else cJ8 67 i)
def cl53 : List (Nat × Nat × Nat) := (0, 7, 64) :: cl52
def cl54 : List (Nat × Nat × Nat) := (71, 1, 72) :: cl53
def cl55 : List (Nat × Nat × Nat) := (71, 2, 73) :: cl54
def cl56 : List (Nat × Nat × Nat) := (71, 8, 74) :: cl55
def cl57 : List (Nat × Nat × Nat) := (71, 9, 75) :: cl56
def cl58 : List (Nat × Nat × Nat) := (71, 11, 76) :: cl57
def cl59 : List (Nat × Nat × Nat) := (71, 0, 13) :: cl58
def cl60 : List (Nat × Nat × Nat) := (0, 8, 71) :: cl59
def cl61 : List (Nat × Nat × Nat) := (77, 0, 78) :: cl60
def cl62 : List (Nat × Nat × Nat) := (77, 1, 79) :: cl61
def cl63 : List (Nat × Nat × Nat) := (0, 9, 77) :: cl62
def cl64 : List (Nat × Nat × Nat) := (80, 0, 81) :: cl63
def cJ10 : Nat → Nat → Int32 := va_up cJ9 80 (upd (cJ9 80) 9 (-1))
def cJ11 : Nat → Nat → Int32 := va_up cJ10 80 (upd (cJ10 80) 11 (-1))
def cJ12 : Nat → Nat → Int32 := va_up cJ11 80 (upd (cJ11 80) 12 (-1))
def cl65 : List (Nat × Nat × Nat) := (80, 15, 82) :: cl64
def cl66 : List (Nat × Nat × Nat) := (80, 16, 83) :: cl65
def cl67 : List (Nat × Nat × Nat) := (80, 17, 84) :: cl66
def cl68 : List (Nat × Nat × Nat) := (80, 18, 85) :: cl67
def cl69 : List (Nat × Nat × Nat) := (80, 19, 86) :: cl68
def cl70 : List (Nat × Nat × Nat) := (80, 20, 87) :: cl69
def cl71 : List (Nat × Nat × Nat) := (80, 22, 88) :: cl70
def cl72 : List (Nat × Nat × Nat) := (80, 23, 89) :: cl71
def cl73 : List (Nat × Nat × Nat) := (80, 24, 90) :: cl72
def cl74 : List (Nat × Nat × Nat) := (80, 25, 91) :: cl73
def cl75 : List (Nat × Nat × Nat) := (80, 26, 92) :: cl74
def cl76 : List (Nat × Nat × Nat) := (80, 29, 93) :: cl75
def cl77 : List (Nat × Nat × Nat) := (80, 32, 94) :: cl76
def cl78 : List (Nat × Nat × Nat) := (80, 33, 95) :: cl77
def cl79 : List (Nat × Nat × Nat) := (80, 34, 96) :: cl78
def cl80 : List (Nat × Nat × Nat) := (80, 35, 97) :: cl79
def cl81 : List (Nat × Nat × Nat) := (80, 36, 98) :: cl80
def cl82 : List (Nat × Nat × Nat) := (80, 37, 99) :: cl81
def cl83 : List (Nat × Nat × Nat) := (80, 38, 100) :: cl82
def cl84 : List (Nat × Nat × Nat) := (80, 39, 101) :: cl83
def cl85 : List (Nat × Nat × Nat) := (80, 40, 102) :: cl84
def cl86 : List (Nat × Nat × Nat) := (80, 41, 103) :: cl85
def cl87 : List (Nat × Nat × Nat) := (80, 42, 104) :: cl86
def cl88 : List (Nat × Nat × Nat) := (80, 43, 105) :: cl87
def cl89 : List (Nat × Nat × Nat) := (80, 44, 106) :: cl88
def cJ13 : Nat → Nat → Int32 := va_up cJ12 80 (upd (cJ12 80) 46 (-1))
def cl90 : List (Nat × Nat × Nat) := (80, 47, 107) :: cl89
def cl91 : List (Nat × Nat × Nat) := (80, 48, 108) :: cl90
def cl92 : List (Nat × Nat × Nat) := (80, 49, 109) :: cl91
def cl93 : List (Nat × Nat × Nat) := (80, 50, 110) :: cl92
def cl94 : List (Nat × Nat × Nat) := (80, 51, 111) :: cl93
def cl95 : List (Nat × Nat × Nat) := (80, 52, 112) :: cl94
def cl96 : List (Nat × Nat × Nat) := (80, 53, 113) :: cl95
def cl97 : List (Nat × Nat × Nat) := (80, 54, 114) :: cl96
def cl98 : List (Nat × Nat × Nat) := (80, 55, 115) :: cl97
def cl99 : List (Nat × Nat × Nat) := (80, 56, 116) :: cl98
def cl100 : List (Nat × Nat × Nat) := (80, 59, 117) :: cl99
def cl101 : List (Nat × Nat × Nat) := (80, 60, 118) :: cl100
def cl102 : List (Nat × Nat × Nat) := (80, 61, 119) :: cl101
def cl103 : List (Nat × Nat × Nat) := (80, 62, 120) :: cl102
def cl104 : List (Nat × Nat × Nat) := (80, 66, 121) :: cl103
def cl105 : List (Nat × Nat × Nat) := (80, 67, 122) :: cl104
def cJ14 : Nat → Nat → Int32 := va_up cJ13 80 (upd (cJ13 80) 68 (-1))
def cl106 : List (Nat × Nat × Nat) := (80, 69, 123) :: cl105
def cl107 : List (Nat × Nat × Nat) := (80, 70, 124) :: cl106
def cl108 : List (Nat × Nat × Nat) := (80, 72, 125) :: cl107
def cl109 : List (Nat × Nat × Nat) := (80, 73, 126) :: cl108
def cJ15 : Nat → Nat → Int32 := va_up cJ14 94 (upd (cJ14 94) 0 (100))
def cJ16 : Nat → Nat → Int32 := va_up cJ15 94 (upd (cJ15 94) 1 (100))
def cJ17 : Nat → Nat → Int32 := va_up cJ16 94 (upd (cJ16 94) 2 (100))
def cJ18 : Nat → Nat → Int32 := va_up cJ17 94 (upd (cJ17 94) 3 (100))
def cJ19 : Nat → Nat → Int32 := va_up cJ18 94 (upd (cJ18 94) 4 (100))
def cJ20 : Nat → Nat → Int32 := va_up cJ19 94 (upd (cJ19 94) 5 (100))
def cJ21 : Nat → Nat → Int32 := va_up cJ20 94 (upd (cJ20 94) 6 (100))
def cJ22 : Nat → Nat → Int32 := va_up cJ21 94 (upd (cJ21 94) 7 (100))
def cJ23 : Nat → Nat → Int32 := va_up cJ22 94 (upd (cJ22 94) 8 (100))
def cJ24 : Nat → Nat → Int32 := va_up cJ23 94 (upd (cJ23 94) 9 (100))
def cJ25 : Nat → Nat → Int32 := va_up cJ24 94 (upd (cJ24 94) 10 (100))
def cJ26 : Nat → Nat → Int32 := va_up cJ25 94 (upd (cJ25 94) 11 (100))
def cJ27 : Nat → Nat → Int32 := va_up cJ26 94 (upd (cJ26 94) 12 (100))
def cJ28 : Nat → Nat → Int32 := va_up cJ27 94 (upd (cJ27 94) 13 (100))
def cJ29 : Nat → Nat → Int32 := va_up cJ28 94 (upd (cJ28 94) 14 (100))
def cJ30 : Nat → Nat → Int32 := va_up cJ29 94 (upd (cJ29 94) 15 (100))
def cJ31 : Nat → Nat → Int32 := va_up cJ30 98 (upd (cJ30 98) 0 (10))
def cJ32 : Nat → Nat → Int32 := va_up cJ31 99 (upd (cJ31 99) 0 (1000000))
def cJ33 : Nat → Nat → Int32 := va_up cJ32 98 (upd (cJ32 98) 1 (10))
def cJ34 : Nat → Nat → Int32 := va_up cJ33 99 (upd (cJ33 99) 1 (1000000))
def cJ35 : Nat → Nat → Int32 := va_up cJ34 98 (upd (cJ34 98) 2 (10))
def cJ36 : Nat → Nat → Int32 := va_up cJ35 99 (upd (cJ35 99) 2 (1000000))
def cJ37 : Nat → Nat → Int32 := va_up cJ36 98 (upd (cJ36 98) 3 (10))
def cJ38 : Nat → Nat → Int32 := va_up cJ37 99 (upd (cJ37 99) 3 (1000000))
def cJ39 : Nat → Nat → Int32 := va_up cJ38 98 (upd (cJ38 98) 4 (10))
def cJ40 : Nat → Nat → Int32 := va_up cJ39 99 (upd (cJ39 99) 4 (1000000))
def cJ41 : Nat → Nat → Int32 := va_up cJ40 98 (upd (cJ40 98) 5 (10))
def cJ42 : Nat → Nat → Int32 := va_up cJ41 99 (upd (cJ41 99) 5 (1000000))
def cJ43 : Nat → Nat → Int32 := va_up cJ42 98 (upd (cJ42 98) 6 (10))
def cJ44 : Nat → Nat → Int32 := va_up cJ43 99 (upd (cJ43 99) 6 (1000000))
def cJ45 : Nat → Nat → Int32 := va_up cJ44 98 (upd (cJ44 98) 7 (10))
def cJ46 : Nat → Nat → Int32 := va_up cJ45 99 (upd (cJ45 99) 7 (1000000))
def cJ47 : Nat → Nat → Int32 := va_up cJ46 106 (upd (cJ46 106) 0 (1000))
def cJ48 : Nat → Nat → Int32 := va_up cJ47 106 (upd (cJ47 106) 1 (1000))
def cJ49 : Nat → Nat → Int32 := va_up cJ48 106 (upd (cJ48 106) 2 (1000))
def cJ50 : Nat → Nat → Int32 := va_up cJ49 106 (upd (cJ49 106) 3 (1000))
theorem cjz_18 : ∀ j, 18 ≤ j → j ≤ 18 + 16 → cJ3 j = fun _ => 0 := fun j h1 h2 => (va_n1 (show j ≠ 12 by omega)).trans ((va_n1 (show j ≠ 11 by omega)).trans ((va_n1 (show j ≠ 2 by omega)).trans rfl))
theorem crow_18 : ∀ j, 18 < j → j ≤ 18 + 16 → wK j = (25 - 5, 400) := fun j h1 h2 => by
  have : ∀ i, i < 16 → wK (19 + i) = (25 - 5, 400) := by decide +kernel
  have := this (j - 19) (by omega)
  rw [show 19 + (j - 19) = j by omega] at this
  exact this
theorem call_18 : ∀ j, 18 ≤ j → j ≤ 18 + 16 → cl16.all (fun t => !Nat.beq t.1 j) = true := fun j h1 h2 => by
  have : ∀ i, i < 17 → cl16.all (fun t => !Nat.beq t.1 (18 + i)) = true := by decide +kernel
  have := this (j - 18) (by omega)
  rw [show 18 + (j - 18) = j by omega] at this
  exact this
theorem cjz_35 : ∀ j, 35 ≤ j → j ≤ 35 + 16 → cJ3 j = fun _ => 0 := fun j h1 h2 => (va_n1 (show j ≠ 12 by omega)).trans ((va_n1 (show j ≠ 11 by omega)).trans ((va_n1 (show j ≠ 2 by omega)).trans rfl))
theorem crow_35 : ∀ j, 35 < j → j ≤ 35 + 16 → wK j = (26 - 5, 401) := fun j h1 h2 => by
  have : ∀ i, i < 16 → wK (36 + i) = (26 - 5, 401) := by decide +kernel
  have := this (j - 36) (by omega)
  rw [show 36 + (j - 36) = j by omega] at this
  exact this
theorem call_35 : ∀ j, 35 ≤ j → j ≤ 35 + 16 → cl18.all (fun t => !Nat.beq t.1 j) = true := fun j h1 h2 => by
  have : ∀ i, i < 17 → cl18.all (fun t => !Nat.beq t.1 (35 + i)) = true := by decide +kernel
  have := this (j - 35) (by omega)
  rw [show 35 + (j - 35) = j by omega] at this
  exact this
theorem cs_1 (d : Nat) {kk : Nat → Nat × Nat} {X : Nat → Nat → Int32} : am_Ev (d + 1) 105 0 (am_ent 2 [.ref 1, .int 50]) [] (2, 12, cK 2 kk, cI 2 cJ0 X, cZ, cQ cl0) (none, (4, 812, cK 4 kk, cI 4 cJ1 X, cZ, cQ cl2)) := by
  refine tv_ev ?_
  show am_T _ _ 0 [some (.ref 1), some (.int 50)] _ _ _
  refine tv_b (pc' := 1) (ls' := [some (.ref 1), some (.int 50)]) (st' := [.ref 1]) (h' := (2, 12, cK 2 kk, cI 2 cJ0 X, cZ, cQ cl0)) 1 rfl ?_
  refine tc_obj rfl rfl (by decide) ?_
  refine tv_b (pc' := 8) (ls' := [some (.ref 1), some (.int 50)]) (st' := [.int 400, .ref 1]) (h' := (2, 12, cK 2 kk, cI 2 cJ0 X, cZ, cQ cl0)) 2 rfl ?_
  refine tc_na (b := 2) (c := 400) (m' := 3) (sl' := 412) rfl ⟨rfl, by decide, by decide⟩ rfl rfl rfl rfl rfl rfl ?_
  refine tc_pfQ (l' := cl1) rfl rfl (by decide) rfl ?_
  refine tv_b (pc' := 17) (ls' := [some (.ref 1), some (.int 50)]) (st' := [.int 400, .ref 1]) (h' := (3, 412, cK 3 kk, cI 3 cJ0 X, cZ, cQ cl1)) 2 rfl ?_
  refine tc_na (b := 3) (c := 400) (m' := 4) (sl' := 812) rfl ⟨rfl, by decide, by decide⟩ rfl rfl rfl rfl rfl rfl ?_
  refine tc_pfQ (l' := cl2) rfl rfl (by decide) rfl ?_
  refine tv_b (pc' := 23) (ls' := [some (.ref 1), some (.int 50)]) (st' := [.ref 1]) (h' := (4, 812, cK 4 kk, cI 4 cJ0 X, cZ, cQ cl2)) 1 rfl ?_
  refine tc_gf (y := 2) rfl rfl (by decide) rfl ?_
  refine tv_b (pc' := 27) (ls' := [some (.ref 1), some (.int 50)]) (st' := [.int 50, .ref 2]) (h' := (4, 812, cK 4 kk, cI 4 cJ0 X, cZ, cQ cl2)) 1 rfl ?_
  refine tv_csE [.ref 2, .int 50] [] rfl rfl (by omega) rfl (Nat.le_of_ble_eq_true rfl) (Nat.le_of_ble_eq_true rfl) (tc_fillC (c := 400) (J' := cJ1) rfl (by decide) (by decide) rfl) ?_
  exact tv_rv rfl ⟨rfl, rfl⟩
theorem cs_2 (d : Nat) {kk : Nat → Nat × Nat} {X : Nat → Nat → Int32} : am_Ev (d + 1) 105 0 (am_ent 2 [.ref 4, .int 0]) [] (5, 814, cK 5 kk, cI 5 cJ1 X, cZ, cQ cl3) (none, (7, 1614, cK 7 kk, cI 7 cJ1 X, cZ, cQ cl5)) := by
  refine tv_ev ?_
  show am_T _ _ 0 [some (.ref 4), some (.int 0)] _ _ _
  refine tv_b (pc' := 1) (ls' := [some (.ref 4), some (.int 0)]) (st' := [.ref 4]) (h' := (5, 814, cK 5 kk, cI 5 cJ1 X, cZ, cQ cl3)) 1 rfl ?_
  refine tc_obj rfl rfl (by decide) ?_
  refine tv_b (pc' := 8) (ls' := [some (.ref 4), some (.int 0)]) (st' := [.int 400, .ref 4]) (h' := (5, 814, cK 5 kk, cI 5 cJ1 X, cZ, cQ cl3)) 2 rfl ?_
  refine tc_na (b := 5) (c := 400) (m' := 6) (sl' := 1214) rfl ⟨rfl, by decide, by decide⟩ rfl rfl rfl rfl rfl rfl ?_
  refine tc_pfQ (l' := cl4) rfl rfl (by decide) rfl ?_
  refine tv_b (pc' := 17) (ls' := [some (.ref 4), some (.int 0)]) (st' := [.int 400, .ref 4]) (h' := (6, 1214, cK 6 kk, cI 6 cJ1 X, cZ, cQ cl4)) 2 rfl ?_
  refine tc_na (b := 6) (c := 400) (m' := 7) (sl' := 1614) rfl ⟨rfl, by decide, by decide⟩ rfl rfl rfl rfl rfl rfl ?_
  refine tc_pfQ (l' := cl5) rfl rfl (by decide) rfl ?_
  refine tv_b (pc' := 23) (ls' := [some (.ref 4), some (.int 0)]) (st' := [.ref 4]) (h' := (7, 1614, cK 7 kk, cI 7 cJ1 X, cZ, cQ cl5)) 1 rfl ?_
  refine tc_gf (y := 5) rfl rfl (by decide) rfl ?_
  refine tv_b (pc' := 27) (ls' := [some (.ref 4), some (.int 0)]) (st' := [.int 0, .ref 5]) (h' := (7, 1614, cK 7 kk, cI 7 cJ1 X, cZ, cQ cl5)) 1 rfl ?_
  refine tv_csE [.ref 5, .int 0] [] rfl rfl (by omega) rfl (Nat.le_of_ble_eq_true rfl) (Nat.le_of_ble_eq_true rfl) (tc_fillC (c := 400) (J' := cJ1) rfl (by decide) (by decide) (czf rfl)) ?_
  exact tv_rv rfl ⟨rfl, rfl⟩
theorem cs_3 (d : Nat) {kk : Nat → Nat × Nat} {X : Nat → Nat → Int32} : am_Ev (d + 1) 98 0 (am_ent 1 [.ref 7]) [] (8, 1619, cK 8 kk, cI 8 cJ1 X, cZ, cQ cl6) (none, (13, 1659, cK 13 kk, cI 13 cJ3 X, cZ, cQ cl11)) := by
  refine tv_ev ?_
  show am_T _ _ 0 [some (.ref 7)] _ _ _
  refine tv_b (pc' := 1) (ls' := [some (.ref 7)]) (st' := [.ref 7]) (h' := (8, 1619, cK 8 kk, cI 8 cJ1 X, cZ, cQ cl6)) 1 rfl ?_
  refine tc_obj rfl rfl (by decide) ?_
  refine tv_b (pc' := 7) (ls' := [some (.ref 7)]) (st' := [.int 8, .ref 7]) (h' := (8, 1619, cK 8 kk, cI 8 cJ1 X, cZ, cQ cl6)) 2 rfl ?_
  refine tc_na (b := 8) (c := 8) (m' := 9) (sl' := 1627) rfl ⟨rfl, by decide, by decide⟩ rfl rfl rfl rfl rfl rfl ?_
  refine tc_pfQ (l' := cl7) rfl rfl (by decide) rfl ?_
  refine tv_b (pc' := 15) (ls' := [some (.ref 7)]) (st' := [.int 8, .ref 7]) (h' := (9, 1627, cK 9 kk, cI 9 cJ1 X, cZ, cQ cl7)) 2 rfl ?_
  refine tc_na (b := 9) (c := 8) (m' := 10) (sl' := 1635) rfl ⟨rfl, by decide, by decide⟩ rfl rfl rfl rfl rfl rfl ?_
  refine tc_pfQ (l' := cl8) rfl rfl (by decide) rfl ?_
  refine tv_b (pc' := 23) (ls' := [some (.ref 7)]) (st' := [.int 8, .ref 7]) (h' := (10, 1635, cK 10 kk, cI 10 cJ1 X, cZ, cQ cl8)) 2 rfl ?_
  refine tc_na (b := 10) (c := 8) (m' := 11) (sl' := 1643) rfl ⟨rfl, by decide, by decide⟩ rfl rfl rfl rfl rfl rfl ?_
  refine tc_pfQ (l' := cl9) rfl rfl (by decide) rfl ?_
  refine tv_b (pc' := 31) (ls' := [some (.ref 7)]) (st' := [.int 8, .ref 7]) (h' := (11, 1643, cK 11 kk, cI 11 cJ1 X, cZ, cQ cl9)) 2 rfl ?_
  refine tc_na (b := 11) (c := 8) (m' := 12) (sl' := 1651) rfl ⟨rfl, by decide, by decide⟩ rfl rfl rfl rfl rfl rfl ?_
  refine tc_pfQ (l' := cl10) rfl rfl (by decide) rfl ?_
  refine tv_b (pc' := 39) (ls' := [some (.ref 7)]) (st' := [.int 8, .ref 7]) (h' := (12, 1651, cK 12 kk, cI 12 cJ1 X, cZ, cQ cl10)) 2 rfl ?_
  refine tc_na (b := 12) (c := 8) (m' := 13) (sl' := 1659) rfl ⟨rfl, by decide, by decide⟩ rfl rfl rfl rfl rfl rfl ?_
  refine tc_pfQ (l' := cl11) rfl rfl (by decide) rfl ?_
  refine tv_b (pc' := 45) (ls' := [some (.ref 7)]) (st' := [.ref 7]) (h' := (13, 1659, cK 13 kk, cI 13 cJ1 X, cZ, cQ cl11)) 1 rfl ?_
  refine tc_gf (y := 11) rfl rfl (by decide) rfl ?_
  refine tv_b (pc' := 50) (ls' := [some (.ref 7)]) (st' := [.int 10, .ref 11]) (h' := (13, 1659, cK 13 kk, cI 13 cJ1 X, cZ, cQ cl11)) 1 rfl ?_
  refine tv_csE [.ref 11, .int 10] [] rfl rfl (by omega) rfl (Nat.le_of_ble_eq_true rfl) (Nat.le_of_ble_eq_true rfl) (tc_fillC (c := 8) (J' := cJ2) rfl (by decide) (by decide) rfl) ?_
  refine tv_b (pc' := 54) (ls' := [some (.ref 7)]) (st' := [.ref 7]) (h' := (13, 1659, cK 13 kk, cI 13 cJ2 X, cZ, cQ cl11)) 1 rfl ?_
  refine tc_gf (y := 12) rfl rfl (by decide) rfl ?_
  refine tv_b (pc' := 59) (ls' := [some (.ref 7)]) (st' := [.int 1000000, .ref 12]) (h' := (13, 1659, cK 13 kk, cI 13 cJ2 X, cZ, cQ cl11)) 1 rfl ?_
  refine tv_csE [.ref 12, .int 1000000] [] rfl rfl (by omega) rfl (Nat.le_of_ble_eq_true rfl) (Nat.le_of_ble_eq_true rfl) (tc_fillC (c := 8) (J' := cJ3) rfl (by decide) (by decide) rfl) ?_
  exact tv_rv rfl ⟨rfl, rfl⟩
theorem cs_4 (d : Nat) {kk : Nat → Nat × Nat} {X : Nat → Nat → Int32} : am_Ev (d + 1) 22 0 (am_ent 3 [.ref 13, .ref 1, .ref 7]) [] (14, 1672, cK 14 kk, cI 14 cJ3 X, cZ, cQ cl12) (none, (55, 16939, cK 55 kk, cI 55 cJ4 X, cZ, cQ cl25)) := by
  refine tv_ev ?_
  show am_T _ _ 0 [some (.ref 13), some (.ref 1), some (.ref 7)] _ _ _
  refine tv_b (pc' := 1) (ls' := [some (.ref 13), some (.ref 1), some (.ref 7)]) (st' := [.ref 13]) (h' := (14, 1672, cK 14 kk, cI 14 cJ3 X, cZ, cQ cl12)) 1 rfl ?_
  refine tc_obj rfl rfl (by decide) ?_
  refine tv_b (pc' := 7) (ls' := [some (.ref 13), some (.ref 1), some (.ref 7)]) (st' := [.int 16, .ref 13]) (h' := (14, 1672, cK 14 kk, cI 14 cJ3 X, cZ, cQ cl12)) 2 rfl ?_
  refine tc_na (b := 14) (c := 16) (m' := 15) (sl' := 1688) rfl ⟨rfl, by decide, by decide⟩ rfl rfl rfl rfl rfl rfl ?_
  refine tc_pfQ (l' := cl13) rfl rfl (by decide) rfl ?_
  refine tv_b (pc' := 16) (ls' := [some (.ref 13), some (.ref 1), some (.ref 7)]) (st' := [.int 400, .ref 13]) (h' := (15, 1688, cK 15 kk, cI 15 cJ3 X, cZ, cQ cl13)) 2 rfl ?_
  refine tc_na (b := 15) (c := 400) (m' := 16) (sl' := 2088) rfl ⟨rfl, by decide, by decide⟩ rfl rfl rfl rfl rfl rfl ?_
  refine tc_pfQ (l' := cl14) rfl rfl (by decide) rfl ?_
  refine tv_b (pc' := 25) (ls' := [some (.ref 13), some (.ref 1), some (.ref 7)]) (st' := [.int 400, .ref 13]) (h' := (16, 2088, cK 16 kk, cI 16 cJ3 X, cZ, cQ cl14)) 2 rfl ?_
  refine tc_na (b := 16) (c := 400) (m' := 17) (sl' := 2488) rfl ⟨rfl, by decide, by decide⟩ rfl rfl rfl rfl rfl rfl ?_
  refine tc_pfQ (l' := cl15) rfl rfl (by decide) rfl ?_
  refine tv_b (pc' := 34) (ls' := [some (.ref 13), some (.ref 1), some (.ref 7)]) (st' := [.int 400, .ref 13]) (h' := (17, 2488, cK 17 kk, cI 17 cJ3 X, cZ, cQ cl15)) 2 rfl ?_
  refine tc_na (b := 17) (c := 400) (m' := 18) (sl' := 2888) rfl ⟨rfl, by decide, by decide⟩ rfl rfl rfl rfl rfl rfl ?_
  refine tc_pfQ (l' := cl16) rfl rfl (by decide) rfl ?_
  refine tv_b (pc' := 45) (ls' := [some (.ref 13), some (.ref 1), some (.ref 7)]) (st' := [.int 400, .int 16, .ref 13]) (h' := (18, 2888, cK 18 kk, cI 18 cJ3 X, cZ, cQ cl16)) 3 rfl ?_
  refine tc_mna (c := 16) (r := 400) (m' := 35) (sl' := 9304) (l' := cl17) rfl (by decide) ⟨rfl, by decide, by decide⟩ ⟨rfl, by decide, by decide⟩ rfl (fun j h1 h2 => crow_18 j h1 h2) (fun j h1 h2 => cjz_18 j h1 h2) (fun j h1 h2 => call_18 j h1 h2) rfl rfl rfl ?_
  refine tc_pfQ (l' := cl18) rfl rfl (by decide) rfl ?_
  refine tv_b (pc' := 58) (ls' := [some (.ref 13), some (.ref 1), some (.ref 7)]) (st' := [.int 401, .int 16, .ref 13]) (h' := (35, 9304, cK 35 kk, cI 35 cJ3 X, cZ, cQ cl18)) 3 rfl ?_
  refine tc_mna (c := 16) (r := 401) (m' := 52) (sl' := 15736) (l' := cl19) rfl (by decide) ⟨rfl, by decide, by decide⟩ ⟨rfl, by decide, by decide⟩ rfl (fun j h1 h2 => crow_35 j h1 h2) (fun j h1 h2 => cjz_35 j h1 h2) (fun j h1 h2 => call_35 j h1 h2) rfl rfl rfl ?_
  refine tc_pfQ (l' := cl20) rfl rfl (by decide) rfl ?_
  refine tv_b (pc' := 69) (ls' := [some (.ref 13), some (.ref 1), some (.ref 7)]) (st' := [.int 401, .ref 13]) (h' := (52, 15736, cK 52 kk, cI 52 cJ3 X, cZ, cQ cl20)) 2 rfl ?_
  refine tc_na (b := 52) (c := 401) (m' := 53) (sl' := 16137) rfl ⟨rfl, by decide, by decide⟩ rfl rfl rfl rfl rfl rfl ?_
  refine tc_pfQ (l' := cl21) rfl rfl (by decide) rfl ?_
  refine tv_b (pc' := 78) (ls' := [some (.ref 13), some (.ref 1), some (.ref 7)]) (st' := [.int 401, .ref 13]) (h' := (53, 16137, cK 53 kk, cI 53 cJ3 X, cZ, cQ cl21)) 2 rfl ?_
  refine tc_na (b := 53) (c := 401) (m' := 54) (sl' := 16538) rfl ⟨rfl, by decide, by decide⟩ rfl rfl rfl rfl rfl rfl ?_
  refine tc_pfQ (l' := cl22) rfl rfl (by decide) rfl ?_
  refine tv_b (pc' := 87) (ls' := [some (.ref 13), some (.ref 1), some (.ref 7)]) (st' := [.int 401, .ref 13]) (h' := (54, 16538, cK 54 kk, cI 54 cJ3 X, cZ, cQ cl22)) 2 rfl ?_
  refine tc_na (b := 54) (c := 401) (m' := 55) (sl' := 16939) rfl ⟨rfl, by decide, by decide⟩ rfl rfl rfl rfl rfl rfl ?_
  refine tc_pfQ (l' := cl23) rfl rfl (by decide) rfl ?_
  refine tv_b (pc' := 94) (ls' := [some (.ref 13), some (.ref 1), some (.ref 7)]) (st' := [.ref 1, .ref 13]) (h' := (55, 16939, cK 55 kk, cI 55 cJ3 X, cZ, cQ cl23)) 2 rfl ?_
  refine tc_pfQ (l' := cl24) rfl rfl (by decide) rfl ?_
  refine tv_b (pc' := 99) (ls' := [some (.ref 13), some (.ref 1), some (.ref 7)]) (st' := [.ref 7, .ref 13]) (h' := (55, 16939, cK 55 kk, cI 55 cJ3 X, cZ, cQ cl24)) 2 rfl ?_
  refine tc_pfQ (l' := cl25) rfl rfl (by decide) rfl ?_
  refine tv_b (pc' := 103) (ls' := [some (.ref 13), some (.ref 1), some (.ref 7)]) (st' := [.ref 13]) (h' := (55, 16939, cK 55 kk, cI 55 cJ3 X, cZ, cQ cl25)) 1 rfl ?_
  refine tc_gf (y := 14) rfl rfl (by decide) rfl ?_
  refine tv_b (pc' := 108) (ls' := [some (.ref 13), some (.ref 1), some (.ref 7)]) (st' := [.int 100, .ref 14]) (h' := (55, 16939, cK 55 kk, cI 55 cJ3 X, cZ, cQ cl25)) 1 rfl ?_
  refine tv_csE [.ref 14, .int 100] [] rfl rfl (by omega) rfl (Nat.le_of_ble_eq_true rfl) (Nat.le_of_ble_eq_true rfl) (tc_fillC (c := 16) (J' := cJ4) rfl (by decide) (by decide) rfl) ?_
  exact tv_rv rfl ⟨rfl, rfl⟩
theorem cs_5 (d : Nat) {kk : Nat → Nat × Nat} {X : Nat → Nat → Int32} : am_Ev (d + 1) 4 0 (am_ent 2 [.ref 55, .ref 13]) [] (56, 16944, cK 56 kk, cI 56 cJ4 X, cZ, cQ cl26) (none, (57, 17144, cK 57 kk, cI 57 cJ5 X, cZ, cQ cl28)) := by
  refine tv_ev ?_
  show am_T _ _ 0 [some (.ref 55), some (.ref 13)] _ _ _
  refine tv_b (pc' := 1) (ls' := [some (.ref 55), some (.ref 13)]) (st' := [.ref 55]) (h' := (56, 16944, cK 56 kk, cI 56 cJ4 X, cZ, cQ cl26)) 1 rfl ?_
  refine tc_obj rfl rfl (by decide) ?_
  refine tv_b (pc' := 8) (ls' := [some (.ref 55), some (.ref 13)]) (st' := [.int 200, .ref 55]) (h' := (56, 16944, cK 56 kk, cI 56 cJ4 X, cZ, cQ cl26)) 2 rfl ?_
  refine tc_ana (b := 56) (c := 200) (m' := 57) (sl' := 17144) rfl ⟨rfl, by decide, by decide⟩ rfl rfl rfl rfl rfl rfl ?_
  refine tc_pfQ (l' := cl27) rfl rfl (by decide) rfl ?_
  refine tv_b (pc' := 16) (ls' := [some (.ref 55), some (.ref 13)]) (st' := [.int (-1), .ref 55]) (h' := (57, 17144, cK 57 kk, cI 57 cJ4 X, cZ, cQ cl27)) 2 rfl ?_
  refine tc_pfI (J' := cJ5) rfl (Or.inl rfl) rfl (by decide) rfl ?_
  refine tv_b (pc' := 21) (ls' := [some (.ref 55), some (.ref 13)]) (st' := [.ref 13, .ref 55]) (h' := (57, 17144, cK 57 kk, cI 57 cJ5 X, cZ, cQ cl27)) 2 rfl ?_
  refine tc_pfQ (l' := cl28) rfl rfl (by decide) rfl ?_
  exact tv_rv rfl ⟨rfl, rfl⟩
theorem cs_6 (d : Nat) {kk : Nat → Nat × Nat} {X : Nat → Nat → Int32} : am_Ev (d + 1) 61 0 (am_ent 1 [.ref 57]) [] (58, 17160, cK 58 kk, cI 58 cJ5 X, cZ, cQ cl29) (none, (64, 21964, cK 64 kk, cI 64 cJ6 X, cZ, cQ cl35)) := by
  refine tv_ev ?_
  show am_T _ _ 0 [some (.ref 57)] _ _ _
  refine tv_b (pc' := 1) (ls' := [some (.ref 57)]) (st' := [.ref 57]) (h' := (58, 17160, cK 58 kk, cI 58 cJ5 X, cZ, cQ cl29)) 1 rfl ?_
  refine tc_obj rfl rfl (by decide) ?_
  refine tv_b (pc' := 8) (ls' := [some (.ref 57)]) (st' := [.int 800, .ref 57]) (h' := (58, 17160, cK 58 kk, cI 58 cJ5 X, cZ, cQ cl29)) 2 rfl ?_
  refine tc_na (b := 58) (c := 800) (m' := 59) (sl' := 17960) rfl ⟨rfl, by decide, by decide⟩ rfl rfl rfl rfl rfl rfl ?_
  refine tc_pfQ (l' := cl30) rfl rfl (by decide) rfl ?_
  refine tv_b (pc' := 17) (ls' := [some (.ref 57)]) (st' := [.int 801, .ref 57]) (h' := (59, 17960, cK 59 kk, cI 59 cJ5 X, cZ, cQ cl30)) 2 rfl ?_
  refine tc_na (b := 127) (c := 801) (m' := 60) (sl' := 18761) rfl ⟨rfl, by decide, by decide⟩ rfl rfl rfl rfl rfl rfl ?_
  refine tc_pfQ (l' := cl31) rfl rfl (by decide) rfl ?_
  refine tv_b (pc' := 26) (ls' := [some (.ref 57)]) (st' := [.int 801, .ref 57]) (h' := (60, 18761, cK 60 kk, cI 60 cJ5 X, cZ, cQ cl31)) 2 rfl ?_
  refine tc_na (b := 128) (c := 801) (m' := 61) (sl' := 19562) rfl ⟨rfl, by decide, by decide⟩ rfl rfl rfl rfl rfl rfl ?_
  refine tc_pfQ (l' := cl32) rfl rfl (by decide) rfl ?_
  refine tv_b (pc' := 35) (ls' := [some (.ref 57)]) (st' := [.int 801, .ref 57]) (h' := (61, 19562, cK 61 kk, cI 61 cJ5 X, cZ, cQ cl32)) 2 rfl ?_
  refine tc_na (b := 129) (c := 801) (m' := 62) (sl' := 20363) rfl ⟨rfl, by decide, by decide⟩ rfl rfl rfl rfl rfl rfl ?_
  refine tc_pfQ (l' := cl33) rfl rfl (by decide) rfl ?_
  refine tv_b (pc' := 44) (ls' := [some (.ref 57)]) (st' := [.int 801, .ref 57]) (h' := (62, 20363, cK 62 kk, cI 62 cJ5 X, cZ, cQ cl33)) 2 rfl ?_
  refine tc_na (b := 130) (c := 801) (m' := 63) (sl' := 21164) rfl ⟨rfl, by decide, by decide⟩ rfl rfl rfl rfl rfl rfl ?_
  refine tc_pfQ (l' := cl34) rfl rfl (by decide) rfl ?_
  refine tv_b (pc' := 51) (ls' := [some (.ref 57)]) (st' := [.int (-1), .ref 57]) (h' := (63, 21164, cK 63 kk, cI 63 cJ5 X, cZ, cQ cl34)) 2 rfl ?_
  refine tc_pfI (J' := cJ6) rfl (Or.inl rfl) rfl (by decide) rfl ?_
  refine tv_b (pc' := 58) (ls' := [some (.ref 57)]) (st' := [.int 800, .ref 57]) (h' := (63, 21164, cK 63 kk, cI 63 cJ6 X, cZ, cQ cl34)) 2 rfl ?_
  refine tc_na (b := 59) (c := 800) (m' := 64) (sl' := 21964) rfl ⟨rfl, by decide, by decide⟩ rfl rfl rfl rfl rfl rfl ?_
  refine tc_pfQ (l' := cl35) rfl rfl (by decide) rfl ?_
  exact tv_rv rfl ⟨rfl, rfl⟩
theorem cs_7 (d : Nat) {kk : Nat → Nat × Nat} {X : Nat → Nat → Int32} : am_Ev (d + 1) 47 0 (am_ent 4 [.ref 60, .ref 55, .ref 13, .ref 1]) [] (65, 21976, cK 65 kk, cI 65 cJ6 X, cZ, cQ cl36) (none, (68, 22247, cK 68 kk, cI 68 cJ8 X, cZ, cQ cl42)) := by
  refine tv_ev ?_
  show am_T _ _ 0 [some (.ref 60), some (.ref 55), some (.ref 13), some (.ref 1)] _ _ _
  refine tv_b (pc' := 1) (ls' := [some (.ref 60), some (.ref 55), some (.ref 13), some (.ref 1)]) (st' := [.ref 60]) (h' := (65, 21976, cK 65 kk, cI 65 cJ6 X, cZ, cQ cl36)) 1 rfl ?_
  refine tc_obj rfl rfl (by decide) ?_
  refine tv_b (pc' := 7) (ls' := [some (.ref 60), some (.ref 55), some (.ref 13), some (.ref 1)]) (st' := [.int 7, .ref 60]) (h' := (65, 21976, cK 65 kk, cI 65 cJ6 X, cZ, cQ cl36)) 2 rfl ?_
  refine tc_na (b := 61) (c := 7) (m' := 66) (sl' := 21983) rfl ⟨rfl, by decide, by decide⟩ rfl rfl rfl rfl rfl rfl ?_
  refine tc_pfQ (l' := cl37) rfl rfl (by decide) rfl ?_
  refine tv_b (pc' := 15) (ls' := [some (.ref 60), some (.ref 55), some (.ref 13), some (.ref 1)]) (st' := [.int 64, .ref 60]) (h' := (66, 21983, cK 66 kk, cI 66 cJ6 X, cZ, cQ cl37)) 2 rfl ?_
  refine tc_na (b := 62) (c := 64) (m' := 67) (sl' := 22047) rfl ⟨rfl, by decide, by decide⟩ rfl rfl rfl rfl rfl rfl ?_
  refine tc_pfQ (l' := cl38) rfl rfl (by decide) rfl ?_
  refine tv_b (pc' := 24) (ls' := [some (.ref 60), some (.ref 55), some (.ref 13), some (.ref 1)]) (st' := [.int 200, .ref 60]) (h' := (67, 22047, cK 67 kk, cI 67 cJ6 X, cZ, cQ cl38)) 2 rfl ?_
  refine tc_na (b := 63) (c := 200) (m' := 68) (sl' := 22247) rfl ⟨rfl, by decide, by decide⟩ rfl rfl rfl rfl rfl rfl ?_
  refine tc_pfQ (l' := cl39) rfl rfl (by decide) rfl ?_
  refine tv_b (pc' := 31) (ls' := [some (.ref 60), some (.ref 55), some (.ref 13), some (.ref 1)]) (st' := [.int (-1), .ref 60]) (h' := (68, 22247, cK 68 kk, cI 68 cJ6 X, cZ, cQ cl39)) 2 rfl ?_
  refine tc_pfI (J' := cJ7) rfl (Or.inl rfl) rfl (by decide) rfl ?_
  refine tv_b (pc' := 36) (ls' := [some (.ref 60), some (.ref 55), some (.ref 13), some (.ref 1)]) (st' := [.int (-1), .ref 60]) (h' := (68, 22247, cK 68 kk, cI 68 cJ7 X, cZ, cQ cl39)) 2 rfl ?_
  refine tc_pfI (J' := cJ8) rfl (Or.inl rfl) rfl (by decide) rfl ?_
  refine tv_b (pc' := 41) (ls' := [some (.ref 60), some (.ref 55), some (.ref 13), some (.ref 1)]) (st' := [.ref 55, .ref 60]) (h' := (68, 22247, cK 68 kk, cI 68 cJ8 X, cZ, cQ cl39)) 2 rfl ?_
  refine tc_pfQ (l' := cl40) rfl rfl (by decide) rfl ?_
  refine tv_b (pc' := 46) (ls' := [some (.ref 60), some (.ref 55), some (.ref 13), some (.ref 1)]) (st' := [.ref 13, .ref 60]) (h' := (68, 22247, cK 68 kk, cI 68 cJ8 X, cZ, cQ cl40)) 2 rfl ?_
  refine tc_pfQ (l' := cl41) rfl rfl (by decide) rfl ?_
  refine tv_b (pc' := 51) (ls' := [some (.ref 60), some (.ref 55), some (.ref 13), some (.ref 1)]) (st' := [.ref 1, .ref 60]) (h' := (68, 22247, cK 68 kk, cI 68 cJ8 X, cZ, cQ cl41)) 2 rfl ?_
  refine tc_pfQ (l' := cl42) rfl rfl (by decide) rfl ?_
  exact tv_rv rfl ⟨rfl, rfl⟩
theorem cs_8 (d : Nat) {kk : Nat → Nat × Nat} {X : Nat → Nat → Int32} : am_Ev (d + 1) 40 0 (am_ent 4 [.ref 64, .ref 55, .ref 13, .ref 4]) [] (69, 22261, cK 69 kk, cI 69 cJ8 X, cZ, cQ cl43) (none, (75, 22873, cK 75 kk, cI 75 cJ9 X, cZ, cQ cl52)) := by
  refine tv_ev ?_
  show am_T _ _ 0 [some (.ref 64), some (.ref 55), some (.ref 13), some (.ref 4)] _ _ _
  refine tv_b (pc' := 1) (ls' := [some (.ref 64), some (.ref 55), some (.ref 13), some (.ref 4)]) (st' := [.ref 64]) (h' := (69, 22261, cK 69 kk, cI 69 cJ8 X, cZ, cQ cl43)) 1 rfl ?_
  refine tc_obj rfl rfl (by decide) ?_
  refine tv_b (pc' := 6) (ls' := [some (.ref 64), some (.ref 55), some (.ref 13), some (.ref 4)]) (st' := [.int 4, .ref 64]) (h' := (69, 22261, cK 69 kk, cI 69 cJ8 X, cZ, cQ cl43)) 2 rfl ?_
  refine tc_na (b := 65) (c := 4) (m' := 70) (sl' := 22265) rfl ⟨rfl, by decide, by decide⟩ rfl rfl rfl rfl rfl rfl ?_
  refine tc_pfQ (l' := cl44) rfl rfl (by decide) rfl ?_
  refine tv_b (pc' := 13) (ls' := [some (.ref 64), some (.ref 55), some (.ref 13), some (.ref 4)]) (st' := [.int 4, .ref 64]) (h' := (70, 22265, cK 70 kk, cI 70 cJ8 X, cZ, cQ cl44)) 2 rfl ?_
  refine tc_na (b := 66) (c := 4) (m' := 71) (sl' := 22269) rfl ⟨rfl, by decide, by decide⟩ rfl rfl rfl rfl rfl rfl ?_
  refine tc_pfQ (l' := cl45) rfl rfl (by decide) rfl ?_
  refine tv_b (pc' := 20) (ls' := [some (.ref 64), some (.ref 55), some (.ref 13), some (.ref 4)]) (st' := [.int 4, .ref 64]) (h' := (71, 22269, cK 71 kk, cI 71 cJ8 X, cZ, cQ cl45)) 2 rfl ?_
  refine tc_na (b := 67) (c := 4) (m' := 72) (sl' := 22273) rfl ⟨rfl, by decide, by decide⟩ rfl rfl rfl rfl rfl rfl ?_
  refine tc_pfQ (l' := cl46) rfl rfl (by decide) rfl ?_
  refine tv_b (pc' := 29) (ls' := [some (.ref 64), some (.ref 55), some (.ref 13), some (.ref 4)]) (st' := [.int 200, .ref 64]) (h' := (72, 22273, cK 72 kk, cI 72 cJ8 X, cZ, cQ cl46)) 2 rfl ?_
  refine tc_na (b := 68) (c := 200) (m' := 73) (sl' := 22473) rfl ⟨rfl, by decide, by decide⟩ rfl rfl rfl rfl rfl rfl ?_
  refine tc_pfQ (l' := cl47) rfl rfl (by decide) rfl ?_
  refine tv_b (pc' := 38) (ls' := [some (.ref 64), some (.ref 55), some (.ref 13), some (.ref 4)]) (st' := [.int 200, .ref 64]) (h' := (73, 22473, cK 73 kk, cI 73 cJ8 X, cZ, cQ cl47)) 2 rfl ?_
  refine tc_na (b := 69) (c := 200) (m' := 74) (sl' := 22673) rfl ⟨rfl, by decide, by decide⟩ rfl rfl rfl rfl rfl rfl ?_
  refine tc_pfQ (l' := cl48) rfl rfl (by decide) rfl ?_
  refine tv_b (pc' := 47) (ls' := [some (.ref 64), some (.ref 55), some (.ref 13), some (.ref 4)]) (st' := [.int 200, .ref 64]) (h' := (74, 22673, cK 74 kk, cI 74 cJ8 X, cZ, cQ cl48)) 2 rfl ?_
  refine tc_na (b := 70) (c := 200) (m' := 75) (sl' := 22873) rfl ⟨rfl, by decide, by decide⟩ rfl rfl rfl rfl rfl rfl ?_
  refine tc_pfQ (l' := cl49) rfl rfl (by decide) rfl ?_
  refine tv_b (pc' := 54) (ls' := [some (.ref 64), some (.ref 55), some (.ref 13), some (.ref 4)]) (st' := [.ref 55, .ref 64]) (h' := (75, 22873, cK 75 kk, cI 75 cJ8 X, cZ, cQ cl49)) 2 rfl ?_
  refine tc_pfQ (l' := cl50) rfl rfl (by decide) rfl ?_
  refine tv_b (pc' := 59) (ls' := [some (.ref 64), some (.ref 55), some (.ref 13), some (.ref 4)]) (st' := [.ref 13, .ref 64]) (h' := (75, 22873, cK 75 kk, cI 75 cJ8 X, cZ, cQ cl50)) 2 rfl ?_
  refine tc_pfQ (l' := cl51) rfl rfl (by decide) rfl ?_
  refine tv_b (pc' := 64) (ls' := [some (.ref 64), some (.ref 55), some (.ref 13), some (.ref 4)]) (st' := [.ref 4, .ref 64]) (h' := (75, 22873, cK 75 kk, cI 75 cJ8 X, cZ, cQ cl51)) 2 rfl ?_
  refine tc_pfQ (l' := cl52) rfl rfl (by decide) rfl ?_
  refine tv_b (pc' := 68) (ls' := [some (.ref 64), some (.ref 55), some (.ref 13), some (.ref 4)]) (st' := [.ref 64]) (h' := (75, 22873, cK 75 kk, cI 75 cJ8 X, cZ, cQ cl52)) 1 rfl ?_
  refine tc_gf (y := 67) rfl rfl (by decide) rfl ?_
  refine tv_b (pc' := 74) (ls' := [some (.ref 64), some (.ref 55), some (.ref 13), some (.ref 4)]) (st' := [.int 1000, .ref 67]) (h' := (75, 22873, cK 75 kk, cI 75 cJ8 X, cZ, cQ cl52)) 1 rfl ?_
  refine tv_csE [.ref 67, .int 1000] [] rfl rfl (by omega) rfl (Nat.le_of_ble_eq_true rfl) (Nat.le_of_ble_eq_true rfl) (tc_fillC (c := 4) (J' := cJ9) rfl (by decide) (by decide) rfl) ?_
  exact tv_rv rfl ⟨rfl, rfl⟩
theorem cs_9 (d : Nat) {kk : Nat → Nat × Nat} {X : Nat → Nat → Int32} : am_Ev (d + 1) 91 0 (am_ent 2 [.ref 71, .ref 13]) [] (76, 22885, cK 76 kk, cI 76 cJ9 X, cZ, cQ cl53) (none, (81, 27003, cK 81 kk, cI 81 cJ9 X, cZ, cQ cl59)) := by
  refine tv_ev ?_
  show am_T _ _ 0 [some (.ref 71), some (.ref 13)] _ _ _
  refine tv_b (pc' := 1) (ls' := [some (.ref 71), some (.ref 13)]) (st' := [.ref 71]) (h' := (76, 22885, cK 76 kk, cI 76 cJ9 X, cZ, cQ cl53)) 1 rfl ?_
  refine tc_obj rfl rfl (by decide) ?_
  refine tv_b (pc' := 6) (ls' := [some (.ref 71), some (.ref 13)]) (st' := [.int 3, .ref 71]) (h' := (76, 22885, cK 76 kk, cI 76 cJ9 X, cZ, cQ cl53)) 2 rfl ?_
  refine tc_na (b := 72) (c := 3) (m' := 77) (sl' := 22888) rfl ⟨rfl, by decide, by decide⟩ rfl rfl rfl rfl rfl rfl ?_
  refine tc_pfQ (l' := cl54) rfl rfl (by decide) rfl ?_
  refine tv_b (pc' := 13) (ls' := [some (.ref 71), some (.ref 13)]) (st' := [.int 3, .ref 71]) (h' := (77, 22888, cK 77 kk, cI 77 cJ9 X, cZ, cQ cl54)) 2 rfl ?_
  refine tc_na (b := 73) (c := 3) (m' := 78) (sl' := 22891) rfl ⟨rfl, by decide, by decide⟩ rfl rfl rfl rfl rfl rfl ?_
  refine tc_pfQ (l' := cl55) rfl rfl (by decide) rfl ?_
  refine tv_b (pc' := 21) (ls' := [some (.ref 71), some (.ref 13)]) (st' := [.int 8, .ref 71]) (h' := (78, 22891, cK 78 kk, cI 78 cJ9 X, cZ, cQ cl55)) 2 rfl ?_
  refine tc_na (b := 74) (c := 8) (m' := 79) (sl' := 22899) rfl ⟨rfl, by decide, by decide⟩ rfl rfl rfl rfl rfl rfl ?_
  refine tc_pfQ (l' := cl56) rfl rfl (by decide) rfl ?_
  refine tv_b (pc' := 29) (ls' := [some (.ref 71), some (.ref 13)]) (st' := [.int 8, .ref 71]) (h' := (79, 22899, cK 79 kk, cI 79 cJ9 X, cZ, cQ cl56)) 2 rfl ?_
  refine tc_na (b := 75) (c := 8) (m' := 80) (sl' := 22907) rfl ⟨rfl, by decide, by decide⟩ rfl rfl rfl rfl rfl rfl ?_
  refine tc_pfQ (l' := cl57) rfl rfl (by decide) rfl ?_
  refine tv_b (pc' := 38) (ls' := [some (.ref 71), some (.ref 13)]) (st' := [.int 4096, .ref 71]) (h' := (80, 22907, cK 80 kk, cI 80 cJ9 X, cZ, cQ cl57)) 2 rfl ?_
  refine tc_na (b := 76) (c := 4096) (m' := 81) (sl' := 27003) rfl ⟨rfl, by decide, by decide⟩ rfl rfl rfl rfl rfl rfl ?_
  refine tc_pfQ (l' := cl58) rfl rfl (by decide) rfl ?_
  refine tv_b (pc' := 45) (ls' := [some (.ref 71), some (.ref 13)]) (st' := [.ref 13, .ref 71]) (h' := (81, 27003, cK 81 kk, cI 81 cJ9 X, cZ, cQ cl58)) 2 rfl ?_
  refine tc_pfQ (l' := cl59) rfl rfl (by decide) rfl ?_
  exact tv_rv rfl ⟨rfl, rfl⟩
theorem cs_10 (d : Nat) {kk : Nat → Nat × Nat} {X : Nat → Nat → Int32} : am_Ev (d + 1) 15 0 (am_ent 1 [.ref 77]) [] (82, 27009, cK 82 kk, cI 82 cJ9 X, cZ, cQ cl60) (none, (84, 29057, cK 84 kk, cI 84 cJ9 X, cZ, cQ cl62)) := by
  refine tv_ev ?_
  show am_T _ _ 0 [some (.ref 77)] _ _ _
  refine tv_b (pc' := 1) (ls' := [some (.ref 77)]) (st' := [.ref 77]) (h' := (82, 27009, cK 82 kk, cI 82 cJ9 X, cZ, cQ cl60)) 1 rfl ?_
  refine tc_obj rfl rfl (by decide) ?_
  refine tv_b (pc' := 8) (ls' := [some (.ref 77)]) (st' := [.int 1024, .ref 77]) (h' := (82, 27009, cK 82 kk, cI 82 cJ9 X, cZ, cQ cl60)) 2 rfl ?_
  refine tc_na (b := 78) (c := 1024) (m' := 83) (sl' := 28033) rfl ⟨rfl, by decide, by decide⟩ rfl rfl rfl rfl rfl rfl ?_
  refine tc_pfQ (l' := cl61) rfl rfl (by decide) rfl ?_
  refine tv_b (pc' := 17) (ls' := [some (.ref 77)]) (st' := [.int 1024, .ref 77]) (h' := (83, 28033, cK 83 kk, cI 83 cJ9 X, cZ, cQ cl61)) 2 rfl ?_
  refine tc_na (b := 79) (c := 1024) (m' := 84) (sl' := 29057) rfl ⟨rfl, by decide, by decide⟩ rfl rfl rfl rfl rfl rfl ?_
  refine tc_pfQ (l' := cl62) rfl rfl (by decide) rfl ?_
  exact tv_rv rfl ⟨rfl, rfl⟩
theorem cs_11 (d : Nat) {kk : Nat → Nat × Nat} {X : Nat → Nat → Int32} : am_Ev (d + 2) 108 0 (am_ent 1 [.ref 0]) [] (1, 10, cK 1 kk, cI 1 cJ0 X, cZ, cQ cl0) (none, (84, 29057, cK 84 kk, cI 84 cJ9 X, cZ, cQ cl63)) := by
  refine tv_ev ?_
  show am_T _ _ 0 [some (.ref 0)] _ _ _
  refine tv_b (pc' := 1) (ls' := [some (.ref 0)]) (st' := [.ref 0]) (h' := (1, 10, cK 1 kk, cI 1 cJ0 X, cZ, cQ cl0)) 1 rfl ?_
  refine tc_obj rfl rfl (by decide) ?_
  refine tv_b (pc' := 5) (ls' := [some (.ref 0)]) (st' := [.ref 0]) (h' := (1, 10, cK 1 kk, cI 1 cJ0 X, cZ, cQ cl0)) 1 rfl ?_
  refine tc_new (b := 1) (m' := 2) (sl' := 12) rfl rfl rfl rfl rfl rfl rfl ?_
  refine tv_b (pc' := 11) (ls' := [some (.ref 0)]) (st' := [.int 50, .ref 1, .ref 1, .ref 0]) (h' := (2, 12, cK 2 kk, cI 2 cJ0 X, cZ, cQ cl0)) 2 rfl ?_
  refine tv_cvE [.int 50] [.ref 1, .ref 0] rfl rfl (by omega) rfl (Nat.le_of_ble_eq_true rfl) (Nat.le_of_ble_eq_true rfl) (Or.inl rfl) (cs_1 _) ?_
  refine tc_pfQ (l' := cl3) rfl rfl (by decide) rfl ?_
  refine tv_b (pc' := 18) (ls' := [some (.ref 0)]) (st' := [.ref 0]) (h' := (4, 812, cK 4 kk, cI 4 cJ1 X, cZ, cQ cl3)) 1 rfl ?_
  refine tc_new (b := 4) (m' := 5) (sl' := 814) rfl rfl rfl rfl rfl rfl rfl ?_
  refine tv_b (pc' := 23) (ls' := [some (.ref 0)]) (st' := [.int 0, .ref 4, .ref 4, .ref 0]) (h' := (5, 814, cK 5 kk, cI 5 cJ1 X, cZ, cQ cl3)) 2 rfl ?_
  refine tv_cvE [.int 0] [.ref 4, .ref 0] rfl rfl (by omega) rfl (Nat.le_of_ble_eq_true rfl) (Nat.le_of_ble_eq_true rfl) (Or.inl rfl) (cs_2 _) ?_
  refine tc_pfQ (l' := cl6) rfl rfl (by decide) rfl ?_
  refine tv_b (pc' := 30) (ls' := [some (.ref 0)]) (st' := [.ref 0]) (h' := (7, 1614, cK 7 kk, cI 7 cJ1 X, cZ, cQ cl6)) 1 rfl ?_
  refine tc_new (b := 7) (m' := 8) (sl' := 1619) rfl rfl rfl rfl rfl rfl rfl ?_
  refine tv_b (pc' := 34) (ls' := [some (.ref 0)]) (st' := [.ref 7, .ref 7, .ref 0]) (h' := (8, 1619, cK 8 kk, cI 8 cJ1 X, cZ, cQ cl6)) 1 rfl ?_
  refine tv_cvE [] [.ref 7, .ref 0] rfl rfl (by omega) rfl (Nat.le_of_ble_eq_true rfl) (Nat.le_of_ble_eq_true rfl) (Or.inl rfl) (cs_3 _) ?_
  refine tc_pfQ (l' := cl12) rfl rfl (by decide) rfl ?_
  refine tv_b (pc' := 41) (ls' := [some (.ref 0)]) (st' := [.ref 0]) (h' := (13, 1659, cK 13 kk, cI 13 cJ3 X, cZ, cQ cl12)) 1 rfl ?_
  refine tc_new (b := 13) (m' := 14) (sl' := 1672) rfl rfl rfl rfl rfl rfl rfl ?_
  refine tv_b (pc' := 46) (ls' := [some (.ref 0)]) (st' := [.ref 0, .ref 13, .ref 13, .ref 0]) (h' := (14, 1672, cK 14 kk, cI 14 cJ3 X, cZ, cQ cl12)) 2 rfl ?_
  refine tc_gf (y := 1) rfl rfl (by decide) rfl ?_
  refine tv_b (pc' := 50) (ls' := [some (.ref 0)]) (st' := [.ref 0, .ref 1, .ref 13, .ref 13, .ref 0]) (h' := (14, 1672, cK 14 kk, cI 14 cJ3 X, cZ, cQ cl12)) 1 rfl ?_
  refine tc_gf (y := 7) rfl rfl (by decide) rfl ?_
  refine tv_cvE [.ref 1, .ref 7] [.ref 13, .ref 0] rfl rfl (by omega) rfl (Nat.le_of_ble_eq_true rfl) (Nat.le_of_ble_eq_true rfl) (Or.inl rfl) (cs_4 _) ?_
  refine tc_pfQ (l' := cl26) rfl rfl (by decide) rfl ?_
  refine tv_b (pc' := 60) (ls' := [some (.ref 0)]) (st' := [.ref 0]) (h' := (55, 16939, cK 55 kk, cI 55 cJ4 X, cZ, cQ cl26)) 1 rfl ?_
  refine tc_new (b := 55) (m' := 56) (sl' := 16944) rfl rfl rfl rfl rfl rfl rfl ?_
  refine tv_b (pc' := 65) (ls' := [some (.ref 0)]) (st' := [.ref 0, .ref 55, .ref 55, .ref 0]) (h' := (56, 16944, cK 56 kk, cI 56 cJ4 X, cZ, cQ cl26)) 2 rfl ?_
  refine tc_gf (y := 13) rfl rfl (by decide) rfl ?_
  refine tv_cvE [.ref 13] [.ref 55, .ref 0] rfl rfl (by omega) rfl (Nat.le_of_ble_eq_true rfl) (Nat.le_of_ble_eq_true rfl) (Or.inl rfl) (cs_5 _) ?_
  refine tc_pfQ (l' := cl29) rfl rfl (by decide) rfl ?_
  refine tv_b (pc' := 75) (ls' := [some (.ref 0)]) (st' := [.ref 0]) (h' := (57, 17144, cK 57 kk, cI 57 cJ5 X, cZ, cQ cl29)) 1 rfl ?_
  refine tc_new (b := 57) (m' := 58) (sl' := 17160) rfl rfl rfl rfl rfl rfl rfl ?_
  refine tv_b (pc' := 79) (ls' := [some (.ref 0)]) (st' := [.ref 57, .ref 57, .ref 0]) (h' := (58, 17160, cK 58 kk, cI 58 cJ5 X, cZ, cQ cl29)) 1 rfl ?_
  refine tv_cvE [] [.ref 57, .ref 0] rfl rfl (by omega) rfl (Nat.le_of_ble_eq_true rfl) (Nat.le_of_ble_eq_true rfl) (Or.inr (Or.inl rfl)) (cs_6 _) ?_
  refine tc_pfQ (l' := cl36) rfl rfl (by decide) rfl ?_
  refine tv_b (pc' := 86) (ls' := [some (.ref 0)]) (st' := [.ref 0]) (h' := (64, 21964, cK 64 kk, cI 64 cJ6 X, cZ, cQ cl36)) 1 rfl ?_
  refine tc_new (b := 60) (m' := 65) (sl' := 21976) rfl rfl rfl rfl rfl rfl rfl ?_
  refine tv_b (pc' := 91) (ls' := [some (.ref 0)]) (st' := [.ref 0, .ref 60, .ref 60, .ref 0]) (h' := (65, 21976, cK 65 kk, cI 65 cJ6 X, cZ, cQ cl36)) 2 rfl ?_
  refine tc_gf (y := 55) rfl rfl (by decide) rfl ?_
  refine tv_b (pc' := 95) (ls' := [some (.ref 0)]) (st' := [.ref 0, .ref 55, .ref 60, .ref 60, .ref 0]) (h' := (65, 21976, cK 65 kk, cI 65 cJ6 X, cZ, cQ cl36)) 1 rfl ?_
  refine tc_gf (y := 13) rfl rfl (by decide) rfl ?_
  refine tv_b (pc' := 99) (ls' := [some (.ref 0)]) (st' := [.ref 0, .ref 13, .ref 55, .ref 60, .ref 60, .ref 0]) (h' := (65, 21976, cK 65 kk, cI 65 cJ6 X, cZ, cQ cl36)) 1 rfl ?_
  refine tc_gf (y := 1) rfl rfl (by decide) rfl ?_
  refine tv_cvE [.ref 55, .ref 13, .ref 1] [.ref 60, .ref 0] rfl rfl (by omega) rfl (Nat.le_of_ble_eq_true rfl) (Nat.le_of_ble_eq_true rfl) (Or.inl rfl) (cs_7 _) ?_
  refine tc_pfQ (l' := cl43) rfl rfl (by decide) rfl ?_
  refine tv_b (pc' := 109) (ls' := [some (.ref 0)]) (st' := [.ref 0]) (h' := (68, 22247, cK 68 kk, cI 68 cJ8 X, cZ, cQ cl43)) 1 rfl ?_
  refine tc_new (b := 64) (m' := 69) (sl' := 22261) rfl rfl rfl rfl rfl rfl rfl ?_
  refine tv_b (pc' := 114) (ls' := [some (.ref 0)]) (st' := [.ref 0, .ref 64, .ref 64, .ref 0]) (h' := (69, 22261, cK 69 kk, cI 69 cJ8 X, cZ, cQ cl43)) 2 rfl ?_
  refine tc_gf (y := 55) rfl rfl (by decide) rfl ?_
  refine tv_b (pc' := 118) (ls' := [some (.ref 0)]) (st' := [.ref 0, .ref 55, .ref 64, .ref 64, .ref 0]) (h' := (69, 22261, cK 69 kk, cI 69 cJ8 X, cZ, cQ cl43)) 1 rfl ?_
  refine tc_gf (y := 13) rfl rfl (by decide) rfl ?_
  refine tv_b (pc' := 122) (ls' := [some (.ref 0)]) (st' := [.ref 0, .ref 13, .ref 55, .ref 64, .ref 64, .ref 0]) (h' := (69, 22261, cK 69 kk, cI 69 cJ8 X, cZ, cQ cl43)) 1 rfl ?_
  refine tc_gf (y := 4) rfl rfl (by decide) rfl ?_
  refine tv_cvE [.ref 55, .ref 13, .ref 4] [.ref 64, .ref 0] rfl rfl (by omega) rfl (Nat.le_of_ble_eq_true rfl) (Nat.le_of_ble_eq_true rfl) (Or.inl rfl) (cs_8 _) ?_
  refine tc_pfQ (l' := cl53) rfl rfl (by decide) rfl ?_
  refine tv_b (pc' := 132) (ls' := [some (.ref 0)]) (st' := [.ref 0]) (h' := (75, 22873, cK 75 kk, cI 75 cJ9 X, cZ, cQ cl53)) 1 rfl ?_
  refine tc_new (b := 71) (m' := 76) (sl' := 22885) rfl rfl rfl rfl rfl rfl rfl ?_
  refine tv_b (pc' := 137) (ls' := [some (.ref 0)]) (st' := [.ref 0, .ref 71, .ref 71, .ref 0]) (h' := (76, 22885, cK 76 kk, cI 76 cJ9 X, cZ, cQ cl53)) 2 rfl ?_
  refine tc_gf (y := 13) rfl rfl (by decide) rfl ?_
  refine tv_cvE [.ref 13] [.ref 71, .ref 0] rfl rfl (by omega) rfl (Nat.le_of_ble_eq_true rfl) (Nat.le_of_ble_eq_true rfl) (Or.inl rfl) (cs_9 _) ?_
  refine tc_pfQ (l' := cl60) rfl rfl (by decide) rfl ?_
  refine tv_b (pc' := 147) (ls' := [some (.ref 0)]) (st' := [.ref 0]) (h' := (81, 27003, cK 81 kk, cI 81 cJ9 X, cZ, cQ cl60)) 1 rfl ?_
  refine tc_new (b := 77) (m' := 82) (sl' := 27009) rfl rfl rfl rfl rfl rfl rfl ?_
  refine tv_b (pc' := 151) (ls' := [some (.ref 0)]) (st' := [.ref 77, .ref 77, .ref 0]) (h' := (82, 27009, cK 82 kk, cI 82 cJ9 X, cZ, cQ cl60)) 1 rfl ?_
  refine tv_cvE [] [.ref 77, .ref 0] rfl rfl (by omega) rfl (Nat.le_of_ble_eq_true rfl) (Nat.le_of_ble_eq_true rfl) (Or.inr (Or.inl rfl)) (cs_10 _) ?_
  refine tc_pfQ (l' := cl63) rfl rfl (by decide) rfl ?_
  exact tv_rv rfl ⟨rfl, rfl⟩
theorem cs_12 (d : Nat) {kk : Nat → Nat × Nat} {X : Nat → Nat → Int32} : am_Ev (d + 2) 154 0 (am_ent 2 [.ref 80]) [] (85, 29133, cK 85 kk, cI 85 cJ9 X, cZ, cQ cl63) (none, (131, 231806, cK 131 kk, cI 131 cJ50 X, cZ, cQ cl109)) := by
  refine tv_ev ?_
  show am_T _ _ 0 [some (.ref 80), none] _ _ _
  refine tv_b (pc' := 1) (ls' := [some (.ref 80), none]) (st' := [.ref 80]) (h' := (85, 29133, cK 85 kk, cI 85 cJ9 X, cZ, cQ cl63)) 1 rfl ?_
  refine tc_obj rfl rfl (by decide) ?_
  refine tv_b (pc' := 8) (ls' := [some (.ref 80), none]) (st' := [.int 800, .ref 80]) (h' := (85, 29133, cK 85 kk, cI 85 cJ9 X, cZ, cQ cl63)) 2 rfl ?_
  refine tc_na (b := 81) (c := 800) (m' := 86) (sl' := 29933) rfl ⟨rfl, by decide, by decide⟩ rfl rfl rfl rfl rfl rfl ?_
  refine tc_pfQ (l' := cl64) rfl rfl (by decide) rfl ?_
  refine tv_b (pc' := 15) (ls' := [some (.ref 80), none]) (st' := [.int 0, .ref 80]) (h' := (86, 29933, cK 86 kk, cI 86 cJ9 X, cZ, cQ cl64)) 2 rfl ?_
  refine tc_pfI (J' := cJ9) rfl (Or.inl rfl) rfl (by decide) (cz0 rfl) ?_
  refine tv_b (pc' := 20) (ls' := [some (.ref 80), none]) (st' := [.int 0, .ref 80]) (h' := (86, 29933, cK 86 kk, cI 86 cJ9 X, cZ, cQ cl64)) 2 rfl ?_
  refine tc_pfI (J' := cJ9) rfl (Or.inl rfl) rfl (by decide) (cz0 rfl) ?_
  refine tv_b (pc' := 25) (ls' := [some (.ref 80), none]) (st' := [.int 0, .ref 80]) (h' := (86, 29933, cK 86 kk, cI 86 cJ9 X, cZ, cQ cl64)) 2 rfl ?_
  refine tc_pfI (J' := cJ9) rfl (Or.inl rfl) rfl (by decide) (cz0 rfl) ?_
  refine tv_b (pc' := 30) (ls' := [some (.ref 80), none]) (st' := [.int 0, .ref 80]) (h' := (86, 29933, cK 86 kk, cI 86 cJ9 X, cZ, cQ cl64)) 2 rfl ?_
  refine tc_pfI (J' := cJ9) rfl (Or.inl rfl) rfl (by decide) (cz0 rfl) ?_
  refine tv_b (pc' := 35) (ls' := [some (.ref 80), none]) (st' := [.int 0, .ref 80]) (h' := (86, 29933, cK 86 kk, cI 86 cJ9 X, cZ, cQ cl64)) 2 rfl ?_
  refine tc_pfI (J' := cJ9) rfl (Or.inl rfl) rfl (by decide) (cz0 rfl) ?_
  refine tv_b (pc' := 40) (ls' := [some (.ref 80), none]) (st' := [.int 0, .ref 80]) (h' := (86, 29933, cK 86 kk, cI 86 cJ9 X, cZ, cQ cl64)) 2 rfl ?_
  refine tc_pfI (J' := cJ9) rfl (Or.inl rfl) rfl (by decide) (cz0 rfl) ?_
  refine tv_b (pc' := 45) (ls' := [some (.ref 80), none]) (st' := [.long 0, .ref 80]) (h' := (86, 29933, cK 86 kk, cI 86 cJ9 X, cZ, cQ cl64)) 2 rfl ?_
  refine tc_pfL rfl rfl (by decide) ?_
  refine tv_b (pc' := 50) (ls' := [some (.ref 80), none]) (st' := [.int 0, .ref 80]) (h' := (86, 29933, cK 86 kk, cI 86 cJ9 X, cZ, cQ cl64)) 2 rfl ?_
  refine tc_pfI (J' := cJ9) rfl (Or.inl rfl) rfl (by decide) (cz0 rfl) ?_
  refine tv_b (pc' := 55) (ls' := [some (.ref 80), none]) (st' := [.int (-1), .ref 80]) (h' := (86, 29933, cK 86 kk, cI 86 cJ9 X, cZ, cQ cl64)) 2 rfl ?_
  refine tc_pfI (J' := cJ10) rfl (Or.inl rfl) rfl (by decide) rfl ?_
  refine tv_b (pc' := 60) (ls' := [some (.ref 80), none]) (st' := [.int 0, .ref 80]) (h' := (86, 29933, cK 86 kk, cI 86 cJ10 X, cZ, cQ cl64)) 2 rfl ?_
  refine tc_pfI (J' := cJ10) rfl (Or.inl rfl) rfl (by decide) (cz0 rfl) ?_
  refine tv_b (pc' := 65) (ls' := [some (.ref 80), none]) (st' := [.int (-1), .ref 80]) (h' := (86, 29933, cK 86 kk, cI 86 cJ10 X, cZ, cQ cl64)) 2 rfl ?_
  refine tc_pfI (J' := cJ11) rfl (Or.inl rfl) rfl (by decide) rfl ?_
  refine tv_b (pc' := 70) (ls' := [some (.ref 80), none]) (st' := [.int (-1), .ref 80]) (h' := (86, 29933, cK 86 kk, cI 86 cJ11 X, cZ, cQ cl64)) 2 rfl ?_
  refine tc_pfI (J' := cJ12) rfl (Or.inl rfl) rfl (by decide) rfl ?_
  refine tv_b (pc' := 75) (ls' := [some (.ref 80), none]) (st' := [.int 0, .ref 80]) (h' := (86, 29933, cK 86 kk, cI 86 cJ12 X, cZ, cQ cl64)) 2 rfl ?_
  refine tc_pfI (J' := cJ12) rfl (Or.inr ⟨rfl, Or.inl rfl⟩) rfl (by decide) (cz0 rfl) ?_
  refine tv_b (pc' := 80) (ls' := [some (.ref 80), none]) (st' := [.int 0, .ref 80]) (h' := (86, 29933, cK 86 kk, cI 86 cJ12 X, cZ, cQ cl64)) 2 rfl ?_
  refine tc_pfI (J' := cJ12) rfl (Or.inl rfl) rfl (by decide) (cz0 rfl) ?_
  refine tv_b (pc' := 87) (ls' := [some (.ref 80), none]) (st' := [.int 201, .ref 80]) (h' := (86, 29933, cK 86 kk, cI 86 cJ12 X, cZ, cQ cl64)) 2 rfl ?_
  refine tc_na (b := 82) (c := 201) (m' := 87) (sl' := 30134) rfl ⟨rfl, by decide, by decide⟩ rfl rfl rfl rfl rfl rfl ?_
  refine tc_pfQ (l' := cl65) rfl rfl (by decide) rfl ?_
  refine tv_b (pc' := 96) (ls' := [some (.ref 80), none]) (st' := [.int 4020, .ref 80]) (h' := (87, 30134, cK 87 kk, cI 87 cJ12 X, cZ, cQ cl65)) 2 rfl ?_
  refine tc_na (b := 83) (c := 4020) (m' := 88) (sl' := 34154) rfl ⟨rfl, by decide, by decide⟩ rfl rfl rfl rfl rfl rfl ?_
  refine tc_pfQ (l' := cl66) rfl rfl (by decide) rfl ?_
  refine tv_b (pc' := 105) (ls' := [some (.ref 80), none]) (st' := [.int 4020, .ref 80]) (h' := (88, 34154, cK 88 kk, cI 88 cJ12 X, cZ, cQ cl66)) 2 rfl ?_
  refine tc_na (b := 84) (c := 4020) (m' := 89) (sl' := 38174) rfl ⟨rfl, by decide, by decide⟩ rfl rfl rfl rfl rfl rfl ?_
  refine tc_pfQ (l' := cl67) rfl rfl (by decide) rfl ?_
  refine tv_b (pc' := 114) (ls' := [some (.ref 80), none]) (st' := [.int 4020, .ref 80]) (h' := (89, 38174, cK 89 kk, cI 89 cJ12 X, cZ, cQ cl67)) 2 rfl ?_
  refine tc_na (b := 85) (c := 4020) (m' := 90) (sl' := 42194) rfl ⟨rfl, by decide, by decide⟩ rfl rfl rfl rfl rfl rfl ?_
  refine tc_pfQ (l' := cl68) rfl rfl (by decide) rfl ?_
  refine tv_b (pc' := 123) (ls' := [some (.ref 80), none]) (st' := [.int 4020, .ref 80]) (h' := (90, 42194, cK 90 kk, cI 90 cJ12 X, cZ, cQ cl68)) 2 rfl ?_
  refine tc_na (b := 86) (c := 4020) (m' := 91) (sl' := 46214) rfl ⟨rfl, by decide, by decide⟩ rfl rfl rfl rfl rfl rfl ?_
  refine tc_pfQ (l' := cl69) rfl rfl (by decide) rfl ?_
  refine tv_b (pc' := 131) (ls' := [some (.ref 80), none]) (st' := [.int 160800, .ref 80]) (h' := (91, 46214, cK 91 kk, cI 91 cJ12 X, cZ, cQ cl69)) 2 rfl ?_
  refine tc_na (b := 87) (c := 160800) (m' := 92) (sl' := 207014) rfl ⟨rfl, by decide, by decide⟩ rfl rfl rfl rfl rfl rfl ?_
  refine tc_pfQ (l' := cl70) rfl rfl (by decide) rfl ?_
  refine tv_b (pc' := 138) (ls' := [some (.ref 80), none]) (st' := [.int 0, .ref 80]) (h' := (92, 207014, cK 92 kk, cI 92 cJ12 X, cZ, cQ cl70)) 2 rfl ?_
  refine tc_pfI (J' := cJ12) rfl (Or.inl rfl) rfl (by decide) (cz0 rfl) ?_
  refine tv_b (pc' := 144) (ls' := [some (.ref 80), none]) (st' := [.int 20, .ref 80]) (h' := (92, 207014, cK 92 kk, cI 92 cJ12 X, cZ, cQ cl70)) 2 rfl ?_
  refine tc_na (b := 88) (c := 20) (m' := 93) (sl' := 207034) rfl ⟨rfl, by decide, by decide⟩ rfl rfl rfl rfl rfl rfl ?_
  refine tc_pfQ (l' := cl71) rfl rfl (by decide) rfl ?_
  refine tv_b (pc' := 152) (ls' := [some (.ref 80), none]) (st' := [.int 20, .ref 80]) (h' := (93, 207034, cK 93 kk, cI 93 cJ12 X, cZ, cQ cl71)) 2 rfl ?_
  refine tc_na (b := 89) (c := 20) (m' := 94) (sl' := 207054) rfl ⟨rfl, by decide, by decide⟩ rfl rfl rfl rfl rfl rfl ?_
  refine tc_pfQ (l' := cl72) rfl rfl (by decide) rfl ?_
  refine tv_b (pc' := 160) (ls' := [some (.ref 80), none]) (st' := [.int 20, .ref 80]) (h' := (94, 207054, cK 94 kk, cI 94 cJ12 X, cZ, cQ cl72)) 2 rfl ?_
  refine tc_na (b := 90) (c := 20) (m' := 95) (sl' := 207074) rfl ⟨rfl, by decide, by decide⟩ rfl rfl rfl rfl rfl rfl ?_
  refine tc_pfQ (l' := cl73) rfl rfl (by decide) rfl ?_
  refine tv_b (pc' := 168) (ls' := [some (.ref 80), none]) (st' := [.int 20, .ref 80]) (h' := (95, 207074, cK 95 kk, cI 95 cJ12 X, cZ, cQ cl73)) 2 rfl ?_
  refine tc_na (b := 91) (c := 20) (m' := 96) (sl' := 207094) rfl ⟨rfl, by decide, by decide⟩ rfl rfl rfl rfl rfl rfl ?_
  refine tc_pfQ (l' := cl74) rfl rfl (by decide) rfl ?_
  refine tv_b (pc' := 176) (ls' := [some (.ref 80), none]) (st' := [.int 20, .ref 80]) (h' := (96, 207094, cK 96 kk, cI 96 cJ12 X, cZ, cQ cl74)) 2 rfl ?_
  refine tc_na (b := 92) (c := 20) (m' := 97) (sl' := 207114) rfl ⟨rfl, by decide, by decide⟩ rfl rfl rfl rfl rfl rfl ?_
  refine tc_pfQ (l' := cl75) rfl rfl (by decide) rfl ?_
  refine tv_b (pc' := 183) (ls' := [some (.ref 80), none]) (st' := [.int 0, .ref 80]) (h' := (97, 207114, cK 97 kk, cI 97 cJ12 X, cZ, cQ cl75)) 2 rfl ?_
  refine tc_pfI (J' := cJ12) rfl (Or.inl rfl) rfl (by decide) (cz0 rfl) ?_
  refine tv_b (pc' := 188) (ls' := [some (.ref 80), none]) (st' := [.int 0, .ref 80]) (h' := (97, 207114, cK 97 kk, cI 97 cJ12 X, cZ, cQ cl75)) 2 rfl ?_
  refine tc_pfI (J' := cJ12) rfl (Or.inl rfl) rfl (by decide) (cz0 rfl) ?_
  refine tv_b (pc' := 195) (ls' := [some (.ref 80), none]) (st' := [.int 500, .ref 80]) (h' := (97, 207114, cK 97 kk, cI 97 cJ12 X, cZ, cQ cl75)) 2 rfl ?_
  refine tc_na (b := 93) (c := 500) (m' := 98) (sl' := 207614) rfl ⟨rfl, by decide, by decide⟩ rfl rfl rfl rfl rfl rfl ?_
  refine tc_pfQ (l' := cl76) rfl rfl (by decide) rfl ?_
  refine tv_b (pc' := 202) (ls' := [some (.ref 80), none]) (st' := [.int 0, .ref 80]) (h' := (98, 207614, cK 98 kk, cI 98 cJ12 X, cZ, cQ cl76)) 2 rfl ?_
  refine tc_pfI (J' := cJ12) rfl (Or.inl rfl) rfl (by decide) (cz0 rfl) ?_
  refine tv_b (pc' := 207) (ls' := [some (.ref 80), none]) (st' := [.int 0, .ref 80]) (h' := (98, 207614, cK 98 kk, cI 98 cJ12 X, cZ, cQ cl76)) 2 rfl ?_
  refine tc_pfI (J' := cJ12) rfl (Or.inr ⟨rfl, Or.inl rfl⟩) rfl (by decide) (cz0 rfl) ?_
  refine tv_b (pc' := 213) (ls' := [some (.ref 80), none]) (st' := [.int 16, .ref 80]) (h' := (98, 207614, cK 98 kk, cI 98 cJ12 X, cZ, cQ cl76)) 2 rfl ?_
  refine tc_na (b := 94) (c := 16) (m' := 99) (sl' := 207630) rfl ⟨rfl, by decide, by decide⟩ rfl rfl rfl rfl rfl rfl ?_
  refine tc_pfQ (l' := cl77) rfl rfl (by decide) rfl ?_
  refine tv_b (pc' := 221) (ls' := [some (.ref 80), none]) (st' := [.int 8, .ref 80]) (h' := (99, 207630, cK 99 kk, cI 99 cJ12 X, cZ, cQ cl77)) 2 rfl ?_
  refine tc_na (b := 95) (c := 8) (m' := 100) (sl' := 207638) rfl ⟨rfl, by decide, by decide⟩ rfl rfl rfl rfl rfl rfl ?_
  refine tc_pfQ (l' := cl78) rfl rfl (by decide) rfl ?_
  refine tv_b (pc' := 229) (ls' := [some (.ref 80), none]) (st' := [.int 8, .ref 80]) (h' := (100, 207638, cK 100 kk, cI 100 cJ12 X, cZ, cQ cl78)) 2 rfl ?_
  refine tc_na (b := 96) (c := 8) (m' := 101) (sl' := 207646) rfl ⟨rfl, by decide, by decide⟩ rfl rfl rfl rfl rfl rfl ?_
  refine tc_pfQ (l' := cl79) rfl rfl (by decide) rfl ?_
  refine tv_b (pc' := 237) (ls' := [some (.ref 80), none]) (st' := [.int 8, .ref 80]) (h' := (101, 207646, cK 101 kk, cI 101 cJ12 X, cZ, cQ cl79)) 2 rfl ?_
  refine tc_na (b := 97) (c := 8) (m' := 102) (sl' := 207654) rfl ⟨rfl, by decide, by decide⟩ rfl rfl rfl rfl rfl rfl ?_
  refine tc_pfQ (l' := cl80) rfl rfl (by decide) rfl ?_
  refine tv_b (pc' := 245) (ls' := [some (.ref 80), none]) (st' := [.int 8, .ref 80]) (h' := (102, 207654, cK 102 kk, cI 102 cJ12 X, cZ, cQ cl80)) 2 rfl ?_
  refine tc_na (b := 98) (c := 8) (m' := 103) (sl' := 207662) rfl ⟨rfl, by decide, by decide⟩ rfl rfl rfl rfl rfl rfl ?_
  refine tc_pfQ (l' := cl81) rfl rfl (by decide) rfl ?_
  refine tv_b (pc' := 253) (ls' := [some (.ref 80), none]) (st' := [.int 8, .ref 80]) (h' := (103, 207662, cK 103 kk, cI 103 cJ12 X, cZ, cQ cl81)) 2 rfl ?_
  refine tc_na (b := 99) (c := 8) (m' := 104) (sl' := 207670) rfl ⟨rfl, by decide, by decide⟩ rfl rfl rfl rfl rfl rfl ?_
  refine tc_pfQ (l' := cl82) rfl rfl (by decide) rfl ?_
  refine tv_b (pc' := 262) (ls' := [some (.ref 80), none]) (st' := [.int 400, .ref 80]) (h' := (104, 207670, cK 104 kk, cI 104 cJ12 X, cZ, cQ cl82)) 2 rfl ?_
  refine tc_na (b := 100) (c := 400) (m' := 105) (sl' := 208070) rfl ⟨rfl, by decide, by decide⟩ rfl rfl rfl rfl rfl rfl ?_
  refine tc_pfQ (l' := cl83) rfl rfl (by decide) rfl ?_
  refine tv_b (pc' := 271) (ls' := [some (.ref 80), none]) (st' := [.int 400, .ref 80]) (h' := (105, 208070, cK 105 kk, cI 105 cJ12 X, cZ, cQ cl83)) 2 rfl ?_
  refine tc_na (b := 101) (c := 400) (m' := 106) (sl' := 208470) rfl ⟨rfl, by decide, by decide⟩ rfl rfl rfl rfl rfl rfl ?_
  refine tc_pfQ (l' := cl84) rfl rfl (by decide) rfl ?_
  refine tv_b (pc' := 280) (ls' := [some (.ref 80), none]) (st' := [.int 400, .ref 80]) (h' := (106, 208470, cK 106 kk, cI 106 cJ12 X, cZ, cQ cl84)) 2 rfl ?_
  refine tc_na (b := 102) (c := 400) (m' := 107) (sl' := 208870) rfl ⟨rfl, by decide, by decide⟩ rfl rfl rfl rfl rfl rfl ?_
  refine tc_pfQ (l' := cl85) rfl rfl (by decide) rfl ?_
  refine tv_b (pc' := 289) (ls' := [some (.ref 80), none]) (st' := [.int 400, .ref 80]) (h' := (107, 208870, cK 107 kk, cI 107 cJ12 X, cZ, cQ cl85)) 2 rfl ?_
  refine tc_na (b := 103) (c := 400) (m' := 108) (sl' := 209270) rfl ⟨rfl, by decide, by decide⟩ rfl rfl rfl rfl rfl rfl ?_
  refine tc_pfQ (l' := cl86) rfl rfl (by decide) rfl ?_
  refine tv_b (pc' := 296) (ls' := [some (.ref 80), none]) (st' := [.int 4, .ref 80]) (h' := (108, 209270, cK 108 kk, cI 108 cJ12 X, cZ, cQ cl86)) 2 rfl ?_
  refine tc_na (b := 104) (c := 4) (m' := 109) (sl' := 209274) rfl ⟨rfl, by decide, by decide⟩ rfl rfl rfl rfl rfl rfl ?_
  refine tc_pfQ (l' := cl87) rfl rfl (by decide) rfl ?_
  refine tv_b (pc' := 303) (ls' := [some (.ref 80), none]) (st' := [.int 4, .ref 80]) (h' := (109, 209274, cK 109 kk, cI 109 cJ12 X, cZ, cQ cl87)) 2 rfl ?_
  refine tc_na (b := 105) (c := 4) (m' := 110) (sl' := 209278) rfl ⟨rfl, by decide, by decide⟩ rfl rfl rfl rfl rfl rfl ?_
  refine tc_pfQ (l' := cl88) rfl rfl (by decide) rfl ?_
  refine tv_b (pc' := 310) (ls' := [some (.ref 80), none]) (st' := [.int 4, .ref 80]) (h' := (110, 209278, cK 110 kk, cI 110 cJ12 X, cZ, cQ cl88)) 2 rfl ?_
  refine tc_na (b := 106) (c := 4) (m' := 111) (sl' := 209282) rfl ⟨rfl, by decide, by decide⟩ rfl rfl rfl rfl rfl rfl ?_
  refine tc_pfQ (l' := cl89) rfl rfl (by decide) rfl ?_
  refine tv_b (pc' := 317) (ls' := [some (.ref 80), none]) (st' := [.int 0, .ref 80]) (h' := (111, 209282, cK 111 kk, cI 111 cJ12 X, cZ, cQ cl89)) 2 rfl ?_
  refine tc_pfI (J' := cJ12) rfl (Or.inl rfl) rfl (by decide) (cz0 rfl) ?_
  refine tv_b (pc' := 322) (ls' := [some (.ref 80), none]) (st' := [.int (-1), .ref 80]) (h' := (111, 209282, cK 111 kk, cI 111 cJ12 X, cZ, cQ cl89)) 2 rfl ?_
  refine tc_pfI (J' := cJ13) rfl (Or.inl rfl) rfl (by decide) rfl ?_
  refine tv_b (pc' := 329) (ls' := [some (.ref 80), none]) (st' := [.int 201, .ref 80]) (h' := (111, 209282, cK 111 kk, cI 111 cJ13 X, cZ, cQ cl89)) 2 rfl ?_
  refine tc_na (b := 107) (c := 201) (m' := 112) (sl' := 209483) rfl ⟨rfl, by decide, by decide⟩ rfl rfl rfl rfl rfl rfl ?_
  refine tc_pfQ (l' := cl90) rfl rfl (by decide) rfl ?_
  refine tv_b (pc' := 338) (ls' := [some (.ref 80), none]) (st' := [.int 201, .ref 80]) (h' := (112, 209483, cK 112 kk, cI 112 cJ13 X, cZ, cQ cl90)) 2 rfl ?_
  refine tc_na (b := 108) (c := 201) (m' := 113) (sl' := 209684) rfl ⟨rfl, by decide, by decide⟩ rfl rfl rfl rfl rfl rfl ?_
  refine tc_pfQ (l' := cl91) rfl rfl (by decide) rfl ?_
  refine tv_b (pc' := 347) (ls' := [some (.ref 80), none]) (st' := [.int 201, .ref 80]) (h' := (113, 209684, cK 113 kk, cI 113 cJ13 X, cZ, cQ cl91)) 2 rfl ?_
  refine tc_na (b := 109) (c := 201) (m' := 114) (sl' := 209885) rfl ⟨rfl, by decide, by decide⟩ rfl rfl rfl rfl rfl rfl ?_
  refine tc_pfQ (l' := cl92) rfl rfl (by decide) rfl ?_
  refine tv_b (pc' := 356) (ls' := [some (.ref 80), none]) (st' := [.int 201, .ref 80]) (h' := (114, 209885, cK 114 kk, cI 114 cJ13 X, cZ, cQ cl92)) 2 rfl ?_
  refine tc_na (b := 110) (c := 201) (m' := 115) (sl' := 210086) rfl ⟨rfl, by decide, by decide⟩ rfl rfl rfl rfl rfl rfl ?_
  refine tc_pfQ (l' := cl93) rfl rfl (by decide) rfl ?_
  refine tv_b (pc' := 365) (ls' := [some (.ref 80), none]) (st' := [.int 201, .ref 80]) (h' := (115, 210086, cK 115 kk, cI 115 cJ13 X, cZ, cQ cl93)) 2 rfl ?_
  refine tc_na (b := 111) (c := 201) (m' := 116) (sl' := 210287) rfl ⟨rfl, by decide, by decide⟩ rfl rfl rfl rfl rfl rfl ?_
  refine tc_pfQ (l' := cl94) rfl rfl (by decide) rfl ?_
  refine tv_b (pc' := 374) (ls' := [some (.ref 80), none]) (st' := [.int 201, .ref 80]) (h' := (116, 210287, cK 116 kk, cI 116 cJ13 X, cZ, cQ cl94)) 2 rfl ?_
  refine tc_na (b := 112) (c := 201) (m' := 117) (sl' := 210488) rfl ⟨rfl, by decide, by decide⟩ rfl rfl rfl rfl rfl rfl ?_
  refine tc_pfQ (l' := cl95) rfl rfl (by decide) rfl ?_
  refine tv_b (pc' := 383) (ls' := [some (.ref 80), none]) (st' := [.int 6416, .ref 80]) (h' := (117, 210488, cK 117 kk, cI 117 cJ13 X, cZ, cQ cl95)) 2 rfl ?_
  refine tc_na (b := 113) (c := 6416) (m' := 118) (sl' := 216904) rfl ⟨rfl, by decide, by decide⟩ rfl rfl rfl rfl rfl rfl ?_
  refine tc_pfQ (l' := cl96) rfl rfl (by decide) rfl ?_
  refine tv_b (pc' := 392) (ls' := [some (.ref 80), none]) (st' := [.int 401, .ref 80]) (h' := (118, 216904, cK 118 kk, cI 118 cJ13 X, cZ, cQ cl96)) 2 rfl ?_
  refine tc_na (b := 114) (c := 401) (m' := 119) (sl' := 217305) rfl ⟨rfl, by decide, by decide⟩ rfl rfl rfl rfl rfl rfl ?_
  refine tc_pfQ (l' := cl97) rfl rfl (by decide) rfl ?_
  refine tv_b (pc' := 401) (ls' := [some (.ref 80), none]) (st' := [.int 400, .ref 80]) (h' := (119, 217305, cK 119 kk, cI 119 cJ13 X, cZ, cQ cl97)) 2 rfl ?_
  refine tc_na (b := 115) (c := 400) (m' := 120) (sl' := 217705) rfl ⟨rfl, by decide, by decide⟩ rfl rfl rfl rfl rfl rfl ?_
  refine tc_pfQ (l' := cl98) rfl rfl (by decide) rfl ?_
  refine tv_b (pc' := 410) (ls' := [some (.ref 80), none]) (st' := [.int 400, .ref 80]) (h' := (120, 217705, cK 120 kk, cI 120 cJ13 X, cZ, cQ cl98)) 2 rfl ?_
  refine tc_na (b := 116) (c := 400) (m' := 121) (sl' := 218105) rfl ⟨rfl, by decide, by decide⟩ rfl rfl rfl rfl rfl rfl ?_
  refine tc_pfQ (l' := cl99) rfl rfl (by decide) rfl ?_
  refine tv_b (pc' := 417) (ls' := [some (.ref 80), none]) (st' := [.long 0, .ref 80]) (h' := (121, 218105, cK 121 kk, cI 121 cJ13 X, cZ, cQ cl99)) 2 rfl ?_
  refine tc_pfL rfl rfl (by decide) ?_
  refine tv_b (pc' := 422) (ls' := [some (.ref 80), none]) (st' := [.long 0, .ref 80]) (h' := (121, 218105, cK 121 kk, cI 121 cJ13 X, cZ, cQ cl99)) 2 rfl ?_
  refine tc_pfL rfl rfl (by decide) ?_
  refine tv_b (pc' := 429) (ls' := [some (.ref 80), none]) (st' := [.int 6400, .ref 80]) (h' := (121, 218105, cK 121 kk, cI 121 cJ13 X, cZ, cQ cl99)) 2 rfl ?_
  refine tc_na (b := 117) (c := 6400) (m' := 122) (sl' := 224505) rfl ⟨rfl, by decide, by decide⟩ rfl rfl rfl rfl rfl rfl ?_
  refine tc_pfQ (l' := cl100) rfl rfl (by decide) rfl ?_
  refine tv_b (pc' := 438) (ls' := [some (.ref 80), none]) (st' := [.int 6400, .ref 80]) (h' := (122, 224505, cK 122 kk, cI 122 cJ13 X, cZ, cQ cl100)) 2 rfl ?_
  refine tc_na (b := 118) (c := 6400) (m' := 123) (sl' := 230905) rfl ⟨rfl, by decide, by decide⟩ rfl rfl rfl rfl rfl rfl ?_
  refine tc_pfQ (l' := cl101) rfl rfl (by decide) rfl ?_
  refine tv_b (pc' := 447) (ls' := [some (.ref 80), none]) (st' := [.int 850, .ref 80]) (h' := (123, 230905, cK 123 kk, cI 123 cJ13 X, cZ, cQ cl101)) 2 rfl ?_
  refine tc_na (b := 119) (c := 850) (m' := 124) (sl' := 231755) rfl ⟨rfl, by decide, by decide⟩ rfl rfl rfl rfl rfl rfl ?_
  refine tc_pfQ (l' := cl102) rfl rfl (by decide) rfl ?_
  refine tv_b (pc' := 455) (ls' := [some (.ref 80), none]) (st' := [.int 9, .ref 80]) (h' := (124, 231755, cK 124 kk, cI 124 cJ13 X, cZ, cQ cl102)) 2 rfl ?_
  refine tc_na (b := 120) (c := 9) (m' := 125) (sl' := 231764) rfl ⟨rfl, by decide, by decide⟩ rfl rfl rfl rfl rfl rfl ?_
  refine tc_pfQ (l' := cl103) rfl rfl (by decide) rfl ?_
  refine tv_b (pc' := 462) (ls' := [some (.ref 80), none]) (st' := [.long 0, .ref 80]) (h' := (125, 231764, cK 125 kk, cI 125 cJ13 X, cZ, cQ cl103)) 2 rfl ?_
  refine tc_pfL rfl rfl (by decide) ?_
  refine tv_b (pc' := 467) (ls' := [some (.ref 80), none]) (st' := [.long 0, .ref 80]) (h' := (125, 231764, cK 125 kk, cI 125 cJ13 X, cZ, cQ cl103)) 2 rfl ?_
  refine tc_pfL rfl rfl (by decide) ?_
  refine tv_b (pc' := 472) (ls' := [some (.ref 80), none]) (st' := [.int 0, .ref 80]) (h' := (125, 231764, cK 125 kk, cI 125 cJ13 X, cZ, cQ cl103)) 2 rfl ?_
  refine tc_pfI (J' := cJ13) rfl (Or.inl rfl) rfl (by decide) (cz0 rfl) ?_
  refine tv_b (pc' := 477) (ls' := [some (.ref 80), none]) (st' := [.int 3, .ref 80]) (h' := (125, 231764, cK 125 kk, cI 125 cJ13 X, cZ, cQ cl103)) 2 rfl ?_
  refine tc_na (b := 121) (c := 3) (m' := 126) (sl' := 231767) rfl ⟨rfl, by decide, by decide⟩ rfl rfl rfl rfl rfl rfl ?_
  refine tc_pfQ (l' := cl104) rfl rfl (by decide) rfl ?_
  refine tv_b (pc' := 484) (ls' := [some (.ref 80), none]) (st' := [.int 3, .ref 80]) (h' := (126, 231767, cK 126 kk, cI 126 cJ13 X, cZ, cQ cl104)) 2 rfl ?_
  refine tc_na (b := 122) (c := 3) (m' := 127) (sl' := 231770) rfl ⟨rfl, by decide, by decide⟩ rfl rfl rfl rfl rfl rfl ?_
  refine tc_pfQ (l' := cl105) rfl rfl (by decide) rfl ?_
  refine tv_b (pc' := 491) (ls' := [some (.ref 80), none]) (st' := [.int (-1), .ref 80]) (h' := (127, 231770, cK 127 kk, cI 127 cJ13 X, cZ, cQ cl105)) 2 rfl ?_
  refine tc_pfI (J' := cJ14) rfl (Or.inl rfl) rfl (by decide) rfl ?_
  refine tv_b (pc' := 497) (ls' := [some (.ref 80), none]) (st' := [.int 8, .ref 80]) (h' := (127, 231770, cK 127 kk, cI 127 cJ14 X, cZ, cQ cl105)) 2 rfl ?_
  refine tc_na (b := 123) (c := 8) (m' := 128) (sl' := 231778) rfl ⟨rfl, by decide, by decide⟩ rfl rfl rfl rfl rfl rfl ?_
  refine tc_pfQ (l' := cl106) rfl rfl (by decide) rfl ?_
  refine tv_b (pc' := 505) (ls' := [some (.ref 80), none]) (st' := [.int 8, .ref 80]) (h' := (128, 231778, cK 128 kk, cI 128 cJ14 X, cZ, cQ cl106)) 2 rfl ?_
  refine tc_na (b := 124) (c := 8) (m' := 129) (sl' := 231786) rfl ⟨rfl, by decide, by decide⟩ rfl rfl rfl rfl rfl rfl ?_
  refine tc_pfQ (l' := cl107) rfl rfl (by decide) rfl ?_
  refine tv_b (pc' := 512) (ls' := [some (.ref 80), none]) (st' := [.int 0, .ref 80]) (h' := (129, 231786, cK 129 kk, cI 129 cJ14 X, cZ, cQ cl107)) 2 rfl ?_
  refine tc_pfI (J' := cJ14) rfl (Or.inl rfl) rfl (by decide) (cz0 rfl) ?_
  refine tv_b (pc' := 518) (ls' := [some (.ref 80), none]) (st' := [.int 10, .ref 80]) (h' := (129, 231786, cK 129 kk, cI 129 cJ14 X, cZ, cQ cl107)) 2 rfl ?_
  refine tc_na (b := 125) (c := 10) (m' := 130) (sl' := 231796) rfl ⟨rfl, by decide, by decide⟩ rfl rfl rfl rfl rfl rfl ?_
  refine tc_pfQ (l' := cl108) rfl rfl (by decide) rfl ?_
  refine tv_b (pc' := 526) (ls' := [some (.ref 80), none]) (st' := [.int 10, .ref 80]) (h' := (130, 231796, cK 130 kk, cI 130 cJ14 X, cZ, cQ cl108)) 2 rfl ?_
  refine tc_na (b := 126) (c := 10) (m' := 131) (sl' := 231806) rfl ⟨rfl, by decide, by decide⟩ rfl rfl rfl rfl rfl rfl ?_
  refine tc_pfQ (l' := cl109) rfl rfl (by decide) rfl ?_
  refine tv_b (pc' := 533) (ls' := [some (.ref 80), none]) (st' := [.int 0, .ref 80]) (h' := (131, 231806, cK 131 kk, cI 131 cJ14 X, cZ, cQ cl109)) 2 rfl ?_
  refine tc_pfI (J' := cJ14) rfl (Or.inl rfl) rfl (by decide) (cz0 rfl) ?_
  refine tv_b (pc' := 538) (ls' := [some (.ref 80), none]) (st' := [.int 0, .ref 80]) (h' := (131, 231806, cK 131 kk, cI 131 cJ14 X, cZ, cQ cl109)) 2 rfl ?_
  refine tc_pfI (J' := cJ14) rfl (Or.inl rfl) rfl (by decide) (cz0 rfl) ?_
  refine tv_b (pc' := 550) (ls' := [some (.ref 80), some (.int 0)]) (st' := [.ref 80]) (h' := (131, 231806, cK 131 kk, cI 131 cJ14 X, cZ, cQ cl109)) 6 rfl ?_
  refine tc_gf (y := 94) rfl rfl (by decide) rfl ?_
  refine tv_b (pc' := 556) (ls' := [some (.ref 80), some (.int 0)]) (st' := [.int 100, .int 0, .ref 94]) (h' := (131, 231806, cK 131 kk, cI 131 cJ14 X, cZ, cQ cl109)) 2 rfl ?_
  refine tc_ias (c := 16) (i := 0) (J' := cJ15) rfl rfl (by decide) ⟨rfl, by decide⟩ (by decide) rfl ?_
  refine tv_b (pc' := 550) (ls' := [some (.ref 80), some (.int 1)]) (st' := [.ref 80]) (h' := (131, 231806, cK 131 kk, cI 131 cJ15 X, cZ, cQ cl109)) 6 rfl ?_
  refine tc_gf (y := 94) rfl rfl (by decide) rfl ?_
  refine tv_b (pc' := 556) (ls' := [some (.ref 80), some (.int 1)]) (st' := [.int 100, .int 1, .ref 94]) (h' := (131, 231806, cK 131 kk, cI 131 cJ15 X, cZ, cQ cl109)) 2 rfl ?_
  refine tc_ias (c := 16) (i := 1) (J' := cJ16) rfl rfl (by decide) ⟨rfl, by decide⟩ (by decide) rfl ?_
  refine tv_b (pc' := 550) (ls' := [some (.ref 80), some (.int 2)]) (st' := [.ref 80]) (h' := (131, 231806, cK 131 kk, cI 131 cJ16 X, cZ, cQ cl109)) 6 rfl ?_
  refine tc_gf (y := 94) rfl rfl (by decide) rfl ?_
  refine tv_b (pc' := 556) (ls' := [some (.ref 80), some (.int 2)]) (st' := [.int 100, .int 2, .ref 94]) (h' := (131, 231806, cK 131 kk, cI 131 cJ16 X, cZ, cQ cl109)) 2 rfl ?_
  refine tc_ias (c := 16) (i := 2) (J' := cJ17) rfl rfl (by decide) ⟨rfl, by decide⟩ (by decide) rfl ?_
  refine tv_b (pc' := 550) (ls' := [some (.ref 80), some (.int 3)]) (st' := [.ref 80]) (h' := (131, 231806, cK 131 kk, cI 131 cJ17 X, cZ, cQ cl109)) 6 rfl ?_
  refine tc_gf (y := 94) rfl rfl (by decide) rfl ?_
  refine tv_b (pc' := 556) (ls' := [some (.ref 80), some (.int 3)]) (st' := [.int 100, .int 3, .ref 94]) (h' := (131, 231806, cK 131 kk, cI 131 cJ17 X, cZ, cQ cl109)) 2 rfl ?_
  refine tc_ias (c := 16) (i := 3) (J' := cJ18) rfl rfl (by decide) ⟨rfl, by decide⟩ (by decide) rfl ?_
  refine tv_b (pc' := 550) (ls' := [some (.ref 80), some (.int 4)]) (st' := [.ref 80]) (h' := (131, 231806, cK 131 kk, cI 131 cJ18 X, cZ, cQ cl109)) 6 rfl ?_
  refine tc_gf (y := 94) rfl rfl (by decide) rfl ?_
  refine tv_b (pc' := 556) (ls' := [some (.ref 80), some (.int 4)]) (st' := [.int 100, .int 4, .ref 94]) (h' := (131, 231806, cK 131 kk, cI 131 cJ18 X, cZ, cQ cl109)) 2 rfl ?_
  refine tc_ias (c := 16) (i := 4) (J' := cJ19) rfl rfl (by decide) ⟨rfl, by decide⟩ (by decide) rfl ?_
  refine tv_b (pc' := 550) (ls' := [some (.ref 80), some (.int 5)]) (st' := [.ref 80]) (h' := (131, 231806, cK 131 kk, cI 131 cJ19 X, cZ, cQ cl109)) 6 rfl ?_
  refine tc_gf (y := 94) rfl rfl (by decide) rfl ?_
  refine tv_b (pc' := 556) (ls' := [some (.ref 80), some (.int 5)]) (st' := [.int 100, .int 5, .ref 94]) (h' := (131, 231806, cK 131 kk, cI 131 cJ19 X, cZ, cQ cl109)) 2 rfl ?_
  refine tc_ias (c := 16) (i := 5) (J' := cJ20) rfl rfl (by decide) ⟨rfl, by decide⟩ (by decide) rfl ?_
  refine tv_b (pc' := 550) (ls' := [some (.ref 80), some (.int 6)]) (st' := [.ref 80]) (h' := (131, 231806, cK 131 kk, cI 131 cJ20 X, cZ, cQ cl109)) 6 rfl ?_
  refine tc_gf (y := 94) rfl rfl (by decide) rfl ?_
  refine tv_b (pc' := 556) (ls' := [some (.ref 80), some (.int 6)]) (st' := [.int 100, .int 6, .ref 94]) (h' := (131, 231806, cK 131 kk, cI 131 cJ20 X, cZ, cQ cl109)) 2 rfl ?_
  refine tc_ias (c := 16) (i := 6) (J' := cJ21) rfl rfl (by decide) ⟨rfl, by decide⟩ (by decide) rfl ?_
  refine tv_b (pc' := 550) (ls' := [some (.ref 80), some (.int 7)]) (st' := [.ref 80]) (h' := (131, 231806, cK 131 kk, cI 131 cJ21 X, cZ, cQ cl109)) 6 rfl ?_
  refine tc_gf (y := 94) rfl rfl (by decide) rfl ?_
  refine tv_b (pc' := 556) (ls' := [some (.ref 80), some (.int 7)]) (st' := [.int 100, .int 7, .ref 94]) (h' := (131, 231806, cK 131 kk, cI 131 cJ21 X, cZ, cQ cl109)) 2 rfl ?_
  refine tc_ias (c := 16) (i := 7) (J' := cJ22) rfl rfl (by decide) ⟨rfl, by decide⟩ (by decide) rfl ?_
  refine tv_b (pc' := 550) (ls' := [some (.ref 80), some (.int 8)]) (st' := [.ref 80]) (h' := (131, 231806, cK 131 kk, cI 131 cJ22 X, cZ, cQ cl109)) 6 rfl ?_
  refine tc_gf (y := 94) rfl rfl (by decide) rfl ?_
  refine tv_b (pc' := 556) (ls' := [some (.ref 80), some (.int 8)]) (st' := [.int 100, .int 8, .ref 94]) (h' := (131, 231806, cK 131 kk, cI 131 cJ22 X, cZ, cQ cl109)) 2 rfl ?_
  refine tc_ias (c := 16) (i := 8) (J' := cJ23) rfl rfl (by decide) ⟨rfl, by decide⟩ (by decide) rfl ?_
  refine tv_b (pc' := 550) (ls' := [some (.ref 80), some (.int 9)]) (st' := [.ref 80]) (h' := (131, 231806, cK 131 kk, cI 131 cJ23 X, cZ, cQ cl109)) 6 rfl ?_
  refine tc_gf (y := 94) rfl rfl (by decide) rfl ?_
  refine tv_b (pc' := 556) (ls' := [some (.ref 80), some (.int 9)]) (st' := [.int 100, .int 9, .ref 94]) (h' := (131, 231806, cK 131 kk, cI 131 cJ23 X, cZ, cQ cl109)) 2 rfl ?_
  refine tc_ias (c := 16) (i := 9) (J' := cJ24) rfl rfl (by decide) ⟨rfl, by decide⟩ (by decide) rfl ?_
  refine tv_b (pc' := 550) (ls' := [some (.ref 80), some (.int 10)]) (st' := [.ref 80]) (h' := (131, 231806, cK 131 kk, cI 131 cJ24 X, cZ, cQ cl109)) 6 rfl ?_
  refine tc_gf (y := 94) rfl rfl (by decide) rfl ?_
  refine tv_b (pc' := 556) (ls' := [some (.ref 80), some (.int 10)]) (st' := [.int 100, .int 10, .ref 94]) (h' := (131, 231806, cK 131 kk, cI 131 cJ24 X, cZ, cQ cl109)) 2 rfl ?_
  refine tc_ias (c := 16) (i := 10) (J' := cJ25) rfl rfl (by decide) ⟨rfl, by decide⟩ (by decide) rfl ?_
  refine tv_b (pc' := 550) (ls' := [some (.ref 80), some (.int 11)]) (st' := [.ref 80]) (h' := (131, 231806, cK 131 kk, cI 131 cJ25 X, cZ, cQ cl109)) 6 rfl ?_
  refine tc_gf (y := 94) rfl rfl (by decide) rfl ?_
  refine tv_b (pc' := 556) (ls' := [some (.ref 80), some (.int 11)]) (st' := [.int 100, .int 11, .ref 94]) (h' := (131, 231806, cK 131 kk, cI 131 cJ25 X, cZ, cQ cl109)) 2 rfl ?_
  refine tc_ias (c := 16) (i := 11) (J' := cJ26) rfl rfl (by decide) ⟨rfl, by decide⟩ (by decide) rfl ?_
  refine tv_b (pc' := 550) (ls' := [some (.ref 80), some (.int 12)]) (st' := [.ref 80]) (h' := (131, 231806, cK 131 kk, cI 131 cJ26 X, cZ, cQ cl109)) 6 rfl ?_
  refine tc_gf (y := 94) rfl rfl (by decide) rfl ?_
  refine tv_b (pc' := 556) (ls' := [some (.ref 80), some (.int 12)]) (st' := [.int 100, .int 12, .ref 94]) (h' := (131, 231806, cK 131 kk, cI 131 cJ26 X, cZ, cQ cl109)) 2 rfl ?_
  refine tc_ias (c := 16) (i := 12) (J' := cJ27) rfl rfl (by decide) ⟨rfl, by decide⟩ (by decide) rfl ?_
  refine tv_b (pc' := 550) (ls' := [some (.ref 80), some (.int 13)]) (st' := [.ref 80]) (h' := (131, 231806, cK 131 kk, cI 131 cJ27 X, cZ, cQ cl109)) 6 rfl ?_
  refine tc_gf (y := 94) rfl rfl (by decide) rfl ?_
  refine tv_b (pc' := 556) (ls' := [some (.ref 80), some (.int 13)]) (st' := [.int 100, .int 13, .ref 94]) (h' := (131, 231806, cK 131 kk, cI 131 cJ27 X, cZ, cQ cl109)) 2 rfl ?_
  refine tc_ias (c := 16) (i := 13) (J' := cJ28) rfl rfl (by decide) ⟨rfl, by decide⟩ (by decide) rfl ?_
  refine tv_b (pc' := 550) (ls' := [some (.ref 80), some (.int 14)]) (st' := [.ref 80]) (h' := (131, 231806, cK 131 kk, cI 131 cJ28 X, cZ, cQ cl109)) 6 rfl ?_
  refine tc_gf (y := 94) rfl rfl (by decide) rfl ?_
  refine tv_b (pc' := 556) (ls' := [some (.ref 80), some (.int 14)]) (st' := [.int 100, .int 14, .ref 94]) (h' := (131, 231806, cK 131 kk, cI 131 cJ28 X, cZ, cQ cl109)) 2 rfl ?_
  refine tc_ias (c := 16) (i := 14) (J' := cJ29) rfl rfl (by decide) ⟨rfl, by decide⟩ (by decide) rfl ?_
  refine tv_b (pc' := 550) (ls' := [some (.ref 80), some (.int 15)]) (st' := [.ref 80]) (h' := (131, 231806, cK 131 kk, cI 131 cJ29 X, cZ, cQ cl109)) 6 rfl ?_
  refine tc_gf (y := 94) rfl rfl (by decide) rfl ?_
  refine tv_b (pc' := 556) (ls' := [some (.ref 80), some (.int 15)]) (st' := [.int 100, .int 15, .ref 94]) (h' := (131, 231806, cK 131 kk, cI 131 cJ29 X, cZ, cQ cl109)) 2 rfl ?_
  refine tc_ias (c := 16) (i := 15) (J' := cJ30) rfl rfl (by decide) ⟨rfl, by decide⟩ (by decide) rfl ?_
  refine tv_b (pc' := 572) (ls' := [some (.ref 80), some (.int 0)]) (st' := [.ref 80]) (h' := (131, 231806, cK 131 kk, cI 131 cJ30 X, cZ, cQ cl109)) 11 rfl ?_
  refine tc_gf (y := 98) rfl rfl (by decide) rfl ?_
  refine tv_b (pc' := 578) (ls' := [some (.ref 80), some (.int 0)]) (st' := [.int 10, .int 0, .ref 98]) (h' := (131, 231806, cK 131 kk, cI 131 cJ30 X, cZ, cQ cl109)) 2 rfl ?_
  refine tc_ias (c := 8) (i := 0) (J' := cJ31) rfl rfl (by decide) ⟨rfl, by decide⟩ (by decide) rfl ?_
  refine tv_b (pc' := 580) (ls' := [some (.ref 80), some (.int 0)]) (st' := [.ref 80]) (h' := (131, 231806, cK 131 kk, cI 131 cJ31 X, cZ, cQ cl109)) 1 rfl ?_
  refine tc_gf (y := 99) rfl rfl (by decide) rfl ?_
  refine tv_b (pc' := 586) (ls' := [some (.ref 80), some (.int 0)]) (st' := [.int 1000000, .int 0, .ref 99]) (h' := (131, 231806, cK 131 kk, cI 131 cJ31 X, cZ, cQ cl109)) 2 rfl ?_
  refine tc_ias (c := 8) (i := 0) (J' := cJ32) rfl rfl (by decide) ⟨rfl, by decide⟩ (by decide) rfl ?_
  refine tv_b (pc' := 572) (ls' := [some (.ref 80), some (.int 1)]) (st' := [.ref 80]) (h' := (131, 231806, cK 131 kk, cI 131 cJ32 X, cZ, cQ cl109)) 6 rfl ?_
  refine tc_gf (y := 98) rfl rfl (by decide) rfl ?_
  refine tv_b (pc' := 578) (ls' := [some (.ref 80), some (.int 1)]) (st' := [.int 10, .int 1, .ref 98]) (h' := (131, 231806, cK 131 kk, cI 131 cJ32 X, cZ, cQ cl109)) 2 rfl ?_
  refine tc_ias (c := 8) (i := 1) (J' := cJ33) rfl rfl (by decide) ⟨rfl, by decide⟩ (by decide) rfl ?_
  refine tv_b (pc' := 580) (ls' := [some (.ref 80), some (.int 1)]) (st' := [.ref 80]) (h' := (131, 231806, cK 131 kk, cI 131 cJ33 X, cZ, cQ cl109)) 1 rfl ?_
  refine tc_gf (y := 99) rfl rfl (by decide) rfl ?_
  refine tv_b (pc' := 586) (ls' := [some (.ref 80), some (.int 1)]) (st' := [.int 1000000, .int 1, .ref 99]) (h' := (131, 231806, cK 131 kk, cI 131 cJ33 X, cZ, cQ cl109)) 2 rfl ?_
  refine tc_ias (c := 8) (i := 1) (J' := cJ34) rfl rfl (by decide) ⟨rfl, by decide⟩ (by decide) rfl ?_
  refine tv_b (pc' := 572) (ls' := [some (.ref 80), some (.int 2)]) (st' := [.ref 80]) (h' := (131, 231806, cK 131 kk, cI 131 cJ34 X, cZ, cQ cl109)) 6 rfl ?_
  refine tc_gf (y := 98) rfl rfl (by decide) rfl ?_
  refine tv_b (pc' := 578) (ls' := [some (.ref 80), some (.int 2)]) (st' := [.int 10, .int 2, .ref 98]) (h' := (131, 231806, cK 131 kk, cI 131 cJ34 X, cZ, cQ cl109)) 2 rfl ?_
  refine tc_ias (c := 8) (i := 2) (J' := cJ35) rfl rfl (by decide) ⟨rfl, by decide⟩ (by decide) rfl ?_
  refine tv_b (pc' := 580) (ls' := [some (.ref 80), some (.int 2)]) (st' := [.ref 80]) (h' := (131, 231806, cK 131 kk, cI 131 cJ35 X, cZ, cQ cl109)) 1 rfl ?_
  refine tc_gf (y := 99) rfl rfl (by decide) rfl ?_
  refine tv_b (pc' := 586) (ls' := [some (.ref 80), some (.int 2)]) (st' := [.int 1000000, .int 2, .ref 99]) (h' := (131, 231806, cK 131 kk, cI 131 cJ35 X, cZ, cQ cl109)) 2 rfl ?_
  refine tc_ias (c := 8) (i := 2) (J' := cJ36) rfl rfl (by decide) ⟨rfl, by decide⟩ (by decide) rfl ?_
  refine tv_b (pc' := 572) (ls' := [some (.ref 80), some (.int 3)]) (st' := [.ref 80]) (h' := (131, 231806, cK 131 kk, cI 131 cJ36 X, cZ, cQ cl109)) 6 rfl ?_
  refine tc_gf (y := 98) rfl rfl (by decide) rfl ?_
  refine tv_b (pc' := 578) (ls' := [some (.ref 80), some (.int 3)]) (st' := [.int 10, .int 3, .ref 98]) (h' := (131, 231806, cK 131 kk, cI 131 cJ36 X, cZ, cQ cl109)) 2 rfl ?_
  refine tc_ias (c := 8) (i := 3) (J' := cJ37) rfl rfl (by decide) ⟨rfl, by decide⟩ (by decide) rfl ?_
  refine tv_b (pc' := 580) (ls' := [some (.ref 80), some (.int 3)]) (st' := [.ref 80]) (h' := (131, 231806, cK 131 kk, cI 131 cJ37 X, cZ, cQ cl109)) 1 rfl ?_
  refine tc_gf (y := 99) rfl rfl (by decide) rfl ?_
  refine tv_b (pc' := 586) (ls' := [some (.ref 80), some (.int 3)]) (st' := [.int 1000000, .int 3, .ref 99]) (h' := (131, 231806, cK 131 kk, cI 131 cJ37 X, cZ, cQ cl109)) 2 rfl ?_
  refine tc_ias (c := 8) (i := 3) (J' := cJ38) rfl rfl (by decide) ⟨rfl, by decide⟩ (by decide) rfl ?_
  refine tv_b (pc' := 572) (ls' := [some (.ref 80), some (.int 4)]) (st' := [.ref 80]) (h' := (131, 231806, cK 131 kk, cI 131 cJ38 X, cZ, cQ cl109)) 6 rfl ?_
  refine tc_gf (y := 98) rfl rfl (by decide) rfl ?_
  refine tv_b (pc' := 578) (ls' := [some (.ref 80), some (.int 4)]) (st' := [.int 10, .int 4, .ref 98]) (h' := (131, 231806, cK 131 kk, cI 131 cJ38 X, cZ, cQ cl109)) 2 rfl ?_
  refine tc_ias (c := 8) (i := 4) (J' := cJ39) rfl rfl (by decide) ⟨rfl, by decide⟩ (by decide) rfl ?_
  refine tv_b (pc' := 580) (ls' := [some (.ref 80), some (.int 4)]) (st' := [.ref 80]) (h' := (131, 231806, cK 131 kk, cI 131 cJ39 X, cZ, cQ cl109)) 1 rfl ?_
  refine tc_gf (y := 99) rfl rfl (by decide) rfl ?_
  refine tv_b (pc' := 586) (ls' := [some (.ref 80), some (.int 4)]) (st' := [.int 1000000, .int 4, .ref 99]) (h' := (131, 231806, cK 131 kk, cI 131 cJ39 X, cZ, cQ cl109)) 2 rfl ?_
  refine tc_ias (c := 8) (i := 4) (J' := cJ40) rfl rfl (by decide) ⟨rfl, by decide⟩ (by decide) rfl ?_
  refine tv_b (pc' := 572) (ls' := [some (.ref 80), some (.int 5)]) (st' := [.ref 80]) (h' := (131, 231806, cK 131 kk, cI 131 cJ40 X, cZ, cQ cl109)) 6 rfl ?_
  refine tc_gf (y := 98) rfl rfl (by decide) rfl ?_
  refine tv_b (pc' := 578) (ls' := [some (.ref 80), some (.int 5)]) (st' := [.int 10, .int 5, .ref 98]) (h' := (131, 231806, cK 131 kk, cI 131 cJ40 X, cZ, cQ cl109)) 2 rfl ?_
  refine tc_ias (c := 8) (i := 5) (J' := cJ41) rfl rfl (by decide) ⟨rfl, by decide⟩ (by decide) rfl ?_
  refine tv_b (pc' := 580) (ls' := [some (.ref 80), some (.int 5)]) (st' := [.ref 80]) (h' := (131, 231806, cK 131 kk, cI 131 cJ41 X, cZ, cQ cl109)) 1 rfl ?_
  refine tc_gf (y := 99) rfl rfl (by decide) rfl ?_
  refine tv_b (pc' := 586) (ls' := [some (.ref 80), some (.int 5)]) (st' := [.int 1000000, .int 5, .ref 99]) (h' := (131, 231806, cK 131 kk, cI 131 cJ41 X, cZ, cQ cl109)) 2 rfl ?_
  refine tc_ias (c := 8) (i := 5) (J' := cJ42) rfl rfl (by decide) ⟨rfl, by decide⟩ (by decide) rfl ?_
  refine tv_b (pc' := 572) (ls' := [some (.ref 80), some (.int 6)]) (st' := [.ref 80]) (h' := (131, 231806, cK 131 kk, cI 131 cJ42 X, cZ, cQ cl109)) 6 rfl ?_
  refine tc_gf (y := 98) rfl rfl (by decide) rfl ?_
  refine tv_b (pc' := 578) (ls' := [some (.ref 80), some (.int 6)]) (st' := [.int 10, .int 6, .ref 98]) (h' := (131, 231806, cK 131 kk, cI 131 cJ42 X, cZ, cQ cl109)) 2 rfl ?_
  refine tc_ias (c := 8) (i := 6) (J' := cJ43) rfl rfl (by decide) ⟨rfl, by decide⟩ (by decide) rfl ?_
  refine tv_b (pc' := 580) (ls' := [some (.ref 80), some (.int 6)]) (st' := [.ref 80]) (h' := (131, 231806, cK 131 kk, cI 131 cJ43 X, cZ, cQ cl109)) 1 rfl ?_
  refine tc_gf (y := 99) rfl rfl (by decide) rfl ?_
  refine tv_b (pc' := 586) (ls' := [some (.ref 80), some (.int 6)]) (st' := [.int 1000000, .int 6, .ref 99]) (h' := (131, 231806, cK 131 kk, cI 131 cJ43 X, cZ, cQ cl109)) 2 rfl ?_
  refine tc_ias (c := 8) (i := 6) (J' := cJ44) rfl rfl (by decide) ⟨rfl, by decide⟩ (by decide) rfl ?_
  refine tv_b (pc' := 572) (ls' := [some (.ref 80), some (.int 7)]) (st' := [.ref 80]) (h' := (131, 231806, cK 131 kk, cI 131 cJ44 X, cZ, cQ cl109)) 6 rfl ?_
  refine tc_gf (y := 98) rfl rfl (by decide) rfl ?_
  refine tv_b (pc' := 578) (ls' := [some (.ref 80), some (.int 7)]) (st' := [.int 10, .int 7, .ref 98]) (h' := (131, 231806, cK 131 kk, cI 131 cJ44 X, cZ, cQ cl109)) 2 rfl ?_
  refine tc_ias (c := 8) (i := 7) (J' := cJ45) rfl rfl (by decide) ⟨rfl, by decide⟩ (by decide) rfl ?_
  refine tv_b (pc' := 580) (ls' := [some (.ref 80), some (.int 7)]) (st' := [.ref 80]) (h' := (131, 231806, cK 131 kk, cI 131 cJ45 X, cZ, cQ cl109)) 1 rfl ?_
  refine tc_gf (y := 99) rfl rfl (by decide) rfl ?_
  refine tv_b (pc' := 586) (ls' := [some (.ref 80), some (.int 7)]) (st' := [.int 1000000, .int 7, .ref 99]) (h' := (131, 231806, cK 131 kk, cI 131 cJ45 X, cZ, cQ cl109)) 2 rfl ?_
  refine tc_ias (c := 8) (i := 7) (J' := cJ46) rfl rfl (by decide) ⟨rfl, by decide⟩ (by decide) rfl ?_
  refine tv_b (pc' := 601) (ls' := [some (.ref 80), some (.int 0)]) (st' := [.ref 80]) (h' := (131, 231806, cK 131 kk, cI 131 cJ46 X, cZ, cQ cl109)) 11 rfl ?_
  refine tc_gf (y := 106) rfl rfl (by decide) rfl ?_
  refine tv_b (pc' := 608) (ls' := [some (.ref 80), some (.int 0)]) (st' := [.int 1000, .int 0, .ref 106]) (h' := (131, 231806, cK 131 kk, cI 131 cJ46 X, cZ, cQ cl109)) 2 rfl ?_
  refine tc_ias (c := 4) (i := 0) (J' := cJ47) rfl rfl (by decide) ⟨rfl, by decide⟩ (by decide) rfl ?_
  refine tv_b (pc' := 601) (ls' := [some (.ref 80), some (.int 1)]) (st' := [.ref 80]) (h' := (131, 231806, cK 131 kk, cI 131 cJ47 X, cZ, cQ cl109)) 6 rfl ?_
  refine tc_gf (y := 106) rfl rfl (by decide) rfl ?_
  refine tv_b (pc' := 608) (ls' := [some (.ref 80), some (.int 1)]) (st' := [.int 1000, .int 1, .ref 106]) (h' := (131, 231806, cK 131 kk, cI 131 cJ47 X, cZ, cQ cl109)) 2 rfl ?_
  refine tc_ias (c := 4) (i := 1) (J' := cJ48) rfl rfl (by decide) ⟨rfl, by decide⟩ (by decide) rfl ?_
  refine tv_b (pc' := 601) (ls' := [some (.ref 80), some (.int 2)]) (st' := [.ref 80]) (h' := (131, 231806, cK 131 kk, cI 131 cJ48 X, cZ, cQ cl109)) 6 rfl ?_
  refine tc_gf (y := 106) rfl rfl (by decide) rfl ?_
  refine tv_b (pc' := 608) (ls' := [some (.ref 80), some (.int 2)]) (st' := [.int 1000, .int 2, .ref 106]) (h' := (131, 231806, cK 131 kk, cI 131 cJ48 X, cZ, cQ cl109)) 2 rfl ?_
  refine tc_ias (c := 4) (i := 2) (J' := cJ49) rfl rfl (by decide) ⟨rfl, by decide⟩ (by decide) rfl ?_
  refine tv_b (pc' := 601) (ls' := [some (.ref 80), some (.int 3)]) (st' := [.ref 80]) (h' := (131, 231806, cK 131 kk, cI 131 cJ49 X, cZ, cQ cl109)) 6 rfl ?_
  refine tc_gf (y := 106) rfl rfl (by decide) rfl ?_
  refine tv_b (pc' := 608) (ls' := [some (.ref 80), some (.int 3)]) (st' := [.int 1000, .int 3, .ref 106]) (h' := (131, 231806, cK 131 kk, cI 131 cJ49 X, cZ, cQ cl109)) 2 rfl ?_
  refine tc_ias (c := 4) (i := 3) (J' := cJ50) rfl rfl (by decide) ⟨rfl, by decide⟩ (by decide) rfl ?_
  refine tv_b (pc' := 615) (ls' := [some (.ref 80), some (.int 4)]) (st' := []) (h' := (131, 231806, cK 131 kk, cI 131 cJ50 X, cZ, cQ cl109)) 5 rfl ?_
  exact tv_rv rfl ⟨rfl, rfl⟩
theorem lw_st {kk : Nat → Nat × Nat} {X : Nat → Nat → Int32} {P : Option Value → am_H → Prop} (k : am_T 300 0 18 [some (.ref am_B), some (.ref 0), some (.ref 80), some (.int 0)] [] (131, 231806, cK 131 kk, cI 131 cJ50 X, cZ, cQ cl109) P) : am_T 300 0 0 [some (.ref am_B), none, none, none] [] (0, 0, cK 0 kk, cI 0 cJ0 X, cZ, cQ cl0) P := by
  refine tc_new (b := 0) (m' := 1) (sl' := 10) rfl rfl rfl rfl rfl rfl rfl ?_
  refine tv_b (pc' := 4) (ls' := [some (.ref am_B), none, none, none]) (st' := [.ref 0, .ref 0]) (h' := (1, 10, cK 1 kk, cI 1 cJ0 X, cZ, cQ cl0)) 1 rfl ?_
  refine tv_cvE [] [.ref 0] rfl rfl (by omega) rfl (Nat.le_of_ble_eq_true rfl) (Nat.le_of_ble_eq_true rfl) (Or.inl rfl) (cs_11 297) ?_
  refine tv_b (pc' := 8) (ls' := [some (.ref am_B), some (.ref 0), none, none]) (st' := []) (h' := (84, 29057, cK 84 kk, cI 84 cJ9 X, cZ, cQ cl63)) 1 rfl ?_
  refine tc_new (b := 80) (m' := 85) (sl' := 29133) rfl rfl rfl rfl rfl rfl rfl ?_
  refine tv_b (pc' := 12) (ls' := [some (.ref am_B), some (.ref 0), none, none]) (st' := [.ref 80, .ref 80]) (h' := (85, 29133, cK 85 kk, cI 85 cJ9 X, cZ, cQ cl63)) 1 rfl ?_
  refine tv_cvE [] [.ref 80] rfl rfl (by omega) rfl (Nat.le_of_ble_eq_true rfl) (Nat.le_of_ble_eq_true rfl) (Or.inl rfl) (cs_12 297) ?_
  refine tv_b (pc' := 18) (ls' := [some (.ref am_B), some (.ref 0), some (.ref 80), some (.int 0)]) (st' := []) (h' := (131, 231806, cK 131 kk, cI 131 cJ50 X, cZ, cQ cl109)) 3 rfl ?_
  exact k
