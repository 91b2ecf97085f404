/-! BURSTS, FIRST -/
theorem ev_m_isBurst2 {d : Nat} {n sl : Nat} {k : Nat → Nat × Nat} {I : Nat → Nat → Int32} {L : Nat → Nat → Int64} {q : Nat → Nat → Option Nat} {A : Nat} {l : Int64} (hA : A < 8) (hw : ¬ (I 98 A).toInt64 = 0) : am_Ev (d + 2) 235 0 (am_ent 9 [.ref 80, .int (nI A), .long l]) [] (n, sl, wKK k, I, L, wQQ q) (some (.int (sp_m_isBurst A l I L)), (n, sl, wKK k, I, L, wQQ q)) := by
  show am_Ev _ _ 0 [some (.ref 80), some (.int (nI A)), some (.long l), none, none, none, none, none, none] _ _ (some (.int (if 0 ≤ (lg_cmp ((it_m_isBurst A l 0 0 I L (8 - A)).2) 0) then (if (lg_cmp ((((it_m_isBurst A l 0 0 I L (8 - A)).1) * 1000) + (((it_m_isBurst A l 0 0 I L (8 - A)).2) / ((I 98 A).toInt64))) ((I 99 A).toInt64)) ≤ 0 then 0 else 1) else (if (lg_cmp ((((it_m_isBurst A l 0 0 I L (8 - A)).1) * 1000) + ((-((it_m_isBurst A l 0 0 I L (8 - A)).2)) / ((I 98 A).toInt64))) ((I 99 A).toInt64)) ≤ 0 then 0 else 1))), (n, sl, wKK k, I, L, wQQ q))
  refine ev_b (pc' := 9) (ls' := [some (.ref 80), some (.int (nI A)), some (.long l), none, some (.long 0), none, some (.long 0), none, some (.int (nI A))]) (st' := []) (h' := (n, sl, wKK k, I, L, wQQ q)) 6 rfl ?_
  refine lp_m_isBurst A l 0 0 I L hA (?_)
  refine ev_b (pc' := (if 0 ≤ (lg_cmp ((it_m_isBurst A l 0 0 I L (8 - A)).2) 0) then 76 else 70)) (ls' := [some (.ref 80), some (.int (nI A)), some (.long l), none, some (.long ((it_m_isBurst A l 0 0 I L (8 - A)).1)), none, some (.long ((it_m_isBurst A l 0 0 I L (8 - A)).2)), none, (some (.int (nI (A + (8 - A)))))]) (st' := []) (h' := (n, sl, wKK k, I, L, wQQ q)) 4 rfl ?_
  refine ev_ifIs (fun c67 => ?_) (fun c67 => ?_)
  · refine ev_b (pc' := 93) (ls' := [some (.ref 80), some (.int (nI A)), some (.long l), none, some (.long ((it_m_isBurst A l 0 0 I L (8 - A)).1)), none, some (.long ((it_m_isBurst A l 0 0 I L (8 - A)).2)), none, (some (.int (nI (A + (8 - A)))))]) (st' := [.int (nI A), .ref 98, .long ((it_m_isBurst A l 0 0 I L (8 - A)).2), .long (((it_m_isBurst A l 0 0 I L (8 - A)).1) * 1000)]) (h' := (n, sl, wKK k, I, L, wQQ q)) 9 rfl ?_
    refine ev_ialN (k := A) rfl (rfl) (by omega) ?_
    refine ev_b (pc' := 95) (ls' := [some (.ref 80), some (.int (nI A)), some (.long l), none, some (.long ((it_m_isBurst A l 0 0 I L (8 - A)).1)), none, some (.long ((it_m_isBurst A l 0 0 I L (8 - A)).2)), none, (some (.int (nI (A + (8 - A)))))]) (st' := [.long ((I 98 A).toInt64), .long ((it_m_isBurst A l 0 0 I L (8 - A)).2), .long (((it_m_isBurst A l 0 0 I L (8 - A)).1) * 1000)]) (h' := (n, sl, wKK k, I, L, wQQ q)) 1 rfl ?_
    refine ev_ldiv rfl hw ?_
    refine ev_b (pc' := 102) (ls' := [some (.ref 80), some (.int (nI A)), some (.long l), none, some (.long ((it_m_isBurst A l 0 0 I L (8 - A)).1)), none, some (.long ((it_m_isBurst A l 0 0 I L (8 - A)).2)), none, (some (.int (nI (A + (8 - A)))))]) (st' := [.int (nI A), .ref 99, .long ((((it_m_isBurst A l 0 0 I L (8 - A)).1) * 1000) + (((it_m_isBurst A l 0 0 I L (8 - A)).2) / ((I 98 A).toInt64)))]) (h' := (n, sl, wKK k, I, L, wQQ q)) 4 rfl ?_
    refine ev_ialN (k := A) rfl (rfl) (by omega) ?_
    refine ev_b (pc' := (if (lg_cmp ((((it_m_isBurst A l 0 0 I L (8 - A)).1) * 1000) + (((it_m_isBurst A l 0 0 I L (8 - A)).2) / ((I 98 A).toInt64))) ((I 99 A).toInt64)) ≤ 0 then 112 else 108)) (ls' := [some (.ref 80), some (.int (nI A)), some (.long l), none, some (.long ((it_m_isBurst A l 0 0 I L (8 - A)).1)), none, some (.long ((it_m_isBurst A l 0 0 I L (8 - A)).2)), none, (some (.int (nI (A + (8 - A)))))]) (st' := []) (h' := (n, sl, wKK k, I, L, wQQ q)) 3 rfl ?_
    refine ev_ifIs (fun c105 => ?_) (fun c105 => ?_)
    · refine ev_b (pc' := 113) (ls' := [some (.ref 80), some (.int (nI A)), some (.long l), none, some (.long ((it_m_isBurst A l 0 0 I L (8 - A)).1)), none, some (.long ((it_m_isBurst A l 0 0 I L (8 - A)).2)), none, (some (.int (nI (A + (8 - A)))))]) (st' := [.int 0]) (h' := (n, sl, wKK k, I, L, wQQ q)) 1 rfl ?_
      exact ev_rz rfl (Or.inl rfl) rfl rfl
    · refine ev_b (pc' := 113) (ls' := [some (.ref 80), some (.int (nI A)), some (.long l), none, some (.long ((it_m_isBurst A l 0 0 I L (8 - A)).1)), none, some (.long ((it_m_isBurst A l 0 0 I L (8 - A)).2)), none, (some (.int (nI (A + (8 - A)))))]) (st' := [.int 1]) (h' := (n, sl, wKK k, I, L, wQQ q)) 2 rfl ?_
      exact ev_rz rfl (Or.inr rfl) rfl rfl
  · refine ev_b (pc' := 93) (ls' := [some (.ref 80), some (.int (nI A)), some (.long l), none, some (.long ((it_m_isBurst A l 0 0 I L (8 - A)).1)), none, some (.long (-((it_m_isBurst A l 0 0 I L (8 - A)).2))), none, (some (.int (nI (A + (8 - A)))))]) (st' := [.int (nI A), .ref 98, .long (-((it_m_isBurst A l 0 0 I L (8 - A)).2)), .long (((it_m_isBurst A l 0 0 I L (8 - A)).1) * 1000)]) (h' := (n, sl, wKK k, I, L, wQQ q)) 11 rfl ?_
    refine ev_ialN (k := A) rfl (rfl) (by omega) ?_
    refine ev_b (pc' := 95) (ls' := [some (.ref 80), some (.int (nI A)), some (.long l), none, some (.long ((it_m_isBurst A l 0 0 I L (8 - A)).1)), none, some (.long (-((it_m_isBurst A l 0 0 I L (8 - A)).2))), none, (some (.int (nI (A + (8 - A)))))]) (st' := [.long ((I 98 A).toInt64), .long (-((it_m_isBurst A l 0 0 I L (8 - A)).2)), .long (((it_m_isBurst A l 0 0 I L (8 - A)).1) * 1000)]) (h' := (n, sl, wKK k, I, L, wQQ q)) 1 rfl ?_
    refine ev_ldiv rfl hw ?_
    refine ev_b (pc' := 102) (ls' := [some (.ref 80), some (.int (nI A)), some (.long l), none, some (.long ((it_m_isBurst A l 0 0 I L (8 - A)).1)), none, some (.long (-((it_m_isBurst A l 0 0 I L (8 - A)).2))), none, (some (.int (nI (A + (8 - A)))))]) (st' := [.int (nI A), .ref 99, .long ((((it_m_isBurst A l 0 0 I L (8 - A)).1) * 1000) + ((-((it_m_isBurst A l 0 0 I L (8 - A)).2)) / ((I 98 A).toInt64)))]) (h' := (n, sl, wKK k, I, L, wQQ q)) 4 rfl ?_
    refine ev_ialN (k := A) rfl (rfl) (by omega) ?_
    refine ev_b (pc' := (if (lg_cmp ((((it_m_isBurst A l 0 0 I L (8 - A)).1) * 1000) + ((-((it_m_isBurst A l 0 0 I L (8 - A)).2)) / ((I 98 A).toInt64))) ((I 99 A).toInt64)) ≤ 0 then 112 else 108)) (ls' := [some (.ref 80), some (.int (nI A)), some (.long l), none, some (.long ((it_m_isBurst A l 0 0 I L (8 - A)).1)), none, some (.long (-((it_m_isBurst A l 0 0 I L (8 - A)).2))), none, (some (.int (nI (A + (8 - A)))))]) (st' := []) (h' := (n, sl, wKK k, I, L, wQQ q)) 3 rfl ?_
    refine ev_ifIs (fun c105 => ?_) (fun c105 => ?_)
    · refine ev_b (pc' := 113) (ls' := [some (.ref 80), some (.int (nI A)), some (.long l), none, some (.long ((it_m_isBurst A l 0 0 I L (8 - A)).1)), none, some (.long (-((it_m_isBurst A l 0 0 I L (8 - A)).2))), none, (some (.int (nI (A + (8 - A)))))]) (st' := [.int 0]) (h' := (n, sl, wKK k, I, L, wQQ q)) 1 rfl ?_
      exact ev_rz rfl (Or.inl rfl) rfl rfl
    · refine ev_b (pc' := 113) (ls' := [some (.ref 80), some (.int (nI A)), some (.long l), none, some (.long ((it_m_isBurst A l 0 0 I L (8 - A)).1)), none, some (.long (-((it_m_isBurst A l 0 0 I L (8 - A)).2))), none, (some (.int (nI (A + (8 - A)))))]) (st' := [.int 1]) (h' := (n, sl, wKK k, I, L, wQQ q)) 2 rfl ?_
      exact ev_rz rfl (Or.inr rfl) rfl rfl
/-- sums from the top ring down -/
def tD (f : Nat → Int) : Nat → Int
  | 0 => 0
  | m + 1 => tD f m + f (7 - m)
theorem zS_h {g : Nat → Int} : ∀ m, zS g (m + 1) = g 0 + zS (fun i => g (i + 1)) m := by
  intro m
  induction m with
  | zero => show 0 + g 0 = g 0 + 0; omega
  | succ m ih =>
    show zS g (m + 1) + g (m + 1) = g 0 + (zS (fun i => g (i + 1)) m + g (m + 1))
    rw [ih]; omega
theorem tD_z {f : Nat → Int} : ∀ m, m ≤ 8 → zS (fun i => f (8 - m + i)) m = tD f m := by
  intro m
  induction m with
  | zero => intro _; rfl
  | succ m ih =>
    intro hm
    rw [zS_h]
    show f (8 - (m + 1) + 0) + zS (fun i => f (8 - (m + 1) + (i + 1))) m = tD f m + f (7 - m)
    rw [← ih (by omega), show 8 - (m + 1) + 0 = 7 - m by omega]
    have : zS (fun i => f (8 - (m + 1) + (i + 1))) m = zS (fun i => f (8 - m + i)) m := zS_c (fun k _ => by show f _ = f _; rw [show 8 - (m + 1) + (k + 1) = 8 - m + k by omega])
    rw [this]; omega
def wD (X : Nat → Nat → Int32) (m : Nat) : Int := tD (fun k => (X 95 k).toInt) m
def mD (X : Nat → Nat → Int32) (l : Int) (m : Nat) : Int := tD (fun k => (X 95 k).toInt * oh X k l) m
/-- ring r bursts at lean l -/
def bSb (X : Nat → Nat → Int32) (l : Int) (r : Nat) : Bool := decide (¬ lg_cmp (jL (wD X (8 - r)) * 1000 + sp_absL (jL (mD X l (8 - r) - wD X (8 - r) * oh X r l)) / (X 98 r).toInt64) ((X 99 r).toInt64) ≤ 0)
abbrev bS (X : Nat → Nat → Int32) (l : Int) (r : Nat) : Prop := bSb X l r = true
theorem bS_p {X : Nat → Nat → Int32} {l : Int} {r : Nat} : bS X l r ↔ ¬ lg_cmp (jL (wD X (8 - r)) * 1000 + sp_absL (jL (mD X l (8 - r) - wD X (8 - r) * oh X r l)) / (X 98 r).toInt64) ((X 99 r).toInt64) ≤ 0 := decide_eq_true_iff
section BU
variable {I : Nat → Nat → Int32} {L : Nat → Nat → Int64}
theorem it_bu (hT : wfT I) {A : Nat} {l : Int} (hl : -1000000000 ≤ l ∧ l ≤ 1000000000) (hA : A < 8) : ∀ k, A + k ≤ 8 → it_m_isBurst A (jL l) 0 0 I L k = (jL (zS (fun i => (I 95 (A + i)).toInt) k), jL (zS (fun i => (I 95 (A + i)).toInt * (oh I (A + i) l - oh I A l)) k)) := by
  intro k
  induction k with
  | zero => intro _; rfl
  | succ k ih =>
    intro hk
    show bd_m_isBurst A (jL l) (it_m_isBurst A (jL l) 0 0 I L k).1 (it_m_isBurst A (jL l) 0 0 I L k).2 k I L = _
    rw [ih (by omega)]
    unfold bd_m_isBurst
    rw [ovh_j hT (by omega) hl, ovh_j hT hA hl, i64_j, jL_sub, jL_mul, jL_add, jL_add]
    rfl
theorem zS_sub {f o : Nat → Int} {c : Int} : ∀ k, zS (fun i => f i * (o i - c)) k = zS (fun i => f i * o i) k - zS f k * c := by
  intro k
  induction k with
  | zero => show (0 : Int) = 0 - 0 * c; rw [Int.zero_mul]; rfl
  | succ k ih =>
    show zS (fun i => f i * (o i - c)) k + f k * (o k - c) = zS (fun i => f i * o i) k + f k * o k - (zS f k + f k) * c
    rw [ih, Int.mul_sub, Int.add_mul]; omega
theorem isBurst_v (hT : wfT I) {A : Nat} {l : Int} (hl : -1000000000 ≤ l ∧ l ≤ 1000000000) (hA : A < 8) : sp_m_isBurst A (jL l) I L = if bS I l A then 1 else 0 := by
  unfold sp_m_isBurst
  rw [it_bu hT hl hA (8 - A) (by omega)]
  have e1 : zS (fun i => (I 95 (A + i)).toInt) (8 - A) = wD I (8 - A) := by
    have := tD_z (f := fun k => (I 95 k).toInt) (8 - A) (by omega)
    rw [show 8 - (8 - A) = A by omega] at this
    exact this
  have e2 : zS (fun i => (I 95 (A + i)).toInt * oh I (A + i) l) (8 - A) = mD I l (8 - A) := by
    have := tD_z (f := fun k => (I 95 k).toInt * oh I k l) (8 - A) (by omega)
    rw [show 8 - (8 - A) = A by omega] at this
    exact this
  rw [zS_sub (f := fun i => (I 95 (A + i)).toInt) (o := fun i => oh I (A + i) l), e1, e2]
  simp only
  have eb : bS I l A = ¬ lg_cmp (jL (wD I (8 - A)) * 1000 + sp_absL (jL (mD I l (8 - A) - wD I (8 - A) * oh I A l)) / (I 98 A).toInt64) ((I 99 A).toInt64) ≤ 0 := propext decide_eq_true_iff
  generalize jL (mD I l (8 - A) - wD I (8 - A) * oh I A l) = z at eb ⊢
  by_cases h : 0 ≤ lg_cmp z 0
  · rw [if_pos h]
    have ea : sp_absL z = z := if_pos h
    rw [ea] at eb
    by_cases c : lg_cmp (jL (wD I (8 - A)) * 1000 + z / (I 98 A).toInt64) ((I 99 A).toInt64) ≤ 0
    · rw [if_pos c, if_neg (by rw [eb]; exact fun q => q c)]
    · rw [if_neg c, if_pos (by rw [eb]; exact c)]
  · rw [if_neg h]
    have ea : sp_absL z = -z := if_neg h
    rw [ea] at eb
    by_cases c : lg_cmp (jL (wD I (8 - A)) * 1000 + (-z) / (I 98 A).toInt64) ((I 99 A).toInt64) ≤ 0
    · rw [if_pos c, if_neg (by rw [eb]; exact fun q => q c)]
    · rw [if_neg c, if_pos (by rw [eb]; exact c)]
end BU
/-- the ring index behind p rings left -/
def rgI : Nat → Int32
  | 0 => -1
  | p + 1 => nI p
theorem rg_d (r : Nat) : nI r + Int32.ofInt (-1) = rgI r := by
  cases r with
  | zero => decide
  | succ r =>
    show nI (r + 1) + Int32.ofInt (-1) = nI r
    have e : nI (r + 1) = nI r + nI 1 := (nI_add r 1).symm
    rw [e, show Int32.ofInt (-1) = - nI 1 by decide, Int32.add_assoc, show nI 1 + -nI 1 = (0 : Int32) from by decide, Int32.add_zero]
def lbF (X : Nat → Nat → Int32) (l : Int) (A B : Nat) : Nat → Int32 → Int32
  | 0, w => w
  | r + 1, w => if r < A then w else lbF X l A B r (if r ≤ B ∧ bS X l r then nI r else w)
theorem tv_lb {d n sl : Nat} {kk : Nat → Nat × Nat} {I : Nat → Nat → Int32} {L : Nat → Nat → Int64} {q : Nat → Nat → Option Nat} {X : Nat → Nat → Int32} {l : Int} {A B : Nat} (hc : cTow I X) (hT : wfT X) (hl : -1000000000 ≤ l ∧ l ≤ 1000000000) (hA : A < 8) (hB : B < 8) : ∀ p, p ≤ 8 → ∀ (w : Int32) (o1 o2 o3 o4 : Option Value), am_T (d + 2) 103 13 [some (.ref 7), some (.long (jL l)), none, some (.int (nI A)), some (.int (nI B)), some (.long (jL (wD X (8 - p)))), none, some (.long (jL (mD X l (8 - p)))), none, some (.int w), some (.int (rgI p)), o1, o2, o3, o4] [] (n, sl, wKK kk, I, L, wQQ q) (fun rv h' => rv = some (.int (lbF X l A B p w)) ∧ h' = (n, sl, wKK kk, I, L, wQQ q)) := by
  intro p
  induction p with
  | zero =>
    intro _ w o1 o2 o3 o4
    show am_T _ _ 13 [some (.ref 7), some (.long (jL l)), none, some (.int (nI A)), some (.int (nI B)), some (.long (jL (wD X (8 - 0)))), none, some (.long (jL (mD X l (8 - 0)))), none, some (.int w), some (.int (-1)), o1, o2, o3, o4] _ _ _
    refine tv_b (pc' := 134) (ls' := [some (.ref 7), some (.long (jL l)), none, some (.int (nI A)), some (.int (nI B)), some (.long (jL (wD X (8 - 0)))), none, some (.long (jL (mD X l (8 - 0)))), none, some (.int w), some (.int (-1)), o1, o2, o3, o4]) (st' := [.int w]) (h' := (n, sl, wKK kk, I, L, wQQ q)) 3 rfl ?_
    exact tv_ri rfl ⟨rfl, rfl⟩
  | succ r ih =>
    intro hp w o1 o2 o3 o4
    have hw := (hT.2.2.1 r (by omega)).2.2.2.1
    have h98 : I 11 r = X 98 r := by rw [hc.2.2.2.2.1]
    have h99 : I 12 r = X 99 r := by rw [hc.2.2.2.2.2]
    have h95 : I 8 r = X 95 r := by rw [hc.2.1]
    have hw0 : ¬ X 98 r ≤ 0 := fun z => by
      have := Int32.le_iff_toInt_le.mp z
      have e : (0 : Int32).toInt = 0 := rfl
      omega
    have hwd : ¬ (X 98 r).toInt64 = 0 := fun z => by
      rw [j64_x, show (0 : Int64) = jL 0 from rfl] at z
      have := congrArg Int64.toInt z
      rw [jL_toInt ⟨by omega, by omega⟩, jL_toInt ⟨by decide, by decide⟩] at this
      omega
    have ew : jL (wD X (8 - (r + 1))) + (X 95 r).toInt64 = jL (wD X (8 - r)) := by
      rw [i64_j, jL_add]
      refine congrArg jL ?_
      show tD _ (8 - (r + 1)) + (X 95 r).toInt = tD _ (8 - r)
      rw [show 8 - r = 8 - (r + 1) + 1 by omega]
      show _ = tD _ (8 - (r + 1)) + (X 95 (7 - (8 - (r + 1)))).toInt
      rw [show 7 - (8 - (r + 1)) = r by omega]
    have em : jL (mD X l (8 - (r + 1))) + (X 95 r).toInt64 * sp_st_overhang (nI r) (jL l) I L = jL (mD X l (8 - r)) := by
      rw [covh_j hc hT (by omega) hl, i64_j, jL_mul, jL_add]
      refine congrArg jL ?_
      show tD _ (8 - (r + 1)) + (X 95 r).toInt * oh X r l = tD _ (8 - r)
      rw [show 8 - r = 8 - (r + 1) + 1 by omega]
      show _ = tD _ (8 - (r + 1)) + (X 95 (7 - (8 - (r + 1)))).toInt * oh X (7 - (8 - (r + 1))) l
      rw [show 7 - (8 - (r + 1)) = r by omega]
    have et : jL (mD X l (8 - r)) - jL (wD X (8 - r)) * sp_st_overhang (nI r) (jL l) I L = jL (mD X l (8 - r) - wD X (8 - r) * oh X r l) := by
      rw [covh_j hc hT (by omega) hl, jL_mul, jL_sub]
    show am_T _ _ 13 [some (.ref 7), some (.long (jL l)), none, some (.int (nI A)), some (.int (nI B)), some (.long (jL (wD X (8 - (r + 1))))), none, some (.long (jL (mD X l (8 - (r + 1))))), none, some (.int w), some (.int (nI r)), o1, o2, o3, o4] _ _ _
    refine tv_b (pc' := (if (nI r) < 0 then 132 else 18)) (ls' := [some (.ref 7), some (.long (jL l)), none, some (.int (nI A)), some (.int (nI B)), some (.long (jL (wD X (8 - (r + 1))))), none, some (.long (jL (mD X l (8 - (r + 1))))), none, some (.int w), some (.int (nI r)), o1, o2, o3, o4]) (st' := []) (h' := (n, sl, wKK kk, I, L, wQQ q)) 2 rfl ?_
    refine tv_f (nI_pos (by omega)) ?_
    refine tv_b (pc' := (if (nI r) < (nI A) then 132 else 24)) (ls' := [some (.ref 7), some (.long (jL l)), none, some (.int (nI A)), some (.int (nI B)), some (.long (jL (wD X (8 - (r + 1))))), none, some (.long (jL (mD X l (8 - (r + 1))))), none, some (.int w), some (.int (nI r)), o1, o2, o3, o4]) (st' := []) (h' := (n, sl, wKK kk, I, L, wQQ q)) 3 rfl ?_
    refine tv_ifq (nI_ltI (a := r) (b := A) (by omega) (by omega)) (fun c21 => ?_) (fun c21 => ?_)
    · refine tv_b (pc' := 134) (ls' := [some (.ref 7), some (.long (jL l)), none, some (.int (nI A)), some (.int (nI B)), some (.long (jL (wD X (8 - (r + 1))))), none, some (.long (jL (mD X l (8 - (r + 1))))), none, some (.int w), some (.int (nI r)), o1, o2, o3, o4]) (st' := [.int w]) (h' := (n, sl, wKK kk, I, L, wQQ q)) 1 rfl ?_
      exact tv_ri rfl ⟨by rw [show lbF X l A B (r + 1) w = _ from if_pos c21], rfl⟩
    · refine tv_b (pc' := 28) (ls' := [some (.ref 7), some (.long (jL l)), none, some (.int (nI A)), some (.int (nI B)), some (.long (jL (wD X (8 - (r + 1))))), none, some (.long (jL (mD X l (8 - (r + 1))))), none, some (.int w), some (.int (nI r)), o1, o2, o3, o4]) (st' := [.long (jL l), .int (nI r), .ref 7]) (h' := (n, sl, wKK kk, I, L, wQQ q)) 3 rfl ?_
      refine tv_cvE [.int (nI r), .long (jL l)] [] rfl rfl (by omega) rfl (Nat.le_of_ble_eq_true rfl) (Nat.le_of_ble_eq_true rfl) (Or.inr (Or.inr rfl)) (ev_st_overhang) ?_
      refine tv_b (pc' := 41) (ls' := [some (.ref 7), some (.long (jL l)), none, some (.int (nI A)), some (.int (nI B)), some (.long (jL (wD X (8 - (r + 1))))), none, some (.long (jL (mD X l (8 - (r + 1))))), none, some (.int w), some (.int (nI r)), some (.long (sp_st_overhang (nI r) (jL l) I L)), none, o3, o4]) (st' := [.int (nI r), .ref 8, .long (jL (wD X (8 - (r + 1))))]) (h' := (n, sl, wKK kk, I, L, wQQ q)) 5 rfl ?_
      refine tv_ialN (k := r) rfl (rfl) (⟨by omega, by omega⟩) ?_
      refine tv_b (pc' := 54) (ls' := [some (.ref 7), some (.long (jL l)), none, some (.int (nI A)), some (.int (nI B)), some (.long ((jL (wD X (8 - (r + 1)))) + ((I 8 r).toInt64))), none, some (.long (jL (mD X l (8 - (r + 1))))), none, some (.int w), some (.int (nI r)), some (.long (sp_st_overhang (nI r) (jL l) I L)), none, o3, o4]) (st' := [.int (nI r), .ref 8, .long (jL (mD X l (8 - (r + 1))))]) (h' := (n, sl, wKK kk, I, L, wQQ q)) 7 rfl ?_
      refine tv_ialN (k := r) rfl (rfl) (⟨by omega, by omega⟩) ?_
      refine tv_b (pc' := 70) (ls' := [some (.ref 7), some (.long (jL l)), none, some (.int (nI A)), some (.int (nI B)), some (.long ((jL (wD X (8 - (r + 1)))) + ((I 8 r).toInt64))), none, some (.long ((jL (mD X l (8 - (r + 1)))) + (((I 8 r).toInt64) * (sp_st_overhang (nI r) (jL l) I L)))), none, some (.int w), some (.int (nI r)), some (.long (sp_st_overhang (nI r) (jL l) I L)), none, o3, o4]) (st' := [.long (((jL (mD X l (8 - (r + 1)))) + (((I 8 r).toInt64) * (sp_st_overhang (nI r) (jL l) I L))) - (((jL (wD X (8 - (r + 1)))) + ((I 8 r).toInt64)) * (sp_st_overhang (nI r) (jL l) I L)))]) (h' := (n, sl, wKK kk, I, L, wQQ q)) 10 rfl ?_
      rw [h95, ew, em, et]
      refine tv_csE [.long (jL (mD X l (8 - r) - wD X (8 - r) * oh X r l))] [] rfl rfl (by omega) rfl (Nat.le_of_ble_eq_true rfl) (Nat.le_of_ble_eq_true rfl) (ev_absL) ?_
      refine tv_b (pc' := (if (nI B) < (nI r) then 126 else 82)) (ls' := [some (.ref 7), some (.long (jL l)), none, some (.int (nI A)), some (.int (nI B)), some (.long (jL (wD X (8 - r)))), none, some (.long (jL (mD X l (8 - r)))), none, some (.int w), some (.int (nI r)), some (.long (sp_st_overhang (nI r) (jL l) I L)), none, some (.long (sp_absL (jL (mD X l (8 - r) - wD X (8 - r) * oh X r l)))), none]) (st' := []) (h' := (n, sl, wKK kk, I, L, wQQ q)) 4 rfl ?_
      refine tv_ifq (nI_ltI (a := B) (b := r) (by omega) (by omega)) (fun c79 => ?_) (fun c79 => ?_)
      · refine tv_b (pc' := 13) (ls' := [some (.ref 7), some (.long (jL l)), none, some (.int (nI A)), some (.int (nI B)), some (.long (jL (wD X (8 - r)))), none, some (.long (jL (mD X l (8 - r)))), none, some (.int w), some (.int ((nI r) + Int32.ofInt (-1))), some (.long (sp_st_overhang (nI r) (jL l) I L)), none, some (.long (sp_absL (jL (mD X l (8 - r) - wD X (8 - r) * oh X r l)))), none]) (st' := []) (h' := (n, sl, wKK kk, I, L, wQQ q)) 2 rfl ?_
        rw [rg_d]
        have e : lbF X l A B (r + 1) w = _ := show (if r < A then w else lbF X l A B r (if r ≤ B ∧ bS X l r then nI r else w)) = _ by rw [if_neg c21, if_neg (show ¬ (r ≤ B ∧ bS X l r) from fun z => absurd z.1 (by omega))]
        rw [e]
        exact ih (by omega) _ _ _ _ _
      · refine tv_b (pc' := 88) (ls' := [some (.ref 7), some (.long (jL l)), none, some (.int (nI A)), some (.int (nI B)), some (.long (jL (wD X (8 - r)))), none, some (.long (jL (mD X l (8 - r)))), none, some (.int w), some (.int (nI r)), some (.long (sp_st_overhang (nI r) (jL l) I L)), none, some (.long (sp_absL (jL (mD X l (8 - r) - wD X (8 - r) * oh X r l)))), none]) (st' := [.int (nI r), .ref 11]) (h' := (n, sl, wKK kk, I, L, wQQ q)) 3 rfl ?_
        refine tv_ialN (k := r) rfl (rfl) (⟨by omega, by omega⟩) ?_
        refine tv_top (h98) ?_
        refine tv_b (pc' := (if (X 98 r) ≤ 0 then 126 else 92)) (ls' := [some (.ref 7), some (.long (jL l)), none, some (.int (nI A)), some (.int (nI B)), some (.long (jL (wD X (8 - r)))), none, some (.long (jL (mD X l (8 - r)))), none, some (.int w), some (.int (nI r)), some (.long (sp_st_overhang (nI r) (jL l) I L)), none, some (.long (sp_absL (jL (mD X l (8 - r) - wD X (8 - r) * oh X r l)))), none]) (st' := []) (h' := (n, sl, wKK kk, I, L, wQQ q)) 1 rfl ?_
        refine tv_f (hw0) ?_
        refine tv_b (pc' := 106) (ls' := [some (.ref 7), some (.long (jL l)), none, some (.int (nI A)), some (.int (nI B)), some (.long (jL (wD X (8 - r)))), none, some (.long (jL (mD X l (8 - r)))), none, some (.int w), some (.int (nI r)), some (.long (sp_st_overhang (nI r) (jL l) I L)), none, some (.long (sp_absL (jL (mD X l (8 - r) - wD X (8 - r) * oh X r l)))), none]) (st' := [.int (nI r), .ref 11, .long (sp_absL (jL (mD X l (8 - r) - wD X (8 - r) * oh X r l))), .long ((jL (wD X (8 - r))) * 1000)]) (h' := (n, sl, wKK kk, I, L, wQQ q)) 7 rfl ?_
        refine tv_ialN (k := r) rfl (rfl) (⟨by omega, by omega⟩) ?_
        refine tv_top (h98) ?_
        refine tv_b (pc' := 108) (ls' := [some (.ref 7), some (.long (jL l)), none, some (.int (nI A)), some (.int (nI B)), some (.long (jL (wD X (8 - r)))), none, some (.long (jL (mD X l (8 - r)))), none, some (.int w), some (.int (nI r)), some (.long (sp_st_overhang (nI r) (jL l) I L)), none, some (.long (sp_absL (jL (mD X l (8 - r) - wD X (8 - r) * oh X r l)))), none]) (st' := [.long ((X 98 r).toInt64), .long (sp_absL (jL (mD X l (8 - r) - wD X (8 - r) * oh X r l))), .long ((jL (wD X (8 - r))) * 1000)]) (h' := (n, sl, wKK kk, I, L, wQQ q)) 1 rfl ?_
        refine tv_ldiv rfl (hwd) ?_
        refine tv_b (pc' := 116) (ls' := [some (.ref 7), some (.long (jL l)), none, some (.int (nI A)), some (.int (nI B)), some (.long (jL (wD X (8 - r)))), none, some (.long (jL (mD X l (8 - r)))), none, some (.int w), some (.int (nI r)), some (.long (sp_st_overhang (nI r) (jL l) I L)), none, some (.long (sp_absL (jL (mD X l (8 - r) - wD X (8 - r) * oh X r l)))), none]) (st' := [.int (nI r), .ref 12, .long (((jL (wD X (8 - r))) * 1000) + ((sp_absL (jL (mD X l (8 - r) - wD X (8 - r) * oh X r l))) / ((X 98 r).toInt64)))]) (h' := (n, sl, wKK kk, I, L, wQQ q)) 4 rfl ?_
        refine tv_ialN (k := r) rfl (rfl) (⟨by omega, by omega⟩) ?_
        refine tv_top (h99) ?_
        refine tv_b (pc' := (if (lg_cmp (((jL (wD X (8 - r))) * 1000) + ((sp_absL (jL (mD X l (8 - r) - wD X (8 - r) * oh X r l))) / ((X 98 r).toInt64))) ((X 99 r).toInt64)) ≤ 0 then 126 else 122)) (ls' := [some (.ref 7), some (.long (jL l)), none, some (.int (nI A)), some (.int (nI B)), some (.long (jL (wD X (8 - r)))), none, some (.long (jL (mD X l (8 - r)))), none, some (.int w), some (.int (nI r)), some (.long (sp_st_overhang (nI r) (jL l) I L)), none, some (.long (sp_absL (jL (mD X l (8 - r) - wD X (8 - r) * oh X r l)))), none]) (st' := []) (h' := (n, sl, wKK kk, I, L, wQQ q)) 3 rfl ?_
        refine tv_if (fun c119 => ?_) (fun c119 => ?_)
        · refine tv_b (pc' := 13) (ls' := [some (.ref 7), some (.long (jL l)), none, some (.int (nI A)), some (.int (nI B)), some (.long (jL (wD X (8 - r)))), none, some (.long (jL (mD X l (8 - r)))), none, some (.int w), some (.int ((nI r) + Int32.ofInt (-1))), some (.long (sp_st_overhang (nI r) (jL l) I L)), none, some (.long (sp_absL (jL (mD X l (8 - r) - wD X (8 - r) * oh X r l)))), none]) (st' := []) (h' := (n, sl, wKK kk, I, L, wQQ q)) 2 rfl ?_
          rw [rg_d]
          have e : lbF X l A B (r + 1) w = _ := show (if r < A then w else lbF X l A B r (if r ≤ B ∧ bS X l r then nI r else w)) = _ by rw [if_neg c21, if_neg (show ¬ (r ≤ B ∧ bS X l r) from fun z => bS_p.mp z.2 c119)]
          rw [e]
          exact ih (by omega) _ _ _ _ _
        · refine tv_b (pc' := 13) (ls' := [some (.ref 7), some (.long (jL l)), none, some (.int (nI A)), some (.int (nI B)), some (.long (jL (wD X (8 - r)))), none, some (.long (jL (mD X l (8 - r)))), none, some (.int (nI r)), some (.int ((nI r) + Int32.ofInt (-1))), some (.long (sp_st_overhang (nI r) (jL l) I L)), none, some (.long (sp_absL (jL (mD X l (8 - r) - wD X (8 - r) * oh X r l)))), none]) (st' := []) (h' := (n, sl, wKK kk, I, L, wQQ q)) 4 rfl ?_
          rw [rg_d]
          have e : lbF X l A B (r + 1) w = _ := show (if r < A then w else lbF X l A B r (if r ≤ B ∧ bS X l r then nI r else w)) = _ by rw [if_neg c21, if_pos (show r ≤ B ∧ bS X l r from ⟨by omega, bS_p.mpr c119⟩)]
          rw [e]
          exact ih (by omega) _ _ _ _ _
theorem tv_x_lb {d n sl : Nat} {kk : Nat → Nat × Nat} {I : Nat → Nat → Int32} {L : Nat → Nat → Int64} {q : Nat → Nat → Option Nat} {X : Nat → Nat → Int32} {l : Int} {A B : Nat} (hc : cTow I X) (hT : wfT X) (hl : -1000000000 ≤ l ∧ l ≤ 1000000000) (hA : A < 8) (hB : B < 8) : am_Ev (d + 2) 103 0 (am_ent 15 [.ref 7, .long (jL l), .int (nI A), .int (nI B)]) [] (n, sl, wKK kk, I, L, wQQ q) (some (.int (lbF X l A B 8 (-1))), (n, sl, wKK kk, I, L, wQQ q)) := by
  refine tv_ev ?_
  show am_T _ _ 0 [some (.ref 7), some (.long (jL l)), none, some (.int (nI A)), some (.int (nI B)), none, none, none, none, none, none, none, none, none, none] _ _ _
  refine tv_b (pc' := 13) (ls' := [some (.ref 7), some (.long (jL l)), none, some (.int (nI A)), some (.int (nI B)), some (.long 0), none, some (.long 0), none, some (.int (-1)), some (.int 7), none, none, none, none]) (st' := []) (h' := (n, sl, wKK kk, I, L, wQQ q)) 8 rfl ?_
  exact tv_lb hc hT hl hA hB 8 (Nat.le_refl _) (-1) none none none none
/-- the least ring from r on that bursts -/
def ltR (X : Nat → Nat → Int32) (l : Int) : Nat → Nat → Option Nat
  | 0, _ => none
  | m + 1, r => if bS X l r then some r else ltR X l m (r + 1)
theorem lb_one {X : Nat → Nat → Int32} {l : Int} {A : Nat} (hA : A < 8) : lbF X l A A 8 (-1) = if bS X l A then nI A else -1 := by
  have h0 : ∀ p w, p ≤ A → lbF X l A A p w = w := by
    intro p
    cases p with
    | zero => intro _ _; rfl
    | succ p =>
      intro w hp
      exact if_pos (by omega)
  have h1 : ∀ e w, A + 1 + e ≤ 8 → lbF X l A A (A + 1 + e) w = if bS X l A then nI A else w := by
    intro e
    induction e with
    | zero =>
      intro w _
      show (if A < A then w else lbF X l A A A (if A ≤ A ∧ bS X l A then nI A else w)) = _
      rw [if_neg (by omega), h0 A _ (Nat.le_refl _)]
      by_cases z : bS X l A
      · rw [if_pos z, if_pos ⟨Nat.le_refl _, z⟩]
      · rw [if_neg z, if_neg (fun y => z y.2)]
    | succ e ih =>
      intro w he
      show (if A + 1 + e < A then w else lbF X l A A (A + 1 + e) (if A + 1 + e ≤ A ∧ bS X l (A + 1 + e) then nI (A + 1 + e) else w)) = _
      rw [if_neg (by omega), if_neg (by omega), ih w (by omega)]
  have := h1 (7 - A) (-1) (by omega)
  rw [show A + 1 + (7 - A) = 8 by omega] at this
  exact this
theorem lb_all {X : Nat → Nat → Int32} {l : Int} : lbF X l 0 7 8 (-1) = match ltR X l 8 0 with
    | some r => nI r
    | none => -1 := by
  have h : ∀ p w m, p + m = 8 → (match ltR X l m p with | some r => nI r | none => (-1 : Int32)) = w → lbF X l 0 7 p w = match ltR X l 8 0 with
      | some r => nI r
      | none => -1 := by
    intro p
    induction p with
    | zero =>
      intro w m hm hw
      have : m = 8 := by omega
      subst this
      exact hw.symm
    | succ p ih =>
      intro w m hm hw
      show (if p < 0 then w else lbF X l 0 7 p (if p ≤ 7 ∧ bS X l p then nI p else w)) = _
      rw [if_neg (by omega)]
      refine ih _ (m + 1) (by omega) ?_
      show (match (if bS X l p then some p else ltR X l m (p + 1)) with | some r => nI r | none => (-1 : Int32)) = _
      by_cases z : bS X l p
      · rw [if_pos z, if_pos ⟨by omega, z⟩]
      · rw [if_neg z, if_neg (fun y => z y.2)]
        exact hw
  exact h 8 (-1) 0 (by omega) rfl
theorem bil_t : ∀ x : Int32, x.toInt64 = jL x.toInt := j64_x
theorem ar_leanx {x : Int32} : sp_isWithin x.toInt64 (-1000000000) 1000000000 = 0 ↔ ¬ (-1000000000 ≤ x.toInt ∧ x.toInt ≤ 1000000000) := ar_wi2 (A := -1000000000) (B := 1000000000) (a := -1000000000) (b := 1000000000) rfl rfl ⟨by decide, by decide⟩ ⟨by decide, by decide⟩
theorem ar_leanm {x : Int32} : sp_m_is x (-1000000000) 1000000000 = 0 ↔ ¬ (-1000000000 ≤ x.toInt ∧ x.toInt ≤ 1000000000) := ar_mi2 (A := -1000000000) (B := 1000000000) (a := -1000000000) (b := 1000000000) rfl rfl ⟨by decide, by decide⟩ ⟨by decide, by decide⟩
theorem ev_x_burstsO {d n sl : Nat} {kk : Nat → Nat × Nat} {I : Nat → Nat → Int32} {L : Nat → Nat → Int64} {q : Nat → Nat → Option Nat} {r x : Int32} (hx : sp_isRing r = 0 ∨ sp_isWithin x.toInt64 (-1000000000) 1000000000 = 0) : am_Ev (d + 2) 139 0 (am_ent 3 [.ref 0, .int r, .int x]) [] (n, sl, wKK kk, I, L, wQQ q) (some (.int (-1)), (n, sl, wKK kk, I, L, wQQ q)) := by
  refine tv_ev ?_
  show am_T _ _ 0 [some (.ref 0), some (.int r), some (.int x)] _ _ _
  refine tv_b (pc' := 1) (ls' := [some (.ref 0), some (.int r), some (.int x)]) (st' := [.int r]) (h' := (n, sl, wKK kk, I, L, wQQ q)) 1 rfl ?_
  refine tv_csE [.int r] [] rfl rfl (by omega) rfl (Nat.le_of_ble_eq_true rfl) (Nat.le_of_ble_eq_true rfl) (ev_isRing) ?_
  refine tv_b (pc' := (if (sp_isRing r) = 0 then 21 else 7)) (ls' := [some (.ref 0), some (.int r), some (.int x)]) (st' := []) (h' := (n, sl, wKK kk, I, L, wQQ q)) 1 rfl ?_
  refine tv_if (fun c4 => ?_) (fun c4 => ?_)
  · refine tv_b (pc' := 22) (ls' := [some (.ref 0), some (.int r), some (.int x)]) (st' := [.int (-1)]) (h' := (n, sl, wKK kk, I, L, wQQ q)) 1 rfl ?_
    exact tv_ri rfl ⟨rfl, rfl⟩
  · refine tv_b (pc' := 15) (ls' := [some (.ref 0), some (.int r), some (.int x)]) (st' := [.long 1000000000, .long (-1000000000), .long x.toInt64]) (h' := (n, sl, wKK kk, I, L, wQQ q)) 4 rfl ?_
    refine tv_csE [.long x.toInt64, .long (-1000000000), .long 1000000000] [] rfl rfl (by omega) rfl (Nat.le_of_ble_eq_true rfl) (Nat.le_of_ble_eq_true rfl) (ev_isWithin) ?_
    refine tv_b (pc' := (if (sp_isWithin x.toInt64 (-1000000000) 1000000000) = 0 then 21 else 23)) (ls' := [some (.ref 0), some (.int r), some (.int x)]) (st' := []) (h' := (n, sl, wKK kk, I, L, wQQ q)) 1 rfl ?_
    refine tv_if (fun c18 => ?_) (fun c18 => ?_)
    · refine tv_b (pc' := 22) (ls' := [some (.ref 0), some (.int r), some (.int x)]) (st' := [.int (-1)]) (h' := (n, sl, wKK kk, I, L, wQQ q)) 1 rfl ?_
      exact tv_ri rfl ⟨rfl, rfl⟩
    · exact absurd hx (fun z => z.elim c4 c18)
theorem ev_m_burstsO {d n sl : Nat} {kk : Nat → Nat × Nat} {I : Nat → Nat → Int32} {L : Nat → Nat → Int64} {q : Nat → Nat → Option Nat} {r x : Int32} (hx : sp_m_is r 0 7 = 0 ∨ sp_m_is x (-1000000000) 1000000000 = 0) : am_Ev (d + 2) 236 0 (am_ent 3 [.ref 80, .int r, .int x]) [] (n, sl, wKK kk, I, L, wQQ q) (some (.int (-1)), (n, sl, wKK kk, I, L, wQQ q)) := by
  refine tv_ev ?_
  show am_T _ _ 0 [some (.ref 80), some (.int r), some (.int x)] _ _ _
  refine tv_b (pc' := 4) (ls' := [some (.ref 80), some (.int r), some (.int x)]) (st' := [.int 7, .int 0, .int r]) (h' := (n, sl, wKK kk, I, L, wQQ q)) 3 rfl ?_
  refine tv_csE [.int r, .int 0, .int 7] [] rfl rfl (by omega) rfl (Nat.le_of_ble_eq_true rfl) (Nat.le_of_ble_eq_true rfl) (ev_m_is) ?_
  refine tv_b (pc' := (if (sp_m_is r 0 7) = 0 then 23 else 10)) (ls' := [some (.ref 80), some (.int r), some (.int x)]) (st' := []) (h' := (n, sl, wKK kk, I, L, wQQ q)) 1 rfl ?_
  refine tv_if (fun c7 => ?_) (fun c7 => ?_)
  · refine tv_b (pc' := 42) (ls' := [some (.ref 80), some (.int r), some (.int x)]) (st' := [.int (-1)]) (h' := (n, sl, wKK kk, I, L, wQQ q)) 2 rfl ?_
    exact tv_ri rfl ⟨rfl, rfl⟩
  · refine tv_b (pc' := 17) (ls' := [some (.ref 80), some (.int r), some (.int x)]) (st' := [.int 1000000000, .int (-1000000000), .int x]) (h' := (n, sl, wKK kk, I, L, wQQ q)) 3 rfl ?_
    refine tv_csE [.int x, .int (-1000000000), .int 1000000000] [] rfl rfl (by omega) rfl (Nat.le_of_ble_eq_true rfl) (Nat.le_of_ble_eq_true rfl) (ev_m_is) ?_
    refine tv_b (pc' := (if (sp_m_is x (-1000000000) 1000000000) = 0 then 23 else 27)) (ls' := [some (.ref 80), some (.int r), some (.int x)]) (st' := []) (h' := (n, sl, wKK kk, I, L, wQQ q)) 1 rfl ?_
    refine tv_if (fun c20 => ?_) (fun c20 => ?_)
    · refine tv_b (pc' := 42) (ls' := [some (.ref 80), some (.int r), some (.int x)]) (st' := [.int (-1)]) (h' := (n, sl, wKK kk, I, L, wQQ q)) 2 rfl ?_
      exact tv_ri rfl ⟨rfl, rfl⟩
    · exact absurd hx (fun z => z.elim c7 c20)
theorem ev_x_bursts {d n sl : Nat} {kk : Nat → Nat × Nat} {I : Nat → Nat → Int32} {L : Nat → Nat → Int64} {q : Nat → Nat → Option Nat} {X : Nat → Nat → Int32} {A : Nat} {x : Int32} (hc : cTow I X) (hT : wfT X) (hA : A < 8) (hx : ¬ sp_isWithin x.toInt64 (-1000000000) 1000000000 = 0) : am_Ev (d + 3) 139 0 (am_ent 3 [.ref 0, .int (nI A), .int x]) [] (n, sl, wKK kk, I, L, wQQ q) (some (.int (if bS X x.toInt A then 1 else 0)), (n, sl, wKK kk, I, L, wQQ q)) := by
  have hl := (nn_iff ar_leanx).mp hx
  have hr : ¬ sp_isRing (nI A) = 0 := (nn_iff ar_ring).mpr (by rw [nI_j, jI_toInt ⟨by omega, by omega⟩]; omega)
  have hb := lb_one (X := X) (l := x.toInt) hA
  have h1 : ¬ (-1 : Int32) = nI A := fun z => by
    have e := congrArg Int32.toInt z
    rw [nI_j, jI_toInt ⟨by omega, by omega⟩] at e
    have : (-1 : Int32).toInt = -1 := rfl
    omega
  refine tv_ev ?_
  show am_T _ _ 0 [some (.ref 0), some (.int (nI A)), some (.int x)] _ _ _
  refine tv_b (pc' := 1) (ls' := [some (.ref 0), some (.int (nI A)), some (.int x)]) (st' := [.int (nI A)]) (h' := (n, sl, wKK kk, I, L, wQQ q)) 1 rfl ?_
  refine tv_csE [.int (nI A)] [] rfl rfl (by omega) rfl (Nat.le_of_ble_eq_true rfl) (Nat.le_of_ble_eq_true rfl) (ev_isRing) ?_
  refine tv_b (pc' := (if (sp_isRing (nI A)) = 0 then 21 else 7)) (ls' := [some (.ref 0), some (.int (nI A)), some (.int x)]) (st' := []) (h' := (n, sl, wKK kk, I, L, wQQ q)) 1 rfl ?_
  refine tv_f (hr) ?_
  refine tv_b (pc' := 15) (ls' := [some (.ref 0), some (.int (nI A)), some (.int x)]) (st' := [.long 1000000000, .long (-1000000000), .long x.toInt64]) (h' := (n, sl, wKK kk, I, L, wQQ q)) 4 rfl ?_
  refine tv_csE [.long x.toInt64, .long (-1000000000), .long 1000000000] [] rfl rfl (by omega) rfl (Nat.le_of_ble_eq_true rfl) (Nat.le_of_ble_eq_true rfl) (ev_isWithin) ?_
  refine tv_b (pc' := (if (sp_isWithin x.toInt64 (-1000000000) 1000000000) = 0 then 21 else 23)) (ls' := [some (.ref 0), some (.int (nI A)), some (.int x)]) (st' := []) (h' := (n, sl, wKK kk, I, L, wQQ q)) 1 rfl ?_
  refine tv_f (hx) ?_
  refine tv_b (pc' := 31) (ls' := [some (.ref 0), some (.int (nI A)), some (.int x)]) (st' := [.int (nI A), .int (nI A), .long x.toInt64, .ref 7]) (h' := (n, sl, wKK kk, I, L, wQQ q)) 6 rfl ?_
  rw [j64_x x]
  refine tv_cvE [.long (jL x.toInt), .int (nI A), .int (nI A)] [] rfl rfl (by omega) rfl (Nat.le_of_ble_eq_true rfl) (Nat.le_of_ble_eq_true rfl) (Or.inr (Or.inr rfl)) (tv_x_lb hc hT hl hA hA) ?_
  refine tv_b (pc' := 35) (ls' := [some (.ref 0), some (.int (nI A)), some (.int x)]) (st' := [.int (nI A), .int (lbF X x.toInt A A 8 (-1))]) (h' := (n, sl, wKK kk, I, L, wQQ q)) 1 rfl ?_
  rw [hb]
  by_cases hz : bS X x.toInt A
  · rw [if_pos hz, if_pos hz]
    refine tv_b (pc' := (if (nI A) = (nI A) then 38 else 42)) (ls' := [some (.ref 0), some (.int (nI A)), some (.int x)]) (st' := []) (h' := (n, sl, wKK kk, I, L, wQQ q)) 1 rfl ?_
    refine tv_t (rfl) ?_
    refine tv_b (pc' := 43) (ls' := [some (.ref 0), some (.int (nI A)), some (.int x)]) (st' := [.int 1]) (h' := (n, sl, wKK kk, I, L, wQQ q)) 2 rfl ?_
    exact tv_ri rfl ⟨rfl, rfl⟩
  · rw [if_neg hz, if_neg hz]
    refine tv_b (pc' := (if (-1) = (nI A) then 38 else 42)) (ls' := [some (.ref 0), some (.int (nI A)), some (.int x)]) (st' := []) (h' := (n, sl, wKK kk, I, L, wQQ q)) 1 rfl ?_
    refine tv_f (h1) ?_
    refine tv_b (pc' := 43) (ls' := [some (.ref 0), some (.int (nI A)), some (.int x)]) (st' := [.int 0]) (h' := (n, sl, wKK kk, I, L, wQQ q)) 1 rfl ?_
    exact tv_ri rfl ⟨rfl, rfl⟩
theorem ev_m_bursts {d n sl : Nat} {kk : Nat → Nat × Nat} {I : Nat → Nat → Int32} {L : Nat → Nat → Int64} {q : Nat → Nat → Option Nat} {A : Nat} {x : Int32} (hT : wfT I) (hA : A < 8) (hx : ¬ sp_m_is x (-1000000000) 1000000000 = 0) : am_Ev (d + 3) 236 0 (am_ent 3 [.ref 80, .int (nI A), .int x]) [] (n, sl, wKK kk, I, L, wQQ q) (some (.int (if bS I x.toInt A then 1 else 0)), (n, sl, wKK kk, I, L, wQQ q)) := by
  have hl := (nn_iff ar_leanm).mp hx
  have hr : ¬ sp_m_is (nI A) 0 7 = 0 := (nn_iff ar_mring).mpr (by rw [nI_j, jI_toInt ⟨by omega, by omega⟩]; omega)
  have hw := (hT.2.2.1 A hA).2.2.2.1
  have hwd : ¬ (I 98 A).toInt64 = 0 := fun z => by
    rw [j64_x, show (0 : Int64) = jL 0 from rfl] at z
    have := congrArg Int64.toInt z
    rw [jL_toInt ⟨by omega, by omega⟩, jL_toInt ⟨by decide, by decide⟩] at this
    omega
  have hv := isBurst_v (L := L) hT hl hA
  refine tv_ev ?_
  show am_T _ _ 0 [some (.ref 80), some (.int (nI A)), some (.int x)] _ _ _
  refine tv_b (pc' := 4) (ls' := [some (.ref 80), some (.int (nI A)), some (.int x)]) (st' := [.int 7, .int 0, .int (nI A)]) (h' := (n, sl, wKK kk, I, L, wQQ q)) 3 rfl ?_
  refine tv_csE [.int (nI A), .int 0, .int 7] [] rfl rfl (by omega) rfl (Nat.le_of_ble_eq_true rfl) (Nat.le_of_ble_eq_true rfl) (ev_m_is) ?_
  refine tv_b (pc' := (if (sp_m_is (nI A) 0 7) = 0 then 23 else 10)) (ls' := [some (.ref 80), some (.int (nI A)), some (.int x)]) (st' := []) (h' := (n, sl, wKK kk, I, L, wQQ q)) 1 rfl ?_
  refine tv_f (hr) ?_
  refine tv_b (pc' := 17) (ls' := [some (.ref 80), some (.int (nI A)), some (.int x)]) (st' := [.int 1000000000, .int (-1000000000), .int x]) (h' := (n, sl, wKK kk, I, L, wQQ q)) 3 rfl ?_
  refine tv_csE [.int x, .int (-1000000000), .int 1000000000] [] rfl rfl (by omega) rfl (Nat.le_of_ble_eq_true rfl) (Nat.le_of_ble_eq_true rfl) (ev_m_is) ?_
  refine tv_b (pc' := (if (sp_m_is x (-1000000000) 1000000000) = 0 then 23 else 27)) (ls' := [some (.ref 80), some (.int (nI A)), some (.int x)]) (st' := []) (h' := (n, sl, wKK kk, I, L, wQQ q)) 1 rfl ?_
  refine tv_f (hx) ?_
  refine tv_b (pc' := 31) (ls' := [some (.ref 80), some (.int (nI A)), some (.int x)]) (st' := [.long x.toInt64, .int (nI A), .ref 80]) (h' := (n, sl, wKK kk, I, L, wQQ q)) 4 rfl ?_
  rw [j64_x x]
  refine tv_cvE [.int (nI A), .long (jL x.toInt)] [] rfl rfl (by omega) rfl (Nat.le_of_ble_eq_true rfl) (Nat.le_of_ble_eq_true rfl) (Or.inr (Or.inr rfl)) (ev_m_isBurst2 hA hwd) ?_
  rw [hv]
  by_cases hz : bS I x.toInt A
  · rw [if_pos hz]
    refine tv_b (pc' := 42) (ls' := [some (.ref 80), some (.int (nI A)), some (.int x)]) (st' := [.int 1]) (h' := (n, sl, wKK kk, I, L, wQQ q)) 3 rfl ?_
    exact tv_ri rfl ⟨rfl, rfl⟩
  · rw [if_neg hz]
    refine tv_b (pc' := 42) (ls' := [some (.ref 80), some (.int (nI A)), some (.int x)]) (st' := [.int 0]) (h' := (n, sl, wKK kk, I, L, wQQ q)) 2 rfl ?_
    exact tv_ri rfl ⟨rfl, rfl⟩
theorem jx_bursts {r x : Int32} : jx 139 (am_ent 3 [.ref 0, .int r, .int x]) 236 (am_ent 3 [.ref 80, .int r, .int x]) := by
  rintro k h hk ⟨n, sl, kk, I, L, q, rfl, C, ah, M, tx, T, g, hr, ht, hu, hs, hc, hj, hn, hsl⟩
  have same := h_same (q := q) hk g hr ht hu hs hc hj hn hsl
  by_cases h : sp_isRing r = 0 ∨ sp_isWithin x.toInt64 (-1000000000) 1000000000 = 0
  · exact jx_e (d1 := 2) (d2 := 2) (by decide) (by decide) (ev_x_burstsO (d := 0) h) (ev_m_burstsO (d := 0) (h.imp (fun z => ar_mring.mpr (ar_ring.mp z)) (fun z => ar_leanm.mpr (ar_leanx.mp z)))) same
  · have n1 : ¬ sp_isWithin x.toInt64 (-1000000000) 1000000000 = 0 := fun z => h (Or.inr z)
    have n2 : ¬ sp_m_is x (-1000000000) 1000000000 = 0 := fun z => n1 (ar_leanx.mpr (ar_leanm.mp z))
    have rr := (nn_iff ar_ring).mp (fun z => h (Or.inl z))
    rw [x_nI rr.1]
    have hA : r.toInt.toNat < 8 := by omega
    generalize r.toInt.toNat = A at hA
    exact jx_e (d1 := 3) (d2 := 3) (by decide) (by decide) (ev_x_bursts (d := 0) g.2.2.1.1 g.1 hA n1) (ev_m_bursts (d := 0) g.1 hA n2) same
