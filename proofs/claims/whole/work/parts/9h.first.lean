/-! FIRST -/
def firF (X : Nat → Nat → Int32) (b : Int32) (a c : Int) : Nat → Nat → Int32
  | 0, _ => -1
  | m + 1, i => if 1000000000 < a + i * c then -1 else match ltR X (a + i * c) 8 0 with
    | some r => if b = 0 then jI (a + i * c) else nI r
    | none => firF X b a c m (i + 1)
theorem ltR_lt {X : Nat → Nat → Int32} {l : Int} : ∀ m p r, ltR X l m p = some r → r < p + m := by
  intro m
  induction m with
  | zero => intro p r h; cases h
  | succ m ih =>
    intro p r h
    have h2 : (if bS X l p then some p else ltR X l m (p + 1)) = some r := h
    by_cases z : bS X l p
    · rw [if_pos z] at h2; cases h2; omega
    · rw [if_neg z] at h2; have := ih _ _ h2; omega
theorem cmpG {z : Int} (hz : -1000000000 ≤ z ∧ z ≤ 4000000000) : (0 < lg_cmp (jL z) 1000000000 ↔ 1000000000 < z) ∧ (lg_cmp (jL z) 1000000000 ≤ 0 ↔ ¬ 1000000000 < z) := by
  have e : (1000000000 : Int64) = jL 1000000000 := rfl
  have h1 : lg_cmp (jL z) 1000000000 ≤ 0 ↔ ¬ 1000000000 < z := by rw [cmp_le, e, jL_lt ⟨by decide, by decide⟩ ⟨by omega, by omega⟩]
  refine ⟨⟨fun h => ?_, fun h => ?_⟩, h1⟩
  · exact Classical.not_not.mp (fun q => absurd (h1.mpr q) (Int32.not_le.mpr h))
  · exact Int32.not_le.mp (fun q => (h1.mp q) h)
theorem tv_x_fst {d n sl : Nat} {kk : Nat → Nat × Nat} {I : Nat → Nat → Int32} {L : Nat → Nat → Int64} {q : Nat → Nat → Option Nat} {X : Nat → Nat → Int32} {b x y : Int32} (hc : cTow I X) (hT : wfT X) (hx : 0 ≤ x.toInt ∧ x.toInt ≤ 1000000000) (hy : 1 ≤ y.toInt ∧ y.toInt ≤ 10000000) : ∀ m i : Nat, i + m = 200 → ∀ o7 : Option Value, am_T (d + 3) 140 33 [some (.ref 0), some (.int b), some (.int x), some (.int y), some (.long (jL (x.toInt + (i : Int) * y.toInt))), none, some (.int (nI i)), o7] [] (n, sl, wKK kk, I, L, wQQ q) (fun rv h' => rv = some (.int (firF X b x.toInt y.toInt m i)) ∧ h' = (n, sl, wKK kk, I, L, wQQ q)) := by
  intro m
  induction m with
  | zero =>
    intro i hi o7
    have hi2 : i = 200 := by omega
    subst hi2
    show am_T _ _ 33 [some (.ref 0), some (.int b), some (.int x), some (.int y), some (.long (jL (x.toInt + ((200 : Nat) : Int) * y.toInt))), none, some (.int 200), o7] _ _ _
    refine tv_b (pc' := 97) (ls' := [some (.ref 0), some (.int b), some (.int x), some (.int y), some (.long (jL (x.toInt + ((200 : Nat) : Int) * y.toInt))), none, some (.int 200), o7]) (st' := [.int (-1)]) (h' := (n, sl, wKK kk, I, L, wQQ q)) 4 rfl ?_
    exact tv_ri rfl ⟨rfl, rfl⟩
  | succ m ih =>
    intro i hi o7
    have hm := mulB (a := (i : Int)) (b := y.toInt) (A := 200) (B := 10000000) ⟨by omega, by omega⟩ ⟨by omega, by omega⟩
    have h0 : 0 ≤ (i : Int) * y.toInt := Int.mul_nonneg (by omega) (by omega)
    have hg := (cmpG (z := x.toInt + (i : Int) * y.toInt) ⟨by omega, by omega⟩).1
    have hnx : jL (x.toInt + (i : Int) * y.toInt) + y.toInt64 = jL (x.toInt + ((i + 1 : Nat) : Int) * y.toInt) := by
      rw [j64_x y, jL_add]
      refine congrArg jL ?_
      rw [Int.natCast_add, Int.add_mul]
      show _ = x.toInt + ((i : Int) * y.toInt + 1 * y.toInt)
      omega
    have hF : firF X b x.toInt y.toInt (m + 1) i = if 1000000000 < x.toInt + (i : Int) * y.toInt then -1 else match ltR X (x.toInt + (i : Int) * y.toInt) 8 0 with
      | some r => if b = 0 then jI (x.toInt + (i : Int) * y.toInt) else nI r
      | none => firF X b x.toInt y.toInt m (i + 1) := rfl
    rw [hF]
    generalize hlz : x.toInt + (i : Int) * y.toInt = l at hg hnx h0 hm
    by_cases hb : 1000000000 < l
    · rw [if_pos hb]
      show am_T _ _ 33 [some (.ref 0), some (.int b), some (.int x), some (.int y), some (.long (jL l)), none, some (.int (nI i)), o7] _ _ _
      refine tv_b (pc' := (if 200 ≤ (nI i) then 96 else 41)) (ls' := [some (.ref 0), some (.int b), some (.int x), some (.int y), some (.long (jL l)), none, some (.int (nI i)), o7]) (st' := []) (h' := (n, sl, wKK kk, I, L, wQQ q)) 3 rfl ?_
      refine tv_f (fun hq => absurd ((nI_leI (a := 200) (b := i) (by omega) (by omega)).mp hq) (by omega)) ?_
      refine tv_b (pc' := (if 0 < (lg_cmp (jL l) 1000000000) then 96 else 50)) (ls' := [some (.ref 0), some (.int b), some (.int x), some (.int y), some (.long (jL l)), none, some (.int (nI i)), o7]) (st' := []) (h' := (n, sl, wKK kk, I, L, wQQ q)) 4 rfl ?_
      refine tv_t (hg.mpr hb) ?_
      refine tv_b (pc' := 97) (ls' := [some (.ref 0), some (.int b), some (.int x), some (.int y), some (.long (jL l)), none, some (.int (nI i)), o7]) (st' := [.int (-1)]) (h' := (n, sl, wKK kk, I, L, wQQ q)) 1 rfl ?_
      exact tv_ri rfl ⟨rfl, rfl⟩
    · rw [if_neg hb]
      have hl : -1000000000 ≤ l ∧ l ≤ 1000000000 := by omega
      show am_T _ _ 33 [some (.ref 0), some (.int b), some (.int x), some (.int y), some (.long (jL l)), none, some (.int (nI i)), o7] _ _ _
      refine tv_b (pc' := (if 200 ≤ (nI i) then 96 else 41)) (ls' := [some (.ref 0), some (.int b), some (.int x), some (.int y), some (.long (jL l)), none, some (.int (nI i)), o7]) (st' := []) (h' := (n, sl, wKK kk, I, L, wQQ q)) 3 rfl ?_
      refine tv_f (fun hq => absurd ((nI_leI (a := 200) (b := i) (by omega) (by omega)).mp hq) (by omega)) ?_
      refine tv_b (pc' := (if 0 < (lg_cmp (jL l) 1000000000) then 96 else 50)) (ls' := [some (.ref 0), some (.int b), some (.int x), some (.int y), some (.long (jL l)), none, some (.int (nI i)), o7]) (st' := []) (h' := (n, sl, wKK kk, I, L, wQQ q)) 4 rfl ?_
      refine tv_f (fun q => hb (hg.mp q)) ?_
      refine tv_b (pc' := 59) (ls' := [some (.ref 0), some (.int b), some (.int x), some (.int y), some (.long (jL l)), none, some (.int (nI i)), o7]) (st' := [.int 7, .int 0, .long (jL l), .ref 7]) (h' := (n, sl, wKK kk, I, L, wQQ q)) 5 rfl ?_
      refine tv_cvE [.long (jL l), .int 0, .int 7] [] rfl rfl (by omega) rfl (Nat.le_of_ble_eq_true rfl) (Nat.le_of_ble_eq_true rfl) (Or.inr (Or.inr rfl)) (tv_x_lb (A := 0) (B := 7) hc hT hl (by decide) (by decide)) ?_
      rw [lb_all]
      rcases hz : ltR X l 8 0 with _ | r
      · show am_T _ _ _ _ [.int (-1)] _ _
        refine tv_b (pc' := 90) (ls' := [some (.ref 0), some (.int b), some (.int x), some (.int y), some (.long ((jL l) + y.toInt64)), none, some (.int (nI i)), some (.int (-1))]) (st' := []) (h' := (n, sl, wKK kk, I, L, wQQ q)) 9 rfl ?_
        refine tv_iincN (k := i) (ls' := [some (.ref 0), some (.int b), some (.int x), some (.int y), some (.long ((jL l) + y.toInt64)), none, some (.int (nI (i + 1))), some (.int (-1))]) rfl rfl rfl ?_
        refine tv_b (pc' := 33) (ls' := [some (.ref 0), some (.int b), some (.int x), some (.int y), some (.long ((jL l) + y.toInt64)), none, some (.int (nI (i + 1))), some (.int (-1))]) (st' := []) (h' := (n, sl, wKK kk, I, L, wQQ q)) 1 rfl ?_
        rw [hnx]
        exact ih (i + 1) (by omega) _
      · have hr8 := ltR_lt 8 0 r hz
        show am_T _ _ _ _ [.int (nI r)] _ (fun rv h' => rv = some (Value.int (if b = 0 then jI l else nI r)) ∧ h' = (n, sl, wKK kk, I, L, wQQ q))
        have hne : ¬ nI r = -1 := fun z => by
          have e := congrArg Int32.toInt z
          rw [nI_j, jI_toInt ⟨by omega, by omega⟩] at e
          have : (-1 : Int32).toInt = -1 := rfl
          omega
        refine tv_b (pc' := (if (nI r) = (-1) then 83 else 70)) (ls' := [some (.ref 0), some (.int b), some (.int x), some (.int y), some (.long (jL l)), none, some (.int (nI i)), some (.int (nI r))]) (st' := []) (h' := (n, sl, wKK kk, I, L, wQQ q)) 4 rfl ?_
        refine tv_f (hne) ?_
        refine tv_b (pc' := (if b = 0 then 79 else 74)) (ls' := [some (.ref 0), some (.int b), some (.int x), some (.int y), some (.long (jL l)), none, some (.int (nI i)), some (.int (nI r))]) (st' := []) (h' := (n, sl, wKK kk, I, L, wQQ q)) 2 rfl ?_
        refine tv_if (fun c71 => ?_) (fun c71 => ?_)
        · refine tv_b (pc' := 82) (ls' := [some (.ref 0), some (.int b), some (.int x), some (.int y), some (.long (jL l)), none, some (.int (nI i)), some (.int (nI r))]) (st' := [.int ((jL l).toInt32)]) (h' := (n, sl, wKK kk, I, L, wQQ q)) 2 rfl ?_
          exact tv_ri rfl ⟨by rw [if_pos c71, jL_32], rfl⟩
        · refine tv_b (pc' := 82) (ls' := [some (.ref 0), some (.int b), some (.int x), some (.int y), some (.long (jL l)), none, some (.int (nI i)), some (.int (nI r))]) (st' := [.int (nI r)]) (h' := (n, sl, wKK kk, I, L, wQQ q)) 2 rfl ?_
          exact tv_ri rfl ⟨by rw [if_neg c71], rfl⟩
theorem tv_m_fr {d n sl : Nat} {kk : Nat → Nat × Nat} {I : Nat → Nat → Int32} {L : Nat → Nat → Int64} {q : Nat → Nat → Option Nat} {b x y : Int32} {i : Nat} {l : Int} {P : Option Value → am_H → Prop} (hT : wfT I) (hl : -1000000000 ≤ l ∧ l ≤ 1000000000) : ∀ m p : Nat, p + m = 8 → (∀ r, ltR I l m p = some r → P (some (.int (if b = 0 then jI l else nI r))) (n, sl, wKK kk, I, L, wQQ q)) → (ltR I l m p = none → am_T (d + 3) 237 97 [some (.ref 80), some (.int b), some (.int x), some (.int y), some (.int (nI i)), some (.long (jL l)), none, some (.int (nI 8))] [] (n, sl, wKK kk, I, L, wQQ q) P) → am_T (d + 3) 237 60 [some (.ref 80), some (.int b), some (.int x), some (.int y), some (.int (nI i)), some (.long (jL l)), none, some (.int (nI p))] [] (n, sl, wKK kk, I, L, wQQ q) P := by
  intro m
  induction m with
  | zero =>
    intro p hp hS hN
    have hp8 : p = 8 := by omega
    subst hp8
    have h := hN rfl
    show am_T _ _ 60 [some (.ref 80), some (.int b), some (.int x), some (.int y), some (.int (nI i)), some (.long (jL l)), none, some (.int (nI 8))] _ _ _
    refine tv_b (pc' := (if 8 ≤ (nI 8) then 97 else 67)) (ls' := [some (.ref 80), some (.int b), some (.int x), some (.int y), some (.int (nI i)), some (.long (jL l)), none, some (.int (nI 8))]) (st' := []) (h' := (n, sl, wKK kk, I, L, wQQ q)) 3 rfl ?_
    refine tv_t ((nI_leI (a := 8) (b := 8) (by omega) (by omega)).mpr (Nat.le_refl _)) ?_
    exact h
  | succ m ih =>
    intro p hp hS hN
    have hw := (hT.2.2.1 p (by omega)).2.2.2.1
    have hwd : ¬ (I 98 p).toInt64 = 0 := fun z => by
      rw [j64_x, show (0 : Int64) = jL 0 from rfl] at z
      have := congrArg Int64.toInt z
      rw [jL_toInt ⟨by omega, by omega⟩, jL_toInt ⟨by decide, by decide⟩] at this
      omega
    have hv := isBurst_v (L := L) hT hl (show p < 8 by omega)
    have e : ltR I l (m + 1) p = if bS I l p then some p else ltR I l m (p + 1) := rfl
    rw [e] at hS hN
    show am_T _ _ 60 [some (.ref 80), some (.int b), some (.int x), some (.int y), some (.int (nI i)), some (.long (jL l)), none, some (.int (nI p))] _ _ _
    refine tv_b (pc' := (if 8 ≤ (nI p) then 97 else 67)) (ls' := [some (.ref 80), some (.int b), some (.int x), some (.int y), some (.int (nI i)), some (.long (jL l)), none, some (.int (nI p))]) (st' := []) (h' := (n, sl, wKK kk, I, L, wQQ q)) 3 rfl ?_
    refine tv_f (fun hq => absurd ((nI_leI (a := 8) (b := p) (by omega) (by omega)).mp hq) (by omega)) ?_
    refine tv_b (pc' := 72) (ls' := [some (.ref 80), some (.int b), some (.int x), some (.int y), some (.int (nI i)), some (.long (jL l)), none, some (.int (nI p))]) (st' := [.long (jL l), .int (nI p), .ref 80]) (h' := (n, sl, wKK kk, I, L, wQQ q)) 3 rfl ?_
    refine tv_cvE [.int (nI p), .long (jL l)] [] rfl rfl (by omega) rfl (Nat.le_of_ble_eq_true rfl) (Nat.le_of_ble_eq_true rfl) (Or.inr (Or.inr rfl)) (ev_m_isBurst2 (by omega) hwd) ?_
    rw [hv]
    by_cases hz : bS I l p
    · rw [if_pos hz]
      rw [if_pos hz] at hS
      refine tv_b (pc' := (if b = 0 then 87 else 82)) (ls' := [some (.ref 80), some (.int b), some (.int x), some (.int y), some (.int (nI i)), some (.long (jL l)), none, some (.int (nI p))]) (st' := []) (h' := (n, sl, wKK kk, I, L, wQQ q)) 3 rfl ?_
      refine tv_if (fun c79 => ?_) (fun c79 => ?_)
      · refine tv_b (pc' := 90) (ls' := [some (.ref 80), some (.int b), some (.int x), some (.int y), some (.int (nI i)), some (.long (jL l)), none, some (.int (nI p))]) (st' := [.int ((jL l).toInt32)]) (h' := (n, sl, wKK kk, I, L, wQQ q)) 2 rfl ?_
        have hq := hS p rfl
        rw [if_pos c79] at hq
        rw [jL_32]
        exact tv_ri rfl hq
      · refine tv_b (pc' := 90) (ls' := [some (.ref 80), some (.int b), some (.int x), some (.int y), some (.int (nI i)), some (.long (jL l)), none, some (.int (nI p))]) (st' := [.int (nI p)]) (h' := (n, sl, wKK kk, I, L, wQQ q)) 2 rfl ?_
        have hq := hS p rfl
        rw [if_neg c79] at hq
        exact tv_ri rfl hq
    · rw [if_neg hz]
      rw [if_neg hz] at hS hN
      refine tv_b (pc' := 91) (ls' := [some (.ref 80), some (.int b), some (.int x), some (.int y), some (.int (nI i)), some (.long (jL l)), none, some (.int (nI p))]) (st' := []) (h' := (n, sl, wKK kk, I, L, wQQ q)) 1 rfl ?_
      refine tv_iincN (k := p) (ls' := [some (.ref 80), some (.int b), some (.int x), some (.int y), some (.int (nI i)), some (.long (jL l)), none, some (.int (nI (p + 1)))]) rfl rfl rfl ?_
      refine tv_b (pc' := 60) (ls' := [some (.ref 80), some (.int b), some (.int x), some (.int y), some (.int (nI i)), some (.long (jL l)), none, some (.int (nI (p + 1)))]) (st' := []) (h' := (n, sl, wKK kk, I, L, wQQ q)) 1 rfl ?_
      exact ih (p + 1) (by omega) hS hN
theorem tv_m_fst {d n sl : Nat} {kk : Nat → Nat × Nat} {I : Nat → Nat → Int32} {L : Nat → Nat → Int64} {q : Nat → Nat → Option Nat} {b x y : Int32} (hT : wfT I) (hx : 0 ≤ x.toInt ∧ x.toInt ≤ 1000000000) (hy : 1 ≤ y.toInt ∧ y.toInt ≤ 10000000) : ∀ m i : Nat, i + m = 200 → ∀ o5 o6 o7 : Option Value, am_T (d + 3) 237 27 [some (.ref 80), some (.int b), some (.int x), some (.int y), some (.int (nI i)), o5, o6, o7] [] (n, sl, wKK kk, I, L, wQQ q) (fun rv h' => rv = some (.int (firF I b x.toInt y.toInt m i)) ∧ h' = (n, sl, wKK kk, I, L, wQQ q)) := by
  intro m
  induction m with
  | zero =>
    intro i hi o5 o6 o7
    have hi2 : i = 200 := by omega
    subst hi2
    show am_T _ _ 27 [some (.ref 80), some (.int b), some (.int x), some (.int y), some (.int 200), o5, o6, o7] _ _ _
    refine tv_b (pc' := 104) (ls' := [some (.ref 80), some (.int b), some (.int x), some (.int y), some (.int 200), o5, o6, o7]) (st' := [.int (-1)]) (h' := (n, sl, wKK kk, I, L, wQQ q)) 4 rfl ?_
    exact tv_ri rfl ⟨rfl, rfl⟩
  | succ m ih =>
    intro i hi o5 o6 o7
    have hm := mulB (a := (i : Int)) (b := y.toInt) (A := 200) (B := 10000000) ⟨by omega, by omega⟩ ⟨by omega, by omega⟩
    have h0 : 0 ≤ (i : Int) * y.toInt := Int.mul_nonneg (by omega) (by omega)
    have hg := (cmpG (z := x.toInt + (i : Int) * y.toInt) ⟨by omega, by omega⟩).2
    have hlean : x.toInt64 + (nI i).toInt64 * y.toInt64 = jL (x.toInt + (i : Int) * y.toInt) := by
      rw [j64_x x, j64_x y, nI_j, jI_64 ⟨by omega, by omega⟩, jL_mul, jL_add]
    have hF : firF I b x.toInt y.toInt (m + 1) i = if 1000000000 < x.toInt + (i : Int) * y.toInt then -1 else match ltR I (x.toInt + (i : Int) * y.toInt) 8 0 with
      | some r => if b = 0 then jI (x.toInt + (i : Int) * y.toInt) else nI r
      | none => firF I b x.toInt y.toInt m (i + 1) := rfl
    rw [hF]
    generalize hlz : x.toInt + (i : Int) * y.toInt = l at hg hlean h0 hm
    by_cases hb : 1000000000 < l
    · rw [if_pos hb]
      show am_T _ _ 27 [some (.ref 80), some (.int b), some (.int x), some (.int y), some (.int (nI i)), o5, o6, o7] _ _ _
      refine tv_b (pc' := (if 200 ≤ (nI i) then 103 else 35)) (ls' := [some (.ref 80), some (.int b), some (.int x), some (.int y), some (.int (nI i)), o5, o6, o7]) (st' := []) (h' := (n, sl, wKK kk, I, L, wQQ q)) 3 rfl ?_
      refine tv_f (fun hq => absurd ((nI_leI (a := 200) (b := i) (by omega) (by omega)).mp hq) (by omega)) ?_
      refine tv_b (pc' := 44) (ls' := [some (.ref 80), some (.int b), some (.int x), some (.int y), some (.int (nI i)), o5, o6, o7]) (st' := [.long (x.toInt64 + (((nI i).toInt64) * y.toInt64))]) (h' := (n, sl, wKK kk, I, L, wQQ q)) 8 rfl ?_
      rw [hlean]
      refine tv_b (pc' := (if (lg_cmp (jL l) 1000000000) ≤ 0 then 57 else 55)) (ls' := [some (.ref 80), some (.int b), some (.int x), some (.int y), some (.int (nI i)), some (.long (jL l)), none, o7]) (st' := []) (h' := (n, sl, wKK kk, I, L, wQQ q)) 5 rfl ?_
      refine tv_f (fun q => (hg.mp q) hb) ?_
      refine tv_b (pc' := 56) (ls' := [some (.ref 80), some (.int b), some (.int x), some (.int y), some (.int (nI i)), some (.long (jL l)), none, o7]) (st' := [.int (-1)]) (h' := (n, sl, wKK kk, I, L, wQQ q)) 1 rfl ?_
      exact tv_ri rfl ⟨rfl, rfl⟩
    · rw [if_neg hb]
      have hl : -1000000000 ≤ l ∧ l ≤ 1000000000 := by omega
      show am_T _ _ 27 [some (.ref 80), some (.int b), some (.int x), some (.int y), some (.int (nI i)), o5, o6, o7] _ _ _
      refine tv_b (pc' := (if 200 ≤ (nI i) then 103 else 35)) (ls' := [some (.ref 80), some (.int b), some (.int x), some (.int y), some (.int (nI i)), o5, o6, o7]) (st' := []) (h' := (n, sl, wKK kk, I, L, wQQ q)) 3 rfl ?_
      refine tv_f (fun hq => absurd ((nI_leI (a := 200) (b := i) (by omega) (by omega)).mp hq) (by omega)) ?_
      refine tv_b (pc' := 44) (ls' := [some (.ref 80), some (.int b), some (.int x), some (.int y), some (.int (nI i)), o5, o6, o7]) (st' := [.long (x.toInt64 + (((nI i).toInt64) * y.toInt64))]) (h' := (n, sl, wKK kk, I, L, wQQ q)) 8 rfl ?_
      rw [hlean]
      refine tv_b (pc' := (if (lg_cmp (jL l) 1000000000) ≤ 0 then 57 else 55)) (ls' := [some (.ref 80), some (.int b), some (.int x), some (.int y), some (.int (nI i)), some (.long (jL l)), none, o7]) (st' := []) (h' := (n, sl, wKK kk, I, L, wQQ q)) 5 rfl ?_
      refine tv_t (hg.mpr hb) ?_
      refine tv_b (pc' := 60) (ls' := [some (.ref 80), some (.int b), some (.int x), some (.int y), some (.int (nI i)), some (.long (jL l)), none, some (.int 0)]) (st' := []) (h' := (n, sl, wKK kk, I, L, wQQ q)) 2 rfl ?_
      refine tv_m_fr hT hl 8 0 rfl (fun r hr => ⟨by rw [hr], rfl⟩) (fun hn => ?_)
      rw [hn]
      refine tv_iincN (k := i) (ls' := [some (.ref 80), some (.int b), some (.int x), some (.int y), some (.int (nI (i + 1))), some (.long (jL l)), none, some (.int (nI 8))]) rfl rfl rfl ?_
      refine tv_b (pc' := 27) (ls' := [some (.ref 80), some (.int b), some (.int x), some (.int y), some (.int (nI (i + 1))), some (.long (jL l)), none, some (.int (nI 8))]) (st' := []) (h' := (n, sl, wKK kk, I, L, wQQ q)) 1 rfl ?_
      exact ih (i + 1) (by omega) _ _ _
theorem ev_x_firstO {d n sl : Nat} {kk : Nat → Nat × Nat} {I : Nat → Nat → Int32} {L : Nat → Nat → Int64} {q : Nat → Nat → Option Nat} {b x y : Int32} (hx : sp_isWithin x.toInt64 0 1000000000 = 0 ∨ sp_isWithin y.toInt64 1 10000000 = 0) : am_Ev (d + 2) 140 0 (am_ent 8 [.ref 0, .int b, .int x, .int y]) [] (n, sl, wKK kk, I, L, wQQ q) (some (.int (-1)), (n, sl, wKK kk, I, L, wQQ q)) := by
  refine tv_ev ?_
  show am_T _ _ 0 [some (.ref 0), some (.int b), some (.int x), some (.int y), none, none, none, none] _ _ _
  refine tv_b (pc' := 6) (ls' := [some (.ref 0), some (.int b), some (.int x), some (.int y), none, none, none, none]) (st' := [.long 1000000000, .long 0, .long x.toInt64]) (h' := (n, sl, wKK kk, I, L, wQQ q)) 4 rfl ?_
  refine tv_csE [.long x.toInt64, .long 0, .long 1000000000] [] rfl rfl (by omega) rfl (Nat.le_of_ble_eq_true rfl) (Nat.le_of_ble_eq_true rfl) (ev_isWithin) ?_
  refine tv_b (pc' := (if (sp_isWithin x.toInt64 0 1000000000) = 0 then 24 else 12)) (ls' := [some (.ref 0), some (.int b), some (.int x), some (.int y), none, none, none, none]) (st' := []) (h' := (n, sl, wKK kk, I, L, wQQ q)) 1 rfl ?_
  refine tv_if (fun c9 => ?_) (fun c9 => ?_)
  · refine tv_b (pc' := 25) (ls' := [some (.ref 0), some (.int b), some (.int x), some (.int y), none, none, none, none]) (st' := [.int (-1)]) (h' := (n, sl, wKK kk, I, L, wQQ q)) 1 rfl ?_
    exact tv_ri rfl ⟨rfl, rfl⟩
  · refine tv_b (pc' := 18) (ls' := [some (.ref 0), some (.int b), some (.int x), some (.int y), none, none, none, none]) (st' := [.long 10000000, .long 1, .long y.toInt64]) (h' := (n, sl, wKK kk, I, L, wQQ q)) 4 rfl ?_
    refine tv_csE [.long y.toInt64, .long 1, .long 10000000] [] rfl rfl (by omega) rfl (Nat.le_of_ble_eq_true rfl) (Nat.le_of_ble_eq_true rfl) (ev_isWithin) ?_
    refine tv_b (pc' := (if (sp_isWithin y.toInt64 1 10000000) = 0 then 24 else 26)) (ls' := [some (.ref 0), some (.int b), some (.int x), some (.int y), none, none, none, none]) (st' := []) (h' := (n, sl, wKK kk, I, L, wQQ q)) 1 rfl ?_
    refine tv_if (fun c21 => ?_) (fun c21 => ?_)
    · refine tv_b (pc' := 25) (ls' := [some (.ref 0), some (.int b), some (.int x), some (.int y), none, none, none, none]) (st' := [.int (-1)]) (h' := (n, sl, wKK kk, I, L, wQQ q)) 1 rfl ?_
      exact tv_ri rfl ⟨rfl, rfl⟩
    · exact absurd hx (fun z => z.elim c9 c21)
theorem ev_m_firstO {d n sl : Nat} {kk : Nat → Nat × Nat} {I : Nat → Nat → Int32} {L : Nat → Nat → Int64} {q : Nat → Nat → Option Nat} {b x y : Int32} (hx : sp_m_is x 0 1000000000 = 0 ∨ sp_m_is y 1 10000000 = 0) : am_Ev (d + 2) 237 0 (am_ent 8 [.ref 80, .int b, .int x, .int y]) [] (n, sl, wKK kk, I, L, wQQ q) (some (.int (-1)), (n, sl, wKK kk, I, L, wQQ q)) := by
  refine tv_ev ?_
  show am_T _ _ 0 [some (.ref 80), some (.int b), some (.int x), some (.int y), none, none, none, none] _ _ _
  refine tv_b (pc' := 5) (ls' := [some (.ref 80), some (.int b), some (.int x), some (.int y), none, none, none, none]) (st' := [.int 1000000000, .int 0, .int x]) (h' := (n, sl, wKK kk, I, L, wQQ q)) 3 rfl ?_
  refine tv_csE [.int x, .int 0, .int 1000000000] [] rfl rfl (by omega) rfl (Nat.le_of_ble_eq_true rfl) (Nat.le_of_ble_eq_true rfl) (ev_m_is) ?_
  refine tv_b (pc' := (if (sp_m_is x 0 1000000000) = 0 then 22 else 11)) (ls' := [some (.ref 80), some (.int b), some (.int x), some (.int y), none, none, none, none]) (st' := []) (h' := (n, sl, wKK kk, I, L, wQQ q)) 1 rfl ?_
  refine tv_if (fun c8 => ?_) (fun c8 => ?_)
  · refine tv_b (pc' := 23) (ls' := [some (.ref 80), some (.int b), some (.int x), some (.int y), none, none, none, none]) (st' := [.int (-1)]) (h' := (n, sl, wKK kk, I, L, wQQ q)) 1 rfl ?_
    exact tv_ri rfl ⟨rfl, rfl⟩
  · refine tv_b (pc' := 16) (ls' := [some (.ref 80), some (.int b), some (.int x), some (.int y), none, none, none, none]) (st' := [.int 10000000, .int 1, .int y]) (h' := (n, sl, wKK kk, I, L, wQQ q)) 3 rfl ?_
    refine tv_csE [.int y, .int 1, .int 10000000] [] rfl rfl (by omega) rfl (Nat.le_of_ble_eq_true rfl) (Nat.le_of_ble_eq_true rfl) (ev_m_is) ?_
    refine tv_b (pc' := (if (sp_m_is y 1 10000000) = 0 then 22 else 24)) (ls' := [some (.ref 80), some (.int b), some (.int x), some (.int y), none, none, none, none]) (st' := []) (h' := (n, sl, wKK kk, I, L, wQQ q)) 1 rfl ?_
    refine tv_if (fun c19 => ?_) (fun c19 => ?_)
    · refine tv_b (pc' := 23) (ls' := [some (.ref 80), some (.int b), some (.int x), some (.int y), none, none, none, none]) (st' := [.int (-1)]) (h' := (n, sl, wKK kk, I, L, wQQ q)) 1 rfl ?_
      exact tv_ri rfl ⟨rfl, rfl⟩
    · exact absurd hx (fun z => z.elim c8 c19)
theorem jx_first {b x y : Int32} : jx 140 (am_ent 8 [.ref 0, .int b, .int x, .int y]) 237 (am_ent 8 [.ref 80, .int b, .int x, .int y]) := by
  rintro k h hk ⟨n, sl, kk, I, L, q, rfl, C, ah, M, tx, T, g, hr, ht, hu, hs, hc, hj, hn, hsl⟩
  have same := h_same (q := q) hk g hr ht hu hs hc hj hn hsl
  have a1 : sp_isWithin x.toInt64 0 1000000000 = 0 ↔ ¬ (0 ≤ x.toInt ∧ x.toInt ≤ 1000000000) := ar_wi2 (a := 0) (b := 1000000000) rfl rfl ⟨by decide, by decide⟩ ⟨by decide, by decide⟩
  have a2 : sp_m_is x 0 1000000000 = 0 ↔ ¬ (0 ≤ x.toInt ∧ x.toInt ≤ 1000000000) := ar_mi2 (a := 0) (b := 1000000000) rfl rfl ⟨by decide, by decide⟩ ⟨by decide, by decide⟩
  have b1 : sp_isWithin y.toInt64 1 10000000 = 0 ↔ ¬ (1 ≤ y.toInt ∧ y.toInt ≤ 10000000) := ar_wi2 (a := 1) (b := 10000000) rfl rfl ⟨by decide, by decide⟩ ⟨by decide, by decide⟩
  have b2 : sp_m_is y 1 10000000 = 0 ↔ ¬ (1 ≤ y.toInt ∧ y.toInt ≤ 10000000) := ar_mi2 (a := 1) (b := 10000000) rfl rfl ⟨by decide, by decide⟩ ⟨by decide, by decide⟩
  by_cases h : sp_isWithin x.toInt64 0 1000000000 = 0 ∨ sp_isWithin y.toInt64 1 10000000 = 0
  · exact jx_e (d1 := 2) (d2 := 2) (by decide) (by decide) (ev_x_firstO (d := 0) h) (ev_m_firstO (d := 0) (h.imp (fun z => a2.mpr (a1.mp z)) (fun z => b2.mpr (b1.mp z)))) same
  · have n1 : ¬ sp_isWithin x.toInt64 0 1000000000 = 0 := fun z => h (Or.inl z)
    have n2 : ¬ sp_isWithin y.toInt64 1 10000000 = 0 := fun z => h (Or.inr z)
    have m1 : ¬ sp_m_is x 0 1000000000 = 0 := fun z => n1 (a1.mpr (a2.mp z))
    have m2 : ¬ sp_m_is y 1 10000000 = 0 := fun z => n2 (b1.mpr (b2.mp z))
    have hx := (nn_iff a1).mp n1
    have hy := (nn_iff b1).mp n2
    have hT := g.1
    have hcT := g.2.2.1.1
    have e2 : am_T 3 237 0 (am_ent 8 [.ref 80, .int b, .int x, .int y]) [] (n, sl, wKK kk, I, L, wQQ q) (fun rv h' => rv = some (.int (firF I b x.toInt y.toInt 200 0)) ∧ h' = (n, sl, wKK kk, I, L, wQQ q)) := by
      show am_T _ _ 0 [some (.ref 80), some (.int b), some (.int x), some (.int y), none, none, none, none] _ _ _
      refine tv_b (pc' := 5) (ls' := [some (.ref 80), some (.int b), some (.int x), some (.int y), none, none, none, none]) (st' := [.int 1000000000, .int 0, .int x]) (h' := (n, sl, wKK kk, I, L, wQQ q)) 3 rfl ?_
      refine tv_csE [.int x, .int 0, .int 1000000000] [] rfl rfl (by omega) rfl (Nat.le_of_ble_eq_true rfl) (Nat.le_of_ble_eq_true rfl) (ev_m_is) ?_
      refine tv_b (pc' := (if (sp_m_is x 0 1000000000) = 0 then 22 else 11)) (ls' := [some (.ref 80), some (.int b), some (.int x), some (.int y), none, none, none, none]) (st' := []) (h' := (n, sl, wKK kk, I, L, wQQ q)) 1 rfl ?_
      refine tv_f (m1) ?_
      refine tv_b (pc' := 16) (ls' := [some (.ref 80), some (.int b), some (.int x), some (.int y), none, none, none, none]) (st' := [.int 10000000, .int 1, .int y]) (h' := (n, sl, wKK kk, I, L, wQQ q)) 3 rfl ?_
      refine tv_csE [.int y, .int 1, .int 10000000] [] rfl rfl (by omega) rfl (Nat.le_of_ble_eq_true rfl) (Nat.le_of_ble_eq_true rfl) (ev_m_is) ?_
      refine tv_b (pc' := (if (sp_m_is y 1 10000000) = 0 then 22 else 24)) (ls' := [some (.ref 80), some (.int b), some (.int x), some (.int y), none, none, none, none]) (st' := []) (h' := (n, sl, wKK kk, I, L, wQQ q)) 1 rfl ?_
      refine tv_f (m2) ?_
      refine tv_b (pc' := 27) (ls' := [some (.ref 80), some (.int b), some (.int x), some (.int y), some (.int 0), none, none, none]) (st' := []) (h' := (n, sl, wKK kk, I, L, wQQ q)) 2 rfl ?_
      exact tv_m_fst (d := 0) hT hx hy 200 0 rfl _ _ _
    refine tv_up (d := 3) (by decide) (tv_w (Q := fun rv h' => rv = some (.int (firF I b x.toInt y.toInt 200 0)) ∧ h' = (n, sl, wKK kk, I, L, wQQ q)) ?_ (fun rv h' ho => ?_))
    · show am_T _ _ 0 [some (.ref 0), some (.int b), some (.int x), some (.int y), none, none, none, none] _ _ _
      refine tv_b (pc' := 6) (ls' := [some (.ref 0), some (.int b), some (.int x), some (.int y), none, none, none, none]) (st' := [.long 1000000000, .long 0, .long x.toInt64]) (h' := (n, sl, wKK kk, I, L, wQQ q)) 4 rfl ?_
      refine tv_csE [.long x.toInt64, .long 0, .long 1000000000] [] rfl rfl (by omega) rfl (Nat.le_of_ble_eq_true rfl) (Nat.le_of_ble_eq_true rfl) (ev_isWithin) ?_
      refine tv_b (pc' := (if (sp_isWithin x.toInt64 0 1000000000) = 0 then 24 else 12)) (ls' := [some (.ref 0), some (.int b), some (.int x), some (.int y), none, none, none, none]) (st' := []) (h' := (n, sl, wKK kk, I, L, wQQ q)) 1 rfl ?_
      refine tv_f (n1) ?_
      refine tv_b (pc' := 18) (ls' := [some (.ref 0), some (.int b), some (.int x), some (.int y), none, none, none, none]) (st' := [.long 10000000, .long 1, .long y.toInt64]) (h' := (n, sl, wKK kk, I, L, wQQ q)) 4 rfl ?_
      refine tv_csE [.long y.toInt64, .long 1, .long 10000000] [] rfl rfl (by omega) rfl (Nat.le_of_ble_eq_true rfl) (Nat.le_of_ble_eq_true rfl) (ev_isWithin) ?_
      refine tv_b (pc' := (if (sp_isWithin y.toInt64 1 10000000) = 0 then 24 else 26)) (ls' := [some (.ref 0), some (.int b), some (.int x), some (.int y), none, none, none, none]) (st' := []) (h' := (n, sl, wKK kk, I, L, wQQ q)) 1 rfl ?_
      refine tv_f (n2) ?_
      refine tv_b (pc' := 33) (ls' := [some (.ref 0), some (.int b), some (.int x), some (.int y), some (.long x.toInt64), none, some (.int 0), none]) (st' := []) (h' := (n, sl, wKK kk, I, L, wQQ q)) 5 rfl ?_
      rw [show x.toInt64 = jL (x.toInt + ((0 : Nat) : Int) * y.toInt) by rw [j64_x x]; refine congrArg jL ?_; show x.toInt = x.toInt + 0 * y.toInt; rw [Int.zero_mul, Int.add_zero]]
      exact tv_x_fst (d := 0) hcT hT hx hy 200 0 rfl _
    · obtain ⟨rfl, rfl⟩ := ho
      exact ⟨_, Or.inl ⟨_, rfl⟩, rfl, tv_up (d := 3) (by decide) (tv_w e2 (fun rv2 h2 ho2 => by obtain ⟨rfl, rfl⟩ := ho2; exact ⟨rfl, same⟩))⟩
