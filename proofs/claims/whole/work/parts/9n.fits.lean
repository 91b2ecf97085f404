/-! THE ODD ONE; THE REFERENCE FITS -/
theorem gt_i {a b : Int} (ha : bM a) (hb : bM b) : 0 < lg_cmp (jL a) (jL b) ↔ b < a := by rw [cmp_gt, jM_lt hb ha]
theorem le_i {a b : Int} (ha : bM a) (hb : bM b) : lg_cmp (jL a) (jL b) ≤ 0 ↔ ¬ b < a := by rw [cmp_le, jM_lt hb ha]
theorem lt_i {a b : Int} (ha : bM a) (hb : bM b) : lg_cmp (jL a) (jL b) < 0 ↔ a < b := by rw [cmp_lt, jM_lt ha hb]
def odL (X : Nat → Nat → Int32) (F T C : Nat) : List Nat → Int32
  | [] => -1
  | n :: r => if mxw X F T n C ≤ mnw X F T n C then nI n else odL X F T C r
def odI (X : Nat → Nat → Int32) (F T C : Nat) : Nat → Nat → Int32
  | 0, _ => -1
  | m + 1, i => if mxw X F T ((rdl X F T C).getD i 0) C ≤ mnw X F T ((rdl X F T C).getD i 0) C then nI ((rdl X F T C).getD i 0) else odI X F T C m (i + 1)
def odF (X : Nat → Nat → Int32) (F T C : Nat) : Nat → Nat → Int32
  | 0, _ => -1
  | m + 1, k => if rdB X F T (k + 1) = true ∧ mxw X F T (k + 1) C ≤ mnw X F T (k + 1) C then nI (k + 1) else odF X F T C m (k + 1)
def rdlF (X : Nat → Nat → Int32) (F T : Nat) : Nat → Nat → List Nat
  | 0, _ => []
  | m + 1, k => if rdB X F T (k + 1) = true then (k + 1) :: rdlF X F T m (k + 1) else rdlF X F T m (k + 1)
section OD
variable {X : Nat → Nat → Int32} {F T C : Nat}
theorem rdlF_a : ∀ m k, rdl X F T k ++ rdlF X F T m k = rdl X F T (k + m) := by
  intro m
  induction m with
  | zero => intro k; exact List.append_nil _
  | succ m ih =>
    intro k
    have e := ih (k + 1)
    rw [show k + 1 + m = k + (m + 1) by omega] at e
    rw [← e]
    show rdl X F T k ++ (if rdB X F T (k + 1) = true then (k + 1) :: rdlF X F T m (k + 1) else rdlF X F T m (k + 1)) = _
    by_cases h : rdB X F T (k + 1) = true
    · rw [if_pos h, rdl_s h, List.append_assoc]; rfl
    · rw [if_neg h, rdl_n h]
theorem odF_l : ∀ m k, odL X F T C (rdlF X F T m k) = odF X F T C m k := by
  intro m
  induction m with
  | zero => intro k; rfl
  | succ m ih =>
    intro k
    unfold rdlF odF
    by_cases h : rdB X F T (k + 1) = true
    · rw [if_pos h]
      show (if mxw X F T (k + 1) C ≤ mnw X F T (k + 1) C then nI (k + 1) else odL X F T C (rdlF X F T m (k + 1))) = _
      rw [ih]
      by_cases z : mxw X F T (k + 1) C ≤ mnw X F T (k + 1) C
      · rw [if_pos z, if_pos ⟨h, z⟩]
      · rw [if_neg z, if_neg (fun y => z y.2)]
    · rw [if_neg h, if_neg (fun y => h y.1), ih]
theorem odI_l {l : List Nat} (hl : l = rdl X F T C) : ∀ m i, i + m = l.length → odI X F T C m i = odL X F T C (l.drop i) := by
  intro m
  induction m with
  | zero =>
    intro i hi
    rw [List.drop_eq_nil_of_le (by omega)]
    rfl
  | succ m ih =>
    intro i hi
    have hlt : i < l.length := by omega
    rw [List.drop_eq_getElem_cons hlt]
    have e : l[i] = l.getD i 0 := by rw [List.getD_eq_getElem?_getD, List.getElem?_eq_getElem hlt]; rfl
    show (if mxw X F T ((rdl X F T C).getD i 0) C ≤ mnw X F T ((rdl X F T C).getD i 0) C then nI ((rdl X F T C).getD i 0) else odI X F T C m (i + 1)) = (if mxw X F T l[i] C ≤ mnw X F T l[i] C then nI l[i] else odL X F T C (l.drop (i + 1)))
    rw [ih (i + 1) (by omega), e, ← hl]
theorem od_all : odI X F T C (rdl X F T C).length 0 = odF X F T C C 0 := by
  rw [odI_l rfl _ 0 (Nat.zero_add _), ← odF_l]
  have := rdlF_a (X := X) (F := F) (T := T) C 0
  rw [Nat.zero_add] at this
  have e : rdl X F T 0 ++ rdlF X F T C 0 = rdlF X F T C 0 := rfl
  rw [e] at this
  rw [this]
  rfl
theorem odF_now {e : Nat} : ∀ m k, k + m = nNow X → odF X F T C (m + e) k = odF X F T C m k := by
  intro m
  induction m with
  | zero =>
    intro k hk
    rw [Nat.zero_add]
    have h : ∀ e k, nNow X ≤ k → odF X F T C e k = -1 := by
      intro e
      induction e with
      | zero => intro k _; rfl
      | succ e ih =>
        intro k hk
        unfold odF
        rw [if_neg (fun z => by rw [w_hi hk] at z; exact absurd z.1 (by decide)), ih _ (by omega)]
    exact h e k (by omega)
  | succ m ih =>
    intro k hk
    rw [show m + 1 + e = m + e + 1 by omega]
    unfold odF
    rw [ih (k + 1) (by omega)]
theorem rdl_is : ∀ k i, i < (rdl X F T k).length → rdB X F T ((rdl X F T k).getD i 0) = true ∧ 1 ≤ (rdl X F T k).getD i 0 ∧ (rdl X F T k).getD i 0 ≤ k := by
  intro k
  induction k with
  | zero => intro i hi; exact absurd hi (Nat.not_lt_zero _)
  | succ k ih =>
    intro i hi
    by_cases h : rdB X F T (k + 1) = true
    · rw [rdl_s h] at hi ⊢
      rw [List.length_append] at hi
      have hi2 : i < (rdl X F T k).length + 1 := hi
      by_cases z : i < (rdl X F T k).length
      · rw [getD_l z]
        obtain ⟨a, b, c⟩ := ih i z
        exact ⟨a, b, by omega⟩
      · have e : i = (rdl X F T k).length + 0 := by omega
        rw [e, getD_r]
        exact ⟨h, by show 1 ≤ k + 1; omega, by show k + 1 ≤ k + 1; omega⟩
    · rw [rdl_n h] at hi ⊢
      obtain ⟨a, b, c⟩ := ih i hi
      exact ⟨a, b, by omega⟩
theorem w_0 {b : Nat} : ∀ k, cnw X F T b k = 0 → mxw X F T b k = -9223372036854775808 ∧ mnw X F T b k = 9223372036854775807 := by
  intro k
  induction k with
  | zero => intro _; exact ⟨rfl, rfl⟩
  | succ k ih =>
    intro h
    by_cases z : rdB X F T (k + 1) = true ∧ k + 1 ≠ b
    · rw [(w_s z).2.2] at h; exact absurd h (by omega)
    · obtain ⟨n1, n2, n3⟩ := w_n z
      rw [n1, n2]
      exact ih (by rw [← n3]; exact h)
end OD
theorem tv_oddL {n sl : Nat} {kk : Nat → Nat × Nat} {I : Nat → Nat → Int32} {L : Nat → Nat → Int64} {q : Nat → Nat → Option Nat} {F T C : Nat} {r68 : Nat → Int32} {r69 r70 : Nat → Int64} (hb : ∀ n, rdB I F T n = true → (-9000000000 ≤ loZ I F n ∧ loZ I F n ≤ 9000000000) ∧ (-9000000000 ≤ hiZ I F n ∧ hiZ I F n ≤ 9000000000)) (hC2 : C ≤ 200) (hE : gaE I F T C r68 r69 r70) : ∀ m i : Nat, i + m = (rdl I F T C).length → ∀ (o2 o3 o4 o5 : Option Value), am_T 1 46 23 [some (.ref 64), some (.int (nI i)), o2, o3, o4, o5] [] (n, sl, wKK kk, (gaI I (nI ((rdl I F T C).length)) r68), (gaL L (jL (mxw I F T 0 C)) (jL (sxw I F T C)) (jL (mnw I F T 0 C)) (jL (snw I F T C)) r69 r70), wQQ q) (fun rv h' => rv = some (.int (odI I F T C m i)) ∧ h' = (n, sl, wKK kk, (gaI I (nI ((rdl I F T C).length)) r68), (gaL L (jL (mxw I F T 0 C)) (jL (sxw I F T C)) (jL (mnw I F T 0 C)) (jL (snw I F T C)) r69 r70), wQQ q)) := by
  have hlen := (rdl_len (X := I) (F := F) (T := T) C).2
  obtain ⟨w1, w2, w3, w4⟩ := w_b (X := I) (F := F) (T := T) (b := 0) hb C
  intro m
  induction m with
  | zero =>
    intro i hi o2 o3 o4 o5
    have hi2 : i = (rdl I F T C).length := by omega
    subst hi2
    show am_T _ _ 23 [some (.ref 64), some (.int (nI ((rdl I F T C).length))), o2, o3, o4, o5] _ _ _
    refine tv_b (pc' := (if (nI ((rdl I F T C).length)) ≤ (nI ((rdl I F T C).length)) then 111 else 31)) (ls' := [some (.ref 64), some (.int (nI ((rdl I F T C).length))), o2, o3, o4, o5]) (st' := []) (h' := (n, sl, wKK kk, (gaI I (nI ((rdl I F T C).length)) r68), (gaL L (jL (mxw I F T 0 C)) (jL (sxw I F T C)) (jL (mnw I F T 0 C)) (jL (snw I F T C)) r69 r70), wQQ q)) 4 rfl ?_
    refine tv_t ((nI_leI (a := (rdl I F T C).length) (b := (rdl I F T C).length) (by omega) (by omega)).mpr (Nat.le_refl _)) ?_
    refine tv_b (pc' := 112) (ls' := [some (.ref 64), some (.int (nI ((rdl I F T C).length))), o2, o3, o4, o5]) (st' := [.int (-1)]) (h' := (n, sl, wKK kk, (gaI I (nI ((rdl I F T C).length)) r68), (gaL L (jL (mxw I F T 0 C)) (jL (sxw I F T C)) (jL (mnw I F T 0 C)) (jL (snw I F T C)) r69 r70), wQQ q)) 1 rfl ?_
    exact tv_ri rfl ⟨rfl, rfl⟩
  | succ m ih =>
    intro i hi o2 o3 o4 o5
    have hiL : i < (rdl I F T C).length := by omega
    obtain ⟨e68, e69, e70⟩ := hE i hiL
    obtain ⟨s1, s2, s3⟩ := rdl_is C i hiL
    have ho : odI I F T C (m + 1) i = if mxw I F T ((rdl I F T C).getD i 0) C ≤ mnw I F T ((rdl I F T C).getD i 0) C then nI ((rdl I F T C).getD i 0) else odI I F T C m (i + 1) := rfl
    rw [ho]
    generalize (rdl I F T C).getD i 0 = p at e68 e69 e70 s1 s2 s3
    have m1 := (mxw_o (X := I) (F := F) (T := T) C).2.2.2 p s2 s3 s1
    have m2 := (mnw_o (X := I) (F := F) (T := T) C).2.2.2 p s2 s3 s1
    obtain ⟨⟨lb1, lb2⟩, ⟨lb3, lb4⟩⟩ := hb p s1
    have bl : bM (loZ I F p) := ⟨by omega, by omega⟩
    have bh : bM (hiZ I F p) := ⟨by omega, by omega⟩
    have z49 : lg_cmp (r69 i) (jL (mxw I F T 0 C)) = 0 ↔ loZ I F p = mxw I F T 0 C := by rw [cmp_z, e69, jM_eq bl w1]
    have z75 : lg_cmp (r70 i) (jL (mnw I F T 0 C)) = 0 ↔ hiZ I F p = mnw I F T 0 C := by rw [cmp_z, e70, jM_eq bh w2]
    by_cases h1 : loZ I F p = mxw I F T 0 C
    · rw [if_pos h1] at m1
      by_cases h2 : hiZ I F p = mnw I F T 0 C
      · rw [if_pos h2] at m2
        rw [m1, m2]
        by_cases hz : sxw I F T C ≤ snw I F T C
        · rw [if_pos hz]
          show am_T _ _ 23 [some (.ref 64), some (.int (nI i)), o2, o3, o4, o5] _ _ _
          refine tv_b (pc' := (if (nI ((rdl I F T C).length)) ≤ (nI i) then 111 else 31)) (ls' := [some (.ref 64), some (.int (nI i)), o2, o3, o4, o5]) (st' := []) (h' := (n, sl, wKK kk, (gaI I (nI ((rdl I F T C).length)) r68), (gaL L (jL (mxw I F T 0 C)) (jL (sxw I F T C)) (jL (mnw I F T 0 C)) (jL (snw I F T C)) r69 r70), wQQ q)) 4 rfl ?_
          refine tv_f (fun hq => absurd ((nI_leI (a := (rdl I F T C).length) (b := i) (by omega) (by omega)).mp hq) (by omega)) ?_
          refine tv_b (pc' := (if 200 ≤ (nI i) then 111 else 38)) (ls' := [some (.ref 64), some (.int (nI i)), o2, o3, o4, o5]) (st' := []) (h' := (n, sl, wKK kk, (gaI I (nI ((rdl I F T C).length)) r68), (gaL L (jL (mxw I F T 0 C)) (jL (sxw I F T C)) (jL (mnw I F T 0 C)) (jL (snw I F T C)) r69 r70), wQQ q)) 3 rfl ?_
          refine tv_f (fun hq => absurd ((nI_leI (a := 200) (b := i) (by omega) (by omega)).mp hq) (by omega)) ?_
          refine tv_b (pc' := 43) (ls' := [some (.ref 64), some (.int (nI i)), o2, o3, o4, o5]) (st' := [.int (nI i), .ref 69]) (h' := (n, sl, wKK kk, (gaI I (nI ((rdl I F T C).length)) r68), (gaL L (jL (mxw I F T 0 C)) (jL (sxw I F T C)) (jL (mnw I F T 0 C)) (jL (snw I F T C)) r69 r70), wQQ q)) 3 rfl ?_
          refine tv_lalN (k := i) rfl (rfl) (⟨by omega, by omega⟩) ?_
          refine tv_b (pc' := (if (lg_cmp (r69 i) (jL (mxw I F T 0 C))) = 0 then 52 else 59)) (ls' := [some (.ref 64), some (.int (nI i)), o2, o3, o4, o5]) (st' := []) (h' := (n, sl, wKK kk, (gaI I (nI ((rdl I F T C).length)) r68), (gaL L (jL (mxw I F T 0 C)) (jL (sxw I F T C)) (jL (mnw I F T 0 C)) (jL (snw I F T C)) r69 r70), wQQ q)) 4 rfl ?_
          refine tv_t (z49.mpr h1) ?_
          refine tv_b (pc' := 69) (ls' := [some (.ref 64), some (.int (nI i)), some (.long (jL (sxw I F T C))), none, o4, o5]) (st' := [.int (nI i), .ref 70]) (h' := (n, sl, wKK kk, (gaI I (nI ((rdl I F T C).length)) r68), (gaL L (jL (mxw I F T 0 C)) (jL (sxw I F T C)) (jL (mnw I F T 0 C)) (jL (snw I F T C)) r69 r70), wQQ q)) 7 rfl ?_
          refine tv_lalN (k := i) rfl (rfl) (⟨by omega, by omega⟩) ?_
          refine tv_b (pc' := (if (lg_cmp (r70 i) (jL (mnw I F T 0 C))) = 0 then 78 else 85)) (ls' := [some (.ref 64), some (.int (nI i)), some (.long (jL (sxw I F T C))), none, o4, o5]) (st' := []) (h' := (n, sl, wKK kk, (gaI I (nI ((rdl I F T C).length)) r68), (gaL L (jL (mxw I F T 0 C)) (jL (sxw I F T C)) (jL (mnw I F T 0 C)) (jL (snw I F T C)) r69 r70), wQQ q)) 4 rfl ?_
          refine tv_t (z75.mpr h2) ?_
          refine tv_b (pc' := (if 0 < (lg_cmp (jL (sxw I F T C)) (jL (snw I F T C))) then 105 else 98)) (ls' := [some (.ref 64), some (.int (nI i)), some (.long (jL (sxw I F T C))), none, some (.long (jL (snw I F T C))), none]) (st' := []) (h' := (n, sl, wKK kk, (gaI I (nI ((rdl I F T C).length)) r68), (gaL L (jL (mxw I F T 0 C)) (jL (sxw I F T C)) (jL (mnw I F T 0 C)) (jL (snw I F T C)) r69 r70), wQQ q)) 8 rfl ?_
          refine tv_f (fun y => absurd ((gt_i w3 w4).mp y) (by omega)) ?_
          refine tv_b (pc' := 103) (ls' := [some (.ref 64), some (.int (nI i)), some (.long (jL (sxw I F T C))), none, some (.long (jL (snw I F T C))), none]) (st' := [.int (nI i), .ref 68]) (h' := (n, sl, wKK kk, (gaI I (nI ((rdl I F T C).length)) r68), (gaL L (jL (mxw I F T 0 C)) (jL (sxw I F T C)) (jL (mnw I F T 0 C)) (jL (snw I F T C)) r69 r70), wQQ q)) 3 rfl ?_
          refine tv_ialN (k := i) rfl (rfl) (⟨by omega, by omega⟩) ?_
          refine tv_top (e68) ?_
          exact tv_ri rfl ⟨rfl, rfl⟩
        · rw [if_neg hz]
          show am_T _ _ 23 [some (.ref 64), some (.int (nI i)), o2, o3, o4, o5] _ _ _
          refine tv_b (pc' := (if (nI ((rdl I F T C).length)) ≤ (nI i) then 111 else 31)) (ls' := [some (.ref 64), some (.int (nI i)), o2, o3, o4, o5]) (st' := []) (h' := (n, sl, wKK kk, (gaI I (nI ((rdl I F T C).length)) r68), (gaL L (jL (mxw I F T 0 C)) (jL (sxw I F T C)) (jL (mnw I F T 0 C)) (jL (snw I F T C)) r69 r70), wQQ q)) 4 rfl ?_
          refine tv_f (fun hq => absurd ((nI_leI (a := (rdl I F T C).length) (b := i) (by omega) (by omega)).mp hq) (by omega)) ?_
          refine tv_b (pc' := (if 200 ≤ (nI i) then 111 else 38)) (ls' := [some (.ref 64), some (.int (nI i)), o2, o3, o4, o5]) (st' := []) (h' := (n, sl, wKK kk, (gaI I (nI ((rdl I F T C).length)) r68), (gaL L (jL (mxw I F T 0 C)) (jL (sxw I F T C)) (jL (mnw I F T 0 C)) (jL (snw I F T C)) r69 r70), wQQ q)) 3 rfl ?_
          refine tv_f (fun hq => absurd ((nI_leI (a := 200) (b := i) (by omega) (by omega)).mp hq) (by omega)) ?_
          refine tv_b (pc' := 43) (ls' := [some (.ref 64), some (.int (nI i)), o2, o3, o4, o5]) (st' := [.int (nI i), .ref 69]) (h' := (n, sl, wKK kk, (gaI I (nI ((rdl I F T C).length)) r68), (gaL L (jL (mxw I F T 0 C)) (jL (sxw I F T C)) (jL (mnw I F T 0 C)) (jL (snw I F T C)) r69 r70), wQQ q)) 3 rfl ?_
          refine tv_lalN (k := i) rfl (rfl) (⟨by omega, by omega⟩) ?_
          refine tv_b (pc' := (if (lg_cmp (r69 i) (jL (mxw I F T 0 C))) = 0 then 52 else 59)) (ls' := [some (.ref 64), some (.int (nI i)), o2, o3, o4, o5]) (st' := []) (h' := (n, sl, wKK kk, (gaI I (nI ((rdl I F T C).length)) r68), (gaL L (jL (mxw I F T 0 C)) (jL (sxw I F T C)) (jL (mnw I F T 0 C)) (jL (snw I F T C)) r69 r70), wQQ q)) 4 rfl ?_
          refine tv_t (z49.mpr h1) ?_
          refine tv_b (pc' := 69) (ls' := [some (.ref 64), some (.int (nI i)), some (.long (jL (sxw I F T C))), none, o4, o5]) (st' := [.int (nI i), .ref 70]) (h' := (n, sl, wKK kk, (gaI I (nI ((rdl I F T C).length)) r68), (gaL L (jL (mxw I F T 0 C)) (jL (sxw I F T C)) (jL (mnw I F T 0 C)) (jL (snw I F T C)) r69 r70), wQQ q)) 7 rfl ?_
          refine tv_lalN (k := i) rfl (rfl) (⟨by omega, by omega⟩) ?_
          refine tv_b (pc' := (if (lg_cmp (r70 i) (jL (mnw I F T 0 C))) = 0 then 78 else 85)) (ls' := [some (.ref 64), some (.int (nI i)), some (.long (jL (sxw I F T C))), none, o4, o5]) (st' := []) (h' := (n, sl, wKK kk, (gaI I (nI ((rdl I F T C).length)) r68), (gaL L (jL (mxw I F T 0 C)) (jL (sxw I F T C)) (jL (mnw I F T 0 C)) (jL (snw I F T C)) r69 r70), wQQ q)) 4 rfl ?_
          refine tv_t (z75.mpr h2) ?_
          refine tv_b (pc' := (if 0 < (lg_cmp (jL (sxw I F T C)) (jL (snw I F T C))) then 105 else 98)) (ls' := [some (.ref 64), some (.int (nI i)), some (.long (jL (sxw I F T C))), none, some (.long (jL (snw I F T C))), none]) (st' := []) (h' := (n, sl, wKK kk, (gaI I (nI ((rdl I F T C).length)) r68), (gaL L (jL (mxw I F T 0 C)) (jL (sxw I F T C)) (jL (mnw I F T 0 C)) (jL (snw I F T C)) r69 r70), wQQ q)) 8 rfl ?_
          refine tv_t ((gt_i w3 w4).mpr (by omega)) ?_
          refine tv_iincN (k := i) (ls' := [some (.ref 64), some (.int (nI (i + 1))), some (.long (jL (sxw I F T C))), none, some (.long (jL (snw I F T C))), none]) rfl rfl rfl ?_
          refine tv_b (pc' := 23) (ls' := [some (.ref 64), some (.int (nI (i + 1))), some (.long (jL (sxw I F T C))), none, some (.long (jL (snw I F T C))), none]) (st' := []) (h' := (n, sl, wKK kk, (gaI I (nI ((rdl I F T C).length)) r68), (gaL L (jL (mxw I F T 0 C)) (jL (sxw I F T C)) (jL (mnw I F T 0 C)) (jL (snw I F T C)) r69 r70), wQQ q)) 1 rfl ?_
          exact ih (i + 1) (by omega) _ _ _ _
      · rw [if_neg h2] at m2
        rw [m1, m2]
        by_cases hz : sxw I F T C ≤ mnw I F T 0 C
        · rw [if_pos hz]
          show am_T _ _ 23 [some (.ref 64), some (.int (nI i)), o2, o3, o4, o5] _ _ _
          refine tv_b (pc' := (if (nI ((rdl I F T C).length)) ≤ (nI i) then 111 else 31)) (ls' := [some (.ref 64), some (.int (nI i)), o2, o3, o4, o5]) (st' := []) (h' := (n, sl, wKK kk, (gaI I (nI ((rdl I F T C).length)) r68), (gaL L (jL (mxw I F T 0 C)) (jL (sxw I F T C)) (jL (mnw I F T 0 C)) (jL (snw I F T C)) r69 r70), wQQ q)) 4 rfl ?_
          refine tv_f (fun hq => absurd ((nI_leI (a := (rdl I F T C).length) (b := i) (by omega) (by omega)).mp hq) (by omega)) ?_
          refine tv_b (pc' := (if 200 ≤ (nI i) then 111 else 38)) (ls' := [some (.ref 64), some (.int (nI i)), o2, o3, o4, o5]) (st' := []) (h' := (n, sl, wKK kk, (gaI I (nI ((rdl I F T C).length)) r68), (gaL L (jL (mxw I F T 0 C)) (jL (sxw I F T C)) (jL (mnw I F T 0 C)) (jL (snw I F T C)) r69 r70), wQQ q)) 3 rfl ?_
          refine tv_f (fun hq => absurd ((nI_leI (a := 200) (b := i) (by omega) (by omega)).mp hq) (by omega)) ?_
          refine tv_b (pc' := 43) (ls' := [some (.ref 64), some (.int (nI i)), o2, o3, o4, o5]) (st' := [.int (nI i), .ref 69]) (h' := (n, sl, wKK kk, (gaI I (nI ((rdl I F T C).length)) r68), (gaL L (jL (mxw I F T 0 C)) (jL (sxw I F T C)) (jL (mnw I F T 0 C)) (jL (snw I F T C)) r69 r70), wQQ q)) 3 rfl ?_
          refine tv_lalN (k := i) rfl (rfl) (⟨by omega, by omega⟩) ?_
          refine tv_b (pc' := (if (lg_cmp (r69 i) (jL (mxw I F T 0 C))) = 0 then 52 else 59)) (ls' := [some (.ref 64), some (.int (nI i)), o2, o3, o4, o5]) (st' := []) (h' := (n, sl, wKK kk, (gaI I (nI ((rdl I F T C).length)) r68), (gaL L (jL (mxw I F T 0 C)) (jL (sxw I F T C)) (jL (mnw I F T 0 C)) (jL (snw I F T C)) r69 r70), wQQ q)) 4 rfl ?_
          refine tv_t (z49.mpr h1) ?_
          refine tv_b (pc' := 69) (ls' := [some (.ref 64), some (.int (nI i)), some (.long (jL (sxw I F T C))), none, o4, o5]) (st' := [.int (nI i), .ref 70]) (h' := (n, sl, wKK kk, (gaI I (nI ((rdl I F T C).length)) r68), (gaL L (jL (mxw I F T 0 C)) (jL (sxw I F T C)) (jL (mnw I F T 0 C)) (jL (snw I F T C)) r69 r70), wQQ q)) 7 rfl ?_
          refine tv_lalN (k := i) rfl (rfl) (⟨by omega, by omega⟩) ?_
          refine tv_b (pc' := (if (lg_cmp (r70 i) (jL (mnw I F T 0 C))) = 0 then 78 else 85)) (ls' := [some (.ref 64), some (.int (nI i)), some (.long (jL (sxw I F T C))), none, o4, o5]) (st' := []) (h' := (n, sl, wKK kk, (gaI I (nI ((rdl I F T C).length)) r68), (gaL L (jL (mxw I F T 0 C)) (jL (sxw I F T C)) (jL (mnw I F T 0 C)) (jL (snw I F T C)) r69 r70), wQQ q)) 4 rfl ?_
          refine tv_f (fun y => h2 (z75.mp y)) ?_
          refine tv_b (pc' := (if 0 < (lg_cmp (jL (sxw I F T C)) (jL (mnw I F T 0 C))) then 105 else 98)) (ls' := [some (.ref 64), some (.int (nI i)), some (.long (jL (sxw I F T C))), none, some (.long (jL (mnw I F T 0 C))), none]) (st' := []) (h' := (n, sl, wKK kk, (gaI I (nI ((rdl I F T C).length)) r68), (gaL L (jL (mxw I F T 0 C)) (jL (sxw I F T C)) (jL (mnw I F T 0 C)) (jL (snw I F T C)) r69 r70), wQQ q)) 7 rfl ?_
          refine tv_f (fun y => absurd ((gt_i w3 w2).mp y) (by omega)) ?_
          refine tv_b (pc' := 103) (ls' := [some (.ref 64), some (.int (nI i)), some (.long (jL (sxw I F T C))), none, some (.long (jL (mnw I F T 0 C))), none]) (st' := [.int (nI i), .ref 68]) (h' := (n, sl, wKK kk, (gaI I (nI ((rdl I F T C).length)) r68), (gaL L (jL (mxw I F T 0 C)) (jL (sxw I F T C)) (jL (mnw I F T 0 C)) (jL (snw I F T C)) r69 r70), wQQ q)) 3 rfl ?_
          refine tv_ialN (k := i) rfl (rfl) (⟨by omega, by omega⟩) ?_
          refine tv_top (e68) ?_
          exact tv_ri rfl ⟨rfl, rfl⟩
        · rw [if_neg hz]
          show am_T _ _ 23 [some (.ref 64), some (.int (nI i)), o2, o3, o4, o5] _ _ _
          refine tv_b (pc' := (if (nI ((rdl I F T C).length)) ≤ (nI i) then 111 else 31)) (ls' := [some (.ref 64), some (.int (nI i)), o2, o3, o4, o5]) (st' := []) (h' := (n, sl, wKK kk, (gaI I (nI ((rdl I F T C).length)) r68), (gaL L (jL (mxw I F T 0 C)) (jL (sxw I F T C)) (jL (mnw I F T 0 C)) (jL (snw I F T C)) r69 r70), wQQ q)) 4 rfl ?_
          refine tv_f (fun hq => absurd ((nI_leI (a := (rdl I F T C).length) (b := i) (by omega) (by omega)).mp hq) (by omega)) ?_
          refine tv_b (pc' := (if 200 ≤ (nI i) then 111 else 38)) (ls' := [some (.ref 64), some (.int (nI i)), o2, o3, o4, o5]) (st' := []) (h' := (n, sl, wKK kk, (gaI I (nI ((rdl I F T C).length)) r68), (gaL L (jL (mxw I F T 0 C)) (jL (sxw I F T C)) (jL (mnw I F T 0 C)) (jL (snw I F T C)) r69 r70), wQQ q)) 3 rfl ?_
          refine tv_f (fun hq => absurd ((nI_leI (a := 200) (b := i) (by omega) (by omega)).mp hq) (by omega)) ?_
          refine tv_b (pc' := 43) (ls' := [some (.ref 64), some (.int (nI i)), o2, o3, o4, o5]) (st' := [.int (nI i), .ref 69]) (h' := (n, sl, wKK kk, (gaI I (nI ((rdl I F T C).length)) r68), (gaL L (jL (mxw I F T 0 C)) (jL (sxw I F T C)) (jL (mnw I F T 0 C)) (jL (snw I F T C)) r69 r70), wQQ q)) 3 rfl ?_
          refine tv_lalN (k := i) rfl (rfl) (⟨by omega, by omega⟩) ?_
          refine tv_b (pc' := (if (lg_cmp (r69 i) (jL (mxw I F T 0 C))) = 0 then 52 else 59)) (ls' := [some (.ref 64), some (.int (nI i)), o2, o3, o4, o5]) (st' := []) (h' := (n, sl, wKK kk, (gaI I (nI ((rdl I F T C).length)) r68), (gaL L (jL (mxw I F T 0 C)) (jL (sxw I F T C)) (jL (mnw I F T 0 C)) (jL (snw I F T C)) r69 r70), wQQ q)) 4 rfl ?_
          refine tv_t (z49.mpr h1) ?_
          refine tv_b (pc' := 69) (ls' := [some (.ref 64), some (.int (nI i)), some (.long (jL (sxw I F T C))), none, o4, o5]) (st' := [.int (nI i), .ref 70]) (h' := (n, sl, wKK kk, (gaI I (nI ((rdl I F T C).length)) r68), (gaL L (jL (mxw I F T 0 C)) (jL (sxw I F T C)) (jL (mnw I F T 0 C)) (jL (snw I F T C)) r69 r70), wQQ q)) 7 rfl ?_
          refine tv_lalN (k := i) rfl (rfl) (⟨by omega, by omega⟩) ?_
          refine tv_b (pc' := (if (lg_cmp (r70 i) (jL (mnw I F T 0 C))) = 0 then 78 else 85)) (ls' := [some (.ref 64), some (.int (nI i)), some (.long (jL (sxw I F T C))), none, o4, o5]) (st' := []) (h' := (n, sl, wKK kk, (gaI I (nI ((rdl I F T C).length)) r68), (gaL L (jL (mxw I F T 0 C)) (jL (sxw I F T C)) (jL (mnw I F T 0 C)) (jL (snw I F T C)) r69 r70), wQQ q)) 4 rfl ?_
          refine tv_f (fun y => h2 (z75.mp y)) ?_
          refine tv_b (pc' := (if 0 < (lg_cmp (jL (sxw I F T C)) (jL (mnw I F T 0 C))) then 105 else 98)) (ls' := [some (.ref 64), some (.int (nI i)), some (.long (jL (sxw I F T C))), none, some (.long (jL (mnw I F T 0 C))), none]) (st' := []) (h' := (n, sl, wKK kk, (gaI I (nI ((rdl I F T C).length)) r68), (gaL L (jL (mxw I F T 0 C)) (jL (sxw I F T C)) (jL (mnw I F T 0 C)) (jL (snw I F T C)) r69 r70), wQQ q)) 7 rfl ?_
          refine tv_t ((gt_i w3 w2).mpr (by omega)) ?_
          refine tv_iincN (k := i) (ls' := [some (.ref 64), some (.int (nI (i + 1))), some (.long (jL (sxw I F T C))), none, some (.long (jL (mnw I F T 0 C))), none]) rfl rfl rfl ?_
          refine tv_b (pc' := 23) (ls' := [some (.ref 64), some (.int (nI (i + 1))), some (.long (jL (sxw I F T C))), none, some (.long (jL (mnw I F T 0 C))), none]) (st' := []) (h' := (n, sl, wKK kk, (gaI I (nI ((rdl I F T C).length)) r68), (gaL L (jL (mxw I F T 0 C)) (jL (sxw I F T C)) (jL (mnw I F T 0 C)) (jL (snw I F T C)) r69 r70), wQQ q)) 1 rfl ?_
          exact ih (i + 1) (by omega) _ _ _ _
    · rw [if_neg h1] at m1
      by_cases h2 : hiZ I F p = mnw I F T 0 C
      · rw [if_pos h2] at m2
        rw [m1, m2]
        by_cases hz : mxw I F T 0 C ≤ snw I F T C
        · rw [if_pos hz]
          show am_T _ _ 23 [some (.ref 64), some (.int (nI i)), o2, o3, o4, o5] _ _ _
          refine tv_b (pc' := (if (nI ((rdl I F T C).length)) ≤ (nI i) then 111 else 31)) (ls' := [some (.ref 64), some (.int (nI i)), o2, o3, o4, o5]) (st' := []) (h' := (n, sl, wKK kk, (gaI I (nI ((rdl I F T C).length)) r68), (gaL L (jL (mxw I F T 0 C)) (jL (sxw I F T C)) (jL (mnw I F T 0 C)) (jL (snw I F T C)) r69 r70), wQQ q)) 4 rfl ?_
          refine tv_f (fun hq => absurd ((nI_leI (a := (rdl I F T C).length) (b := i) (by omega) (by omega)).mp hq) (by omega)) ?_
          refine tv_b (pc' := (if 200 ≤ (nI i) then 111 else 38)) (ls' := [some (.ref 64), some (.int (nI i)), o2, o3, o4, o5]) (st' := []) (h' := (n, sl, wKK kk, (gaI I (nI ((rdl I F T C).length)) r68), (gaL L (jL (mxw I F T 0 C)) (jL (sxw I F T C)) (jL (mnw I F T 0 C)) (jL (snw I F T C)) r69 r70), wQQ q)) 3 rfl ?_
          refine tv_f (fun hq => absurd ((nI_leI (a := 200) (b := i) (by omega) (by omega)).mp hq) (by omega)) ?_
          refine tv_b (pc' := 43) (ls' := [some (.ref 64), some (.int (nI i)), o2, o3, o4, o5]) (st' := [.int (nI i), .ref 69]) (h' := (n, sl, wKK kk, (gaI I (nI ((rdl I F T C).length)) r68), (gaL L (jL (mxw I F T 0 C)) (jL (sxw I F T C)) (jL (mnw I F T 0 C)) (jL (snw I F T C)) r69 r70), wQQ q)) 3 rfl ?_
          refine tv_lalN (k := i) rfl (rfl) (⟨by omega, by omega⟩) ?_
          refine tv_b (pc' := (if (lg_cmp (r69 i) (jL (mxw I F T 0 C))) = 0 then 52 else 59)) (ls' := [some (.ref 64), some (.int (nI i)), o2, o3, o4, o5]) (st' := []) (h' := (n, sl, wKK kk, (gaI I (nI ((rdl I F T C).length)) r68), (gaL L (jL (mxw I F T 0 C)) (jL (sxw I F T C)) (jL (mnw I F T 0 C)) (jL (snw I F T C)) r69 r70), wQQ q)) 4 rfl ?_
          refine tv_f (fun y => h1 (z49.mp y)) ?_
          refine tv_b (pc' := 69) (ls' := [some (.ref 64), some (.int (nI i)), some (.long (jL (mxw I F T 0 C))), none, o4, o5]) (st' := [.int (nI i), .ref 70]) (h' := (n, sl, wKK kk, (gaI I (nI ((rdl I F T C).length)) r68), (gaL L (jL (mxw I F T 0 C)) (jL (sxw I F T C)) (jL (mnw I F T 0 C)) (jL (snw I F T C)) r69 r70), wQQ q)) 6 rfl ?_
          refine tv_lalN (k := i) rfl (rfl) (⟨by omega, by omega⟩) ?_
          refine tv_b (pc' := (if (lg_cmp (r70 i) (jL (mnw I F T 0 C))) = 0 then 78 else 85)) (ls' := [some (.ref 64), some (.int (nI i)), some (.long (jL (mxw I F T 0 C))), none, o4, o5]) (st' := []) (h' := (n, sl, wKK kk, (gaI I (nI ((rdl I F T C).length)) r68), (gaL L (jL (mxw I F T 0 C)) (jL (sxw I F T C)) (jL (mnw I F T 0 C)) (jL (snw I F T C)) r69 r70), wQQ q)) 4 rfl ?_
          refine tv_t (z75.mpr h2) ?_
          refine tv_b (pc' := (if 0 < (lg_cmp (jL (mxw I F T 0 C)) (jL (snw I F T C))) then 105 else 98)) (ls' := [some (.ref 64), some (.int (nI i)), some (.long (jL (mxw I F T 0 C))), none, some (.long (jL (snw I F T C))), none]) (st' := []) (h' := (n, sl, wKK kk, (gaI I (nI ((rdl I F T C).length)) r68), (gaL L (jL (mxw I F T 0 C)) (jL (sxw I F T C)) (jL (mnw I F T 0 C)) (jL (snw I F T C)) r69 r70), wQQ q)) 8 rfl ?_
          refine tv_f (fun y => absurd ((gt_i w1 w4).mp y) (by omega)) ?_
          refine tv_b (pc' := 103) (ls' := [some (.ref 64), some (.int (nI i)), some (.long (jL (mxw I F T 0 C))), none, some (.long (jL (snw I F T C))), none]) (st' := [.int (nI i), .ref 68]) (h' := (n, sl, wKK kk, (gaI I (nI ((rdl I F T C).length)) r68), (gaL L (jL (mxw I F T 0 C)) (jL (sxw I F T C)) (jL (mnw I F T 0 C)) (jL (snw I F T C)) r69 r70), wQQ q)) 3 rfl ?_
          refine tv_ialN (k := i) rfl (rfl) (⟨by omega, by omega⟩) ?_
          refine tv_top (e68) ?_
          exact tv_ri rfl ⟨rfl, rfl⟩
        · rw [if_neg hz]
          show am_T _ _ 23 [some (.ref 64), some (.int (nI i)), o2, o3, o4, o5] _ _ _
          refine tv_b (pc' := (if (nI ((rdl I F T C).length)) ≤ (nI i) then 111 else 31)) (ls' := [some (.ref 64), some (.int (nI i)), o2, o3, o4, o5]) (st' := []) (h' := (n, sl, wKK kk, (gaI I (nI ((rdl I F T C).length)) r68), (gaL L (jL (mxw I F T 0 C)) (jL (sxw I F T C)) (jL (mnw I F T 0 C)) (jL (snw I F T C)) r69 r70), wQQ q)) 4 rfl ?_
          refine tv_f (fun hq => absurd ((nI_leI (a := (rdl I F T C).length) (b := i) (by omega) (by omega)).mp hq) (by omega)) ?_
          refine tv_b (pc' := (if 200 ≤ (nI i) then 111 else 38)) (ls' := [some (.ref 64), some (.int (nI i)), o2, o3, o4, o5]) (st' := []) (h' := (n, sl, wKK kk, (gaI I (nI ((rdl I F T C).length)) r68), (gaL L (jL (mxw I F T 0 C)) (jL (sxw I F T C)) (jL (mnw I F T 0 C)) (jL (snw I F T C)) r69 r70), wQQ q)) 3 rfl ?_
          refine tv_f (fun hq => absurd ((nI_leI (a := 200) (b := i) (by omega) (by omega)).mp hq) (by omega)) ?_
          refine tv_b (pc' := 43) (ls' := [some (.ref 64), some (.int (nI i)), o2, o3, o4, o5]) (st' := [.int (nI i), .ref 69]) (h' := (n, sl, wKK kk, (gaI I (nI ((rdl I F T C).length)) r68), (gaL L (jL (mxw I F T 0 C)) (jL (sxw I F T C)) (jL (mnw I F T 0 C)) (jL (snw I F T C)) r69 r70), wQQ q)) 3 rfl ?_
          refine tv_lalN (k := i) rfl (rfl) (⟨by omega, by omega⟩) ?_
          refine tv_b (pc' := (if (lg_cmp (r69 i) (jL (mxw I F T 0 C))) = 0 then 52 else 59)) (ls' := [some (.ref 64), some (.int (nI i)), o2, o3, o4, o5]) (st' := []) (h' := (n, sl, wKK kk, (gaI I (nI ((rdl I F T C).length)) r68), (gaL L (jL (mxw I F T 0 C)) (jL (sxw I F T C)) (jL (mnw I F T 0 C)) (jL (snw I F T C)) r69 r70), wQQ q)) 4 rfl ?_
          refine tv_f (fun y => h1 (z49.mp y)) ?_
          refine tv_b (pc' := 69) (ls' := [some (.ref 64), some (.int (nI i)), some (.long (jL (mxw I F T 0 C))), none, o4, o5]) (st' := [.int (nI i), .ref 70]) (h' := (n, sl, wKK kk, (gaI I (nI ((rdl I F T C).length)) r68), (gaL L (jL (mxw I F T 0 C)) (jL (sxw I F T C)) (jL (mnw I F T 0 C)) (jL (snw I F T C)) r69 r70), wQQ q)) 6 rfl ?_
          refine tv_lalN (k := i) rfl (rfl) (⟨by omega, by omega⟩) ?_
          refine tv_b (pc' := (if (lg_cmp (r70 i) (jL (mnw I F T 0 C))) = 0 then 78 else 85)) (ls' := [some (.ref 64), some (.int (nI i)), some (.long (jL (mxw I F T 0 C))), none, o4, o5]) (st' := []) (h' := (n, sl, wKK kk, (gaI I (nI ((rdl I F T C).length)) r68), (gaL L (jL (mxw I F T 0 C)) (jL (sxw I F T C)) (jL (mnw I F T 0 C)) (jL (snw I F T C)) r69 r70), wQQ q)) 4 rfl ?_
          refine tv_t (z75.mpr h2) ?_
          refine tv_b (pc' := (if 0 < (lg_cmp (jL (mxw I F T 0 C)) (jL (snw I F T C))) then 105 else 98)) (ls' := [some (.ref 64), some (.int (nI i)), some (.long (jL (mxw I F T 0 C))), none, some (.long (jL (snw I F T C))), none]) (st' := []) (h' := (n, sl, wKK kk, (gaI I (nI ((rdl I F T C).length)) r68), (gaL L (jL (mxw I F T 0 C)) (jL (sxw I F T C)) (jL (mnw I F T 0 C)) (jL (snw I F T C)) r69 r70), wQQ q)) 8 rfl ?_
          refine tv_t ((gt_i w1 w4).mpr (by omega)) ?_
          refine tv_iincN (k := i) (ls' := [some (.ref 64), some (.int (nI (i + 1))), some (.long (jL (mxw I F T 0 C))), none, some (.long (jL (snw I F T C))), none]) rfl rfl rfl ?_
          refine tv_b (pc' := 23) (ls' := [some (.ref 64), some (.int (nI (i + 1))), some (.long (jL (mxw I F T 0 C))), none, some (.long (jL (snw I F T C))), none]) (st' := []) (h' := (n, sl, wKK kk, (gaI I (nI ((rdl I F T C).length)) r68), (gaL L (jL (mxw I F T 0 C)) (jL (sxw I F T C)) (jL (mnw I F T 0 C)) (jL (snw I F T C)) r69 r70), wQQ q)) 1 rfl ?_
          exact ih (i + 1) (by omega) _ _ _ _
      · rw [if_neg h2] at m2
        rw [m1, m2]
        by_cases hz : mxw I F T 0 C ≤ mnw I F T 0 C
        · rw [if_pos hz]
          show am_T _ _ 23 [some (.ref 64), some (.int (nI i)), o2, o3, o4, o5] _ _ _
          refine tv_b (pc' := (if (nI ((rdl I F T C).length)) ≤ (nI i) then 111 else 31)) (ls' := [some (.ref 64), some (.int (nI i)), o2, o3, o4, o5]) (st' := []) (h' := (n, sl, wKK kk, (gaI I (nI ((rdl I F T C).length)) r68), (gaL L (jL (mxw I F T 0 C)) (jL (sxw I F T C)) (jL (mnw I F T 0 C)) (jL (snw I F T C)) r69 r70), wQQ q)) 4 rfl ?_
          refine tv_f (fun hq => absurd ((nI_leI (a := (rdl I F T C).length) (b := i) (by omega) (by omega)).mp hq) (by omega)) ?_
          refine tv_b (pc' := (if 200 ≤ (nI i) then 111 else 38)) (ls' := [some (.ref 64), some (.int (nI i)), o2, o3, o4, o5]) (st' := []) (h' := (n, sl, wKK kk, (gaI I (nI ((rdl I F T C).length)) r68), (gaL L (jL (mxw I F T 0 C)) (jL (sxw I F T C)) (jL (mnw I F T 0 C)) (jL (snw I F T C)) r69 r70), wQQ q)) 3 rfl ?_
          refine tv_f (fun hq => absurd ((nI_leI (a := 200) (b := i) (by omega) (by omega)).mp hq) (by omega)) ?_
          refine tv_b (pc' := 43) (ls' := [some (.ref 64), some (.int (nI i)), o2, o3, o4, o5]) (st' := [.int (nI i), .ref 69]) (h' := (n, sl, wKK kk, (gaI I (nI ((rdl I F T C).length)) r68), (gaL L (jL (mxw I F T 0 C)) (jL (sxw I F T C)) (jL (mnw I F T 0 C)) (jL (snw I F T C)) r69 r70), wQQ q)) 3 rfl ?_
          refine tv_lalN (k := i) rfl (rfl) (⟨by omega, by omega⟩) ?_
          refine tv_b (pc' := (if (lg_cmp (r69 i) (jL (mxw I F T 0 C))) = 0 then 52 else 59)) (ls' := [some (.ref 64), some (.int (nI i)), o2, o3, o4, o5]) (st' := []) (h' := (n, sl, wKK kk, (gaI I (nI ((rdl I F T C).length)) r68), (gaL L (jL (mxw I F T 0 C)) (jL (sxw I F T C)) (jL (mnw I F T 0 C)) (jL (snw I F T C)) r69 r70), wQQ q)) 4 rfl ?_
          refine tv_f (fun y => h1 (z49.mp y)) ?_
          refine tv_b (pc' := 69) (ls' := [some (.ref 64), some (.int (nI i)), some (.long (jL (mxw I F T 0 C))), none, o4, o5]) (st' := [.int (nI i), .ref 70]) (h' := (n, sl, wKK kk, (gaI I (nI ((rdl I F T C).length)) r68), (gaL L (jL (mxw I F T 0 C)) (jL (sxw I F T C)) (jL (mnw I F T 0 C)) (jL (snw I F T C)) r69 r70), wQQ q)) 6 rfl ?_
          refine tv_lalN (k := i) rfl (rfl) (⟨by omega, by omega⟩) ?_
          refine tv_b (pc' := (if (lg_cmp (r70 i) (jL (mnw I F T 0 C))) = 0 then 78 else 85)) (ls' := [some (.ref 64), some (.int (nI i)), some (.long (jL (mxw I F T 0 C))), none, o4, o5]) (st' := []) (h' := (n, sl, wKK kk, (gaI I (nI ((rdl I F T C).length)) r68), (gaL L (jL (mxw I F T 0 C)) (jL (sxw I F T C)) (jL (mnw I F T 0 C)) (jL (snw I F T C)) r69 r70), wQQ q)) 4 rfl ?_
          refine tv_f (fun y => h2 (z75.mp y)) ?_
          refine tv_b (pc' := (if 0 < (lg_cmp (jL (mxw I F T 0 C)) (jL (mnw I F T 0 C))) then 105 else 98)) (ls' := [some (.ref 64), some (.int (nI i)), some (.long (jL (mxw I F T 0 C))), none, some (.long (jL (mnw I F T 0 C))), none]) (st' := []) (h' := (n, sl, wKK kk, (gaI I (nI ((rdl I F T C).length)) r68), (gaL L (jL (mxw I F T 0 C)) (jL (sxw I F T C)) (jL (mnw I F T 0 C)) (jL (snw I F T C)) r69 r70), wQQ q)) 7 rfl ?_
          refine tv_f (fun y => absurd ((gt_i w1 w2).mp y) (by omega)) ?_
          refine tv_b (pc' := 103) (ls' := [some (.ref 64), some (.int (nI i)), some (.long (jL (mxw I F T 0 C))), none, some (.long (jL (mnw I F T 0 C))), none]) (st' := [.int (nI i), .ref 68]) (h' := (n, sl, wKK kk, (gaI I (nI ((rdl I F T C).length)) r68), (gaL L (jL (mxw I F T 0 C)) (jL (sxw I F T C)) (jL (mnw I F T 0 C)) (jL (snw I F T C)) r69 r70), wQQ q)) 3 rfl ?_
          refine tv_ialN (k := i) rfl (rfl) (⟨by omega, by omega⟩) ?_
          refine tv_top (e68) ?_
          exact tv_ri rfl ⟨rfl, rfl⟩
        · rw [if_neg hz]
          show am_T _ _ 23 [some (.ref 64), some (.int (nI i)), o2, o3, o4, o5] _ _ _
          refine tv_b (pc' := (if (nI ((rdl I F T C).length)) ≤ (nI i) then 111 else 31)) (ls' := [some (.ref 64), some (.int (nI i)), o2, o3, o4, o5]) (st' := []) (h' := (n, sl, wKK kk, (gaI I (nI ((rdl I F T C).length)) r68), (gaL L (jL (mxw I F T 0 C)) (jL (sxw I F T C)) (jL (mnw I F T 0 C)) (jL (snw I F T C)) r69 r70), wQQ q)) 4 rfl ?_
          refine tv_f (fun hq => absurd ((nI_leI (a := (rdl I F T C).length) (b := i) (by omega) (by omega)).mp hq) (by omega)) ?_
          refine tv_b (pc' := (if 200 ≤ (nI i) then 111 else 38)) (ls' := [some (.ref 64), some (.int (nI i)), o2, o3, o4, o5]) (st' := []) (h' := (n, sl, wKK kk, (gaI I (nI ((rdl I F T C).length)) r68), (gaL L (jL (mxw I F T 0 C)) (jL (sxw I F T C)) (jL (mnw I F T 0 C)) (jL (snw I F T C)) r69 r70), wQQ q)) 3 rfl ?_
          refine tv_f (fun hq => absurd ((nI_leI (a := 200) (b := i) (by omega) (by omega)).mp hq) (by omega)) ?_
          refine tv_b (pc' := 43) (ls' := [some (.ref 64), some (.int (nI i)), o2, o3, o4, o5]) (st' := [.int (nI i), .ref 69]) (h' := (n, sl, wKK kk, (gaI I (nI ((rdl I F T C).length)) r68), (gaL L (jL (mxw I F T 0 C)) (jL (sxw I F T C)) (jL (mnw I F T 0 C)) (jL (snw I F T C)) r69 r70), wQQ q)) 3 rfl ?_
          refine tv_lalN (k := i) rfl (rfl) (⟨by omega, by omega⟩) ?_
          refine tv_b (pc' := (if (lg_cmp (r69 i) (jL (mxw I F T 0 C))) = 0 then 52 else 59)) (ls' := [some (.ref 64), some (.int (nI i)), o2, o3, o4, o5]) (st' := []) (h' := (n, sl, wKK kk, (gaI I (nI ((rdl I F T C).length)) r68), (gaL L (jL (mxw I F T 0 C)) (jL (sxw I F T C)) (jL (mnw I F T 0 C)) (jL (snw I F T C)) r69 r70), wQQ q)) 4 rfl ?_
          refine tv_f (fun y => h1 (z49.mp y)) ?_
          refine tv_b (pc' := 69) (ls' := [some (.ref 64), some (.int (nI i)), some (.long (jL (mxw I F T 0 C))), none, o4, o5]) (st' := [.int (nI i), .ref 70]) (h' := (n, sl, wKK kk, (gaI I (nI ((rdl I F T C).length)) r68), (gaL L (jL (mxw I F T 0 C)) (jL (sxw I F T C)) (jL (mnw I F T 0 C)) (jL (snw I F T C)) r69 r70), wQQ q)) 6 rfl ?_
          refine tv_lalN (k := i) rfl (rfl) (⟨by omega, by omega⟩) ?_
          refine tv_b (pc' := (if (lg_cmp (r70 i) (jL (mnw I F T 0 C))) = 0 then 78 else 85)) (ls' := [some (.ref 64), some (.int (nI i)), some (.long (jL (mxw I F T 0 C))), none, o4, o5]) (st' := []) (h' := (n, sl, wKK kk, (gaI I (nI ((rdl I F T C).length)) r68), (gaL L (jL (mxw I F T 0 C)) (jL (sxw I F T C)) (jL (mnw I F T 0 C)) (jL (snw I F T C)) r69 r70), wQQ q)) 4 rfl ?_
          refine tv_f (fun y => h2 (z75.mp y)) ?_
          refine tv_b (pc' := (if 0 < (lg_cmp (jL (mxw I F T 0 C)) (jL (mnw I F T 0 C))) then 105 else 98)) (ls' := [some (.ref 64), some (.int (nI i)), some (.long (jL (mxw I F T 0 C))), none, some (.long (jL (mnw I F T 0 C))), none]) (st' := []) (h' := (n, sl, wKK kk, (gaI I (nI ((rdl I F T C).length)) r68), (gaL L (jL (mxw I F T 0 C)) (jL (sxw I F T C)) (jL (mnw I F T 0 C)) (jL (snw I F T C)) r69 r70), wQQ q)) 7 rfl ?_
          refine tv_t ((gt_i w1 w2).mpr (by omega)) ?_
          refine tv_iincN (k := i) (ls' := [some (.ref 64), some (.int (nI (i + 1))), some (.long (jL (mxw I F T 0 C))), none, some (.long (jL (mnw I F T 0 C))), none]) rfl rfl rfl ?_
          refine tv_b (pc' := 23) (ls' := [some (.ref 64), some (.int (nI (i + 1))), some (.long (jL (mxw I F T 0 C))), none, some (.long (jL (mnw I F T 0 C))), none]) (st' := []) (h' := (n, sl, wKK kk, (gaI I (nI ((rdl I F T C).length)) r68), (gaL L (jL (mxw I F T 0 C)) (jL (sxw I F T C)) (jL (mnw I F T 0 C)) (jL (snw I F T C)) r69 r70), wQQ q)) 1 rfl ?_
          exact ih (i + 1) (by omega) _ _ _ _
theorem tv_oddOne {n sl : Nat} {kk : Nat → Nat × Nat} {I : Nat → Nat → Int32} {L : Nat → Nat → Int64} {q : Nat → Nat → Option Nat} {F T C : Nat} {r68 : Nat → Int32} {r69 r70 : Nat → Int64} (hb : ∀ n, rdB I F T n = true → (-9000000000 ≤ loZ I F n ∧ loZ I F n ≤ 9000000000) ∧ (-9000000000 ≤ hiZ I F n ∧ hiZ I F n ≤ 9000000000)) (hC2 : C ≤ 200) (hE : gaE I F T C r68 r69 r70) : am_T 1 46 0 (am_ent 6 [.ref 64]) [] (n, sl, wKK kk, (gaI I (nI ((rdl I F T C).length)) r68), (gaL L (jL (mxw I F T 0 C)) (jL (sxw I F T C)) (jL (mnw I F T 0 C)) (jL (snw I F T C)) r69 r70), wQQ q) (fun rv h' => rv = some (.int (if cnw I F T 0 C = 0 then -1 else if mxw I F T 0 C ≤ mnw I F T 0 C then -1 else odF I F T C C 0)) ∧ h' = (n, sl, wKK kk, (gaI I (nI ((rdl I F T C).length)) r68), (gaL L (jL (mxw I F T 0 C)) (jL (sxw I F T C)) (jL (mnw I F T 0 C)) (jL (snw I F T C)) r69 r70), wQQ q)) := by
  have hlen := rdl_len (X := I) (F := F) (T := T) C
  obtain ⟨w1, w2, w3, w4⟩ := w_b (X := I) (F := F) (T := T) (b := 0) hb C
  rw [← hlen.1, ← od_all]
  have hl2 := hlen.2
  by_cases h0 : (rdl I F T C).length = 0
  · rw [if_pos h0]
    show am_T _ _ 0 [some (.ref 64), none, none, none, none, none] _ _ _
    refine tv_b (pc' := (if (nI ((rdl I F T C).length)) = 0 then 19 else 7)) (ls' := [some (.ref 64), none, none, none, none, none]) (st' := []) (h' := (n, sl, wKK kk, (gaI I (nI ((rdl I F T C).length)) r68), (gaL L (jL (mxw I F T 0 C)) (jL (sxw I F T C)) (jL (mnw I F T 0 C)) (jL (snw I F T C)) r69 r70), wQQ q)) 3 rfl ?_
    refine tv_t ((nI_eq (a := (rdl I F T C).length) (b := 0) (by omega) (by omega)).mpr (h0)) ?_
    refine tv_b (pc' := 20) (ls' := [some (.ref 64), none, none, none, none, none]) (st' := [.int (-1)]) (h' := (n, sl, wKK kk, (gaI I (nI ((rdl I F T C).length)) r68), (gaL L (jL (mxw I F T 0 C)) (jL (sxw I F T C)) (jL (mnw I F T 0 C)) (jL (snw I F T C)) r69 r70), wQQ q)) 1 rfl ?_
    exact tv_ri rfl ⟨rfl, rfl⟩
  · rw [if_neg h0]
    by_cases hz : mxw I F T 0 C ≤ mnw I F T 0 C
    · rw [if_pos hz]
      show am_T _ _ 0 [some (.ref 64), none, none, none, none, none] _ _ _
      refine tv_b (pc' := (if (nI ((rdl I F T C).length)) = 0 then 19 else 7)) (ls' := [some (.ref 64), none, none, none, none, none]) (st' := []) (h' := (n, sl, wKK kk, (gaI I (nI ((rdl I F T C).length)) r68), (gaL L (jL (mxw I F T 0 C)) (jL (sxw I F T C)) (jL (mnw I F T 0 C)) (jL (snw I F T C)) r69 r70), wQQ q)) 3 rfl ?_
      refine tv_f (fun hq => absurd ((nI_eq (a := (rdl I F T C).length) (b := 0) (by omega) (by omega)).mp hq) (h0)) ?_
      refine tv_b (pc' := (if 0 < (lg_cmp (jL (mxw I F T 0 C)) (jL (mnw I F T 0 C))) then 21 else 19)) (ls' := [some (.ref 64), none, none, none, none, none]) (st' := []) (h' := (n, sl, wKK kk, (gaI I (nI ((rdl I F T C).length)) r68), (gaL L (jL (mxw I F T 0 C)) (jL (sxw I F T C)) (jL (mnw I F T 0 C)) (jL (snw I F T C)) r69 r70), wQQ q)) 6 rfl ?_
      refine tv_f (fun y => absurd ((gt_i w1 w2).mp y) (by omega)) ?_
      refine tv_b (pc' := 20) (ls' := [some (.ref 64), none, none, none, none, none]) (st' := [.int (-1)]) (h' := (n, sl, wKK kk, (gaI I (nI ((rdl I F T C).length)) r68), (gaL L (jL (mxw I F T 0 C)) (jL (sxw I F T C)) (jL (mnw I F T 0 C)) (jL (snw I F T C)) r69 r70), wQQ q)) 1 rfl ?_
      exact tv_ri rfl ⟨rfl, rfl⟩
    · rw [if_neg hz]
      show am_T _ _ 0 [some (.ref 64), none, none, none, none, none] _ _ _
      refine tv_b (pc' := (if (nI ((rdl I F T C).length)) = 0 then 19 else 7)) (ls' := [some (.ref 64), none, none, none, none, none]) (st' := []) (h' := (n, sl, wKK kk, (gaI I (nI ((rdl I F T C).length)) r68), (gaL L (jL (mxw I F T 0 C)) (jL (sxw I F T C)) (jL (mnw I F T 0 C)) (jL (snw I F T C)) r69 r70), wQQ q)) 3 rfl ?_
      refine tv_f (fun hq => absurd ((nI_eq (a := (rdl I F T C).length) (b := 0) (by omega) (by omega)).mp hq) (h0)) ?_
      refine tv_b (pc' := (if 0 < (lg_cmp (jL (mxw I F T 0 C)) (jL (mnw I F T 0 C))) then 21 else 19)) (ls' := [some (.ref 64), none, none, none, none, none]) (st' := []) (h' := (n, sl, wKK kk, (gaI I (nI ((rdl I F T C).length)) r68), (gaL L (jL (mxw I F T 0 C)) (jL (sxw I F T C)) (jL (mnw I F T 0 C)) (jL (snw I F T C)) r69 r70), wQQ q)) 6 rfl ?_
      refine tv_t ((gt_i w1 w2).mpr (by omega)) ?_
      refine tv_b (pc' := 23) (ls' := [some (.ref 64), some (.int 0), none, none, none, none]) (st' := []) (h' := (n, sl, wKK kk, (gaI I (nI ((rdl I F T C).length)) r68), (gaL L (jL (mxw I F T 0 C)) (jL (sxw I F T C)) (jL (mnw I F T 0 C)) (jL (snw I F T C)) r69 r70), wQQ q)) 2 rfl ?_
      exact tv_oddL hb hC2 hE _ 0 (Nat.zero_add _) none none none none
def fiI (I : Nat → Nat → Int32) (ct : Int32) (j i : Nat) : Int32 := cond (Nat.beq j 80) (cond (Nat.beq i 65) ct (I 80 i)) (I j i)
theorem fiI_nb : ∀ {i k : Nat}, ¬ i = k → Nat.beq i k = false := fun h => Bool.eq_false_iff.mpr (fun q => h (Nat.eq_of_beq_eq_true q))
theorem fiI_w_ct {I : Nat → Nat → Int32} {ct : Int32} {y : Int32} : va_up (fiI I ct) 80 (upd ((fiI I ct) 80) 65 y) = fiI I y := by
  funext j i
  unfold va_up upd
  by_cases hj : j = 80
  · subst hj
    by_cases hi : i = 65
    · subst hi; rfl
    · rw [if_pos rfl, if_neg hi]; unfold fiI; simp only [fiI_nb hi, cond_false]
  · rw [if_neg hj]; unfold fiI; simp only [fiI_nb hj, cond_false]
def fiL (L : Nat → Nat → Int64) (lo up : Int64) (j i : Nat) : Int64 := cond (Nat.beq j 80) (cond (Nat.beq i 63) lo (cond (Nat.beq i 64) up (L 80 i))) (L j i)
theorem fiL_nb : ∀ {i k : Nat}, ¬ i = k → Nat.beq i k = false := fun h => Bool.eq_false_iff.mpr (fun q => h (Nat.eq_of_beq_eq_true q))
theorem fiL_w_lo {L : Nat → Nat → Int64} {lo up : Int64} {y : Int64} : va_up (fiL L lo up) 80 (vp_updL ((fiL L lo up) 80) 63 y) = fiL L y up := by
  funext j i
  unfold va_up vp_updL
  by_cases hj : j = 80
  · subst hj
    by_cases hi : i = 63
    · subst hi; rfl
    · rw [if_pos rfl, if_neg hi]; unfold fiL; simp only [fiL_nb hi, cond_false]
  · rw [if_neg hj]; unfold fiL; simp only [fiL_nb hj, cond_false]
theorem fiL_w_up {L : Nat → Nat → Int64} {lo up : Int64} {y : Int64} : va_up (fiL L lo up) 80 (vp_updL ((fiL L lo up) 80) 64 y) = fiL L lo y := by
  funext j i
  unfold va_up vp_updL
  by_cases hj : j = 80
  · subst hj
    by_cases hi : i = 64
    · subst hi; rfl
    · rw [if_pos rfl, if_neg hi]; unfold fiL; simp only [fiL_nb hi, cond_false]
  · rw [if_neg hj]; unfold fiL; simp only [fiL_nb hj, cond_false]
theorem fiI_o {I : Nat → Nat → Int32} {a : Int32} {j : Nat} (h : j ≠ 80) : fiI I a j = I j := by
  funext i
  unfold fiI
  rw [fiI_nb h]
  rfl
theorem fiI_8 {I : Nat → Nat → Int32} {a : Int32} {k : Nat} (h : k ≠ 65) : fiI I a 80 k = I 80 k := by
  show cond (Nat.beq k 65) a (I 80 k) = _
  rw [fiI_nb h]
  rfl
theorem fiL_o {L : Nat → Nat → Int64} {a b : Int64} {j : Nat} (h : j ≠ 80) : fiL L a b j = L j := by
  funext i
  unfold fiL
  rw [fiL_nb h]
  rfl
theorem fi_rE {I : Nat → Nat → Int32} {a : Int32} : rE (fiI I a) I := ⟨fun j j1 j2 => fiI_o (by omega), fiI_8 (by decide), fiI_8 (by decide)⟩
set_option maxHeartbeats 4000000 in
theorem tv_fitsL {n sl C : Nat} {kk : Nat → Nat × Nat} {q : Nat → Nat → Option Nat} {I : Nat → Nat → Int32} {L : Nat → Nat → Int64} {ah : Nat → Nat} {M : Nat → List (Nat × Nat × List Nat)} {F T b : Nat} (g : gInv n kk q I L C ah M) (ht : tInv I) (hu : uInv I) (hF : F ≤ T) (hT4 : T < 400) (hP : mPl I L) (hb31 : b < 1000) : ∀ m k : Nat, k + m = nNow I → ∀ (lo up : Int64) (o5 o6 o7 o8 o9 o10 : Option Value), ((cnw I F T b k) ≠ 0 → lo = jL (mxw I F T b k) ∧ up = jL (mnw I F T b k)) → am_T 6 227 8 [some (.ref 80), some (.int (nI F)), some (.int (nI T)), some (.int (nI b)), some (.int (nI (k + 1))), o5, o6, o7, o8, o9, o10] [] (n, sl, wKK kk, (fiI I (nI (cnw I F T b k))), (fiL L lo up), wQQ q) (fun rv h' => rv = none ∧ ∃ lo' up', h' = (n, sl, wKK kk, (fiI I (nI (cnw I F T b (nNow I)))), (fiL L lo' up'), wQQ q) ∧ ((cnw I F T b (nNow I)) ≠ 0 → lo' = jL (mxw I F T b (nNow I)) ∧ up' = jL (mnw I F T b (nNow I)))) := by
  have gT := g.1
  have gB := g.2.1
  have b4 : nC I = C := g.2.2.1.2.2.1.2.1
  have hC2 : C ≤ 200 := by rw [← b4]; exact gB.1.2
  have hnn : nNow I ≤ C := by rw [← b4]; exact (nNow_v gB).2
  have hwb := w_b (X := I) (F := F) (T := T) (b := b) (rd_b g hu hF hT4)
  have en : ∀ (d' : Nat) (ct : Int32) (L' : Nat → Nat → Int64), am_Ev d' 198 0 (am_ent 1 [.ref 80]) [] (n, sl, wKK kk, fiI I ct, L', wQQ q) (some (.int (nI (nNow I))), (n, sl, wKK kk, fiI I ct, L', wQQ q)) := fun d' ct L' => by
    have e := ev_m_now (d := d') (n := n) (sl := sl) (k := kk) (q := q) (I := fiI I ct) (L := L')
    rw [(now_N (wfB_c fi_rE gB)).1, (kn_c fi_rE).2.1] at e
    exact e
  have hcnt : ∀ k, cnw I F T b k ≤ k := fun k => by
    induction k with
    | zero => exact Nat.le_refl _
    | succ k ih => unfold cnw; split <;> omega
  intro m
  induction m with
  | zero =>
    intro k hk lo up o5 o6 o7 o8 o9 o10 hlu
    have hk2 : k = nNow I := by omega
    subst hk2
    show am_T _ _ 8 [some (.ref 80), some (.int (nI F)), some (.int (nI T)), some (.int (nI b)), some (.int (nI (nNow I + 1))), o5, o6, o7, o8, o9, o10] _ _ _
    refine tv_b (pc' := 11) (ls' := [some (.ref 80), some (.int (nI F)), some (.int (nI T)), some (.int (nI b)), some (.int (nI (nNow I + 1))), o5, o6, o7, o8, o9, o10]) (st' := [.ref 80, .int (nI (nNow I + 1))]) (h' := (n, sl, wKK kk, (fiI I (nI (cnw I F T b (nNow I)))), (fiL L lo up), wQQ q)) 2 rfl ?_
    refine tv_cvE [] [.int (nI (nNow I + 1))] rfl rfl (by omega) rfl (Nat.le_of_ble_eq_true rfl) (Nat.le_of_ble_eq_true rfl) (Or.inr (Or.inr rfl)) (en _ _ _) ?_
    refine tv_b (pc' := (if (nI (nNow I)) < (nI (nNow I + 1)) then 209 else 17)) (ls' := [some (.ref 80), some (.int (nI F)), some (.int (nI T)), some (.int (nI b)), some (.int (nI (nNow I + 1))), o5, o6, o7, o8, o9, o10]) (st' := []) (h' := (n, sl, wKK kk, (fiI I (nI (cnw I F T b (nNow I)))), (fiL L lo up), wQQ q)) 1 rfl ?_
    refine tv_t ((nI_ltI (a := (nNow I)) (b := (nNow I + 1)) (by omega) (by omega)).mpr (by omega)) ?_
    exact tv_rv rfl ⟨rfl, lo, up, rfl, hlu⟩
  | succ m ih =>
    intro k hk lo up o5 o6 o7 o8 o9 o10 hlu
    have hkC : k < C := by omega
    have hck := hcnt k
    obtain ⟨_, w1, w2, w3⟩ := gB.2.2 (k + 1) (by omega) (by rw [b4]; omega)
    have hcl : (nI (k + 1)).toNatClampNeg = k + 1 := nI_clamp (by omega)
    have ekm : ∀ (d' : Nat) (ct : Int32) (L' : Nat → Nat → Int64), am_Ev (d' + 1) 199 0 (am_ent 2 [.ref 80, .int (nI (k + 1))]) [] (n, sl, wKK kk, fiI I ct, L', wQQ q) (some (.int (if kn I (k + 1) = true then 1 else 0)), (n, sl, wKK kk, fiI I ct, L', wQQ q)) := fun d' ct L' => by
      have e := ev_m_isKnown (d := d') (n := n) (sl := sl) (k := kk) (q := q) (I := fiI I ct) (L := L') (x := nI (k + 1)) (fun _ _ => by rw [hcl]; exact fun z => z.elim (nI_pos (by omega)) (by omega))
      rw [known_k (wfB_c fi_rE gB) (by omega) (by rw [(kn_c fi_rE).1, b4]; omega), (kn_c fi_rE).2.2] at e
      exact e
    have hskip : ¬ (rdB I F T (k + 1) = true ∧ k + 1 ≠ b) → ∀ o5 o6 o7 o8 o9 o10 : Option Value, am_T 6 227 8 [some (.ref 80), some (.int (nI F)), some (.int (nI T)), some (.int (nI b)), some (.int (nI (k + 1 + 1))), o5, o6, o7, o8, o9, o10] [] (n, sl, wKK kk, (fiI I (nI (cnw I F T b k))), (fiL L lo up), wQQ q) (fun rv h' => rv = none ∧ ∃ lo' up', h' = (n, sl, wKK kk, (fiI I (nI (cnw I F T b (nNow I)))), (fiL L lo' up'), wQQ q) ∧ ((cnw I F T b (nNow I)) ≠ 0 → lo' = jL (mxw I F T b (nNow I)) ∧ up' = jL (mnw I F T b (nNow I)))) := fun hn o5 o6 o7 o8 o9 o10 => by
      obtain ⟨q1, q2, q3⟩ := w_n hn
      have hq := ih (k + 1) (by omega) lo up o5 o6 o7 o8 o9 o10 (by rw [q1, q2, q3]; exact hlu)
      rw [q3] at hq
      exact hq
    by_cases hkr : kn I (k + 1) = true
    · rw [if_pos hkr] at ekm
      show am_T _ _ 8 [some (.ref 80), some (.int (nI F)), some (.int (nI T)), some (.int (nI b)), some (.int (nI (k + 1))), o5, o6, o7, o8, o9, o10] _ _ _
      refine tv_b (pc' := 11) (ls' := [some (.ref 80), some (.int (nI F)), some (.int (nI T)), some (.int (nI b)), some (.int (nI (k + 1))), o5, o6, o7, o8, o9, o10]) (st' := [.ref 80, .int (nI (k + 1))]) (h' := (n, sl, wKK kk, (fiI I (nI (cnw I F T b k))), (fiL L lo up), wQQ q)) 2 rfl ?_
      refine tv_cvE [] [.int (nI (k + 1))] rfl rfl (by omega) rfl (Nat.le_of_ble_eq_true rfl) (Nat.le_of_ble_eq_true rfl) (Or.inr (Or.inr rfl)) (en _ _ _) ?_
      refine tv_b (pc' := (if (nI (nNow I)) < (nI (k + 1)) then 209 else 17)) (ls' := [some (.ref 80), some (.int (nI F)), some (.int (nI T)), some (.int (nI b)), some (.int (nI (k + 1))), o5, o6, o7, o8, o9, o10]) (st' := []) (h' := (n, sl, wKK kk, (fiI I (nI (cnw I F T b k))), (fiL L lo up), wQQ q)) 1 rfl ?_
      refine tv_f (fun hq => absurd ((nI_ltI (a := (nNow I)) (b := (k + 1)) (by omega) (by omega)).mp hq) (by omega)) ?_
      refine tv_b (pc' := (if (nI (k + 1)) = (nI b) then 203 else 23)) (ls' := [some (.ref 80), some (.int (nI F)), some (.int (nI T)), some (.int (nI b)), some (.int (nI (k + 1))), o5, o6, o7, o8, o9, o10]) (st' := []) (h' := (n, sl, wKK kk, (fiI I (nI (cnw I F T b k))), (fiL L lo up), wQQ q)) 3 rfl ?_
      refine tv_ifq (nI_eq (a := (k + 1)) (b := b) (by omega) (by omega)) (fun c20 => ?_) (fun c20 => ?_)
      · refine tv_iincN (k := (k + 1)) (ls' := [some (.ref 80), some (.int (nI F)), some (.int (nI T)), some (.int (nI b)), some (.int (nI ((k + 1) + 1))), o5, o6, o7, o8, o9, o10]) rfl rfl rfl ?_
        refine tv_b (pc' := 8) (ls' := [some (.ref 80), some (.int (nI F)), some (.int (nI T)), some (.int (nI b)), some (.int (nI ((k + 1) + 1))), o5, o6, o7, o8, o9, o10]) (st' := []) (h' := (n, sl, wKK kk, (fiI I (nI (cnw I F T b k))), (fiL L lo up), wQQ q)) 1 rfl ?_
        exact hskip (fun z => z.2 c20) _ _ _ _ _ _
      · refine tv_b (pc' := 26) (ls' := [some (.ref 80), some (.int (nI F)), some (.int (nI T)), some (.int (nI b)), some (.int (nI (k + 1))), o5, o6, o7, o8, o9, o10]) (st' := [.int (nI (k + 1)), .ref 80]) (h' := (n, sl, wKK kk, (fiI I (nI (cnw I F T b k))), (fiL L lo up), wQQ q)) 2 rfl ?_
        refine tv_cvE [.int (nI (k + 1))] [] rfl rfl (by omega) rfl (Nat.le_of_ble_eq_true rfl) (Nat.le_of_ble_eq_true rfl) (Or.inr (Or.inr rfl)) (ekm _ _ _) ?_
        refine tv_b (pc' := 38) (ls' := [some (.ref 80), some (.int (nI F)), some (.int (nI T)), some (.int (nI b)), some (.int (nI (k + 1))), o5, o6, o7, o8, o9, o10]) (st' := [.int (nI (k + 1)), .ref 107]) (h' := (n, sl, wKK kk, (fiI I (nI (cnw I F T b k))), (fiL L lo up), wQQ q)) 4 rfl ?_
        refine tv_ialN (k := (k + 1)) rfl (rfl) (⟨by omega, by omega⟩) ?_
        refine tv_b (pc' := (if (I 107 (k + 1)) = 3 then 43 else 203)) (ls' := [some (.ref 80), some (.int (nI F)), some (.int (nI T)), some (.int (nI b)), some (.int (nI (k + 1))), o5, o6, o7, o8, o9, o10]) (st' := []) (h' := (n, sl, wKK kk, (fiI I (nI (cnw I F T b k))), (fiL L lo up), wQQ q)) 2 rfl ?_
        refine tv_if (fun c40 => ?_) (fun c40 => ?_)
        · refine tv_b (pc' := 49) (ls' := [some (.ref 80), some (.int (nI F)), some (.int (nI T)), some (.int (nI b)), some (.int (nI (k + 1))), o5, o6, o7, o8, o9, o10]) (st' := [.int (nI (k + 1)), .ref 108]) (h' := (n, sl, wKK kk, (fiI I (nI (cnw I F T b k))), (fiL L lo up), wQQ q)) 3 rfl ?_
          refine tv_ialN (k := (k + 1)) rfl (rfl) (⟨by omega, by omega⟩) ?_
          refine tv_top (w1) ?_
          refine tv_b (pc' := (if (nI (dyN I (k + 1))) < (nI F) then 203 else 54)) (ls' := [some (.ref 80), some (.int (nI F)), some (.int (nI T)), some (.int (nI b)), some (.int (nI (k + 1))), o5, o6, o7, o8, o9, o10]) (st' := []) (h' := (n, sl, wKK kk, (fiI I (nI (cnw I F T b k))), (fiL L lo up), wQQ q)) 2 rfl ?_
          refine tv_ifq (nI_ltI (a := (dyN I (k + 1))) (b := F) (by omega) (by omega)) (fun c51 => ?_) (fun c51 => ?_)
          · refine tv_iincN (k := (k + 1)) (ls' := [some (.ref 80), some (.int (nI F)), some (.int (nI T)), some (.int (nI b)), some (.int (nI ((k + 1) + 1))), o5, o6, o7, o8, o9, o10]) rfl rfl rfl ?_
            refine tv_b (pc' := 8) (ls' := [some (.ref 80), some (.int (nI F)), some (.int (nI T)), some (.int (nI b)), some (.int (nI ((k + 1) + 1))), o5, o6, o7, o8, o9, o10]) (st' := []) (h' := (n, sl, wKK kk, (fiI I (nI (cnw I F T b k))), (fiL L lo up), wQQ q)) 1 rfl ?_
            exact hskip (fun z => absurd (of_decide_eq_true z.1 : kn I (k + 1) = true ∧ I 107 (k + 1) = 3 ∧ F ≤ dyN I (k + 1) ∧ dyN I (k + 1) ≤ T).2.2.1 (by omega)) _ _ _ _ _ _
          · refine tv_b (pc' := 60) (ls' := [some (.ref 80), some (.int (nI F)), some (.int (nI T)), some (.int (nI b)), some (.int (nI (k + 1))), o5, o6, o7, o8, o9, o10]) (st' := [.int (nI (k + 1)), .ref 108]) (h' := (n, sl, wKK kk, (fiI I (nI (cnw I F T b k))), (fiL L lo up), wQQ q)) 3 rfl ?_
            refine tv_ialN (k := (k + 1)) rfl (rfl) (⟨by omega, by omega⟩) ?_
            refine tv_top (w1) ?_
            refine tv_b (pc' := (if (nI (dyN I (k + 1))) ≤ (nI T) then 68 else 65)) (ls' := [some (.ref 80), some (.int (nI F)), some (.int (nI T)), some (.int (nI b)), some (.int (nI (k + 1))), o5, o6, o7, o8, o9, o10]) (st' := []) (h' := (n, sl, wKK kk, (fiI I (nI (cnw I F T b k))), (fiL L lo up), wQQ q)) 2 rfl ?_
            refine tv_ifq (nI_leI (a := (dyN I (k + 1))) (b := T) (by omega) (by omega)) (fun c62 => ?_) (fun c62 => ?_)
            · have hrd : rdB I F T (k + 1) = true := decide_eq_true ⟨hkr, c40, by omega, by omega⟩
              obtain ⟨v1, v2, v3, v4, v5, v6, v7⟩ := right_v (L := L) g ht hu hkC c40
              have erm : ∀ (d' : Nat) (ct : Int32) (L' : Nat → Nat → Int64), am_Ev (d' + 1) 225 0 (am_ent 2 [.ref 80, .int (nI (k + 1))]) [] (n, sl, wKK kk, fiI I ct, L', wQQ q) (some (.int (rgt I (k + 1))), (n, sl, wKK kk, fiI I ct, L', wQQ q)) := fun d' ct L' => by
                have e := ev_m_rightOf (d := d') (n := n) (sl := sl) (k := kk) (q := q) (I := fiI I ct) (L := L') (nn := k + 1) (by omega) (by rw [fiI_o (by decide), v4, nI_clamp (by omega)]; exact fun z => z.elim (nI_pos (by omega)) (by omega)) (by rw [fiI_o (by decide), v6, nI_clamp (by omega)]) (by rw [fiI_o (by decide), v6, nI_clamp (by omega)]; exact v7)
                exact e
              have hlow : (((rgt I (k + 1)).toInt64 - ((L 114 (dyN I (k + 1))) - (L 114 F))) - (I 106 (clN I (k + 1))).toInt64) = jL (loZ I F (k + 1)) := by
                rw [(hP.2.2 (dyN I (k + 1)) (by omega)).1, (hP.2.2 F (by omega)).1, j64_x (rgt I (k + 1)), j64_x (I 106 (clN I (k + 1))), jL_sub, jL_sub, jL_sub]
                rfl
              have hhigh : (((rgt I (k + 1)).toInt64 - ((L 114 (dyN I (k + 1))) - (L 114 F))) + (I 106 (clN I (k + 1))).toInt64) = jL (hiZ I F (k + 1)) := by
                rw [(hP.2.2 (dyN I (k + 1)) (by omega)).1, (hP.2.2 F (by omega)).1, j64_x (rgt I (k + 1)), j64_x (I 106 (clN I (k + 1))), jL_sub, jL_sub, jL_add]
                rfl
              obtain ⟨⟨lb1, lb2⟩, ⟨lb3, lb4⟩⟩ := rd_b g hu hF hT4 (k + 1) hrd
              have bl : bM (loZ I F (k + 1)) := ⟨by omega, by omega⟩
              have bh : bM (hiZ I F (k + 1)) := ⟨by omega, by omega⟩
              obtain ⟨x1, x2, _, _⟩ := hwb k
              obtain ⟨y1, y2, y3⟩ := w_s (X := I) (F := F) (T := T) (b := b) (k := k) ⟨hrd, c20⟩
              by_cases h0 : cnw I F T b k = 0
              · obtain ⟨z1, z2⟩ := w_0 k h0
                have e1 : max (mxw I F T b k) (loZ I F (k + 1)) = loZ I F (k + 1) := by omega
                have e2 : min (mnw I F T b k) (hiZ I F (k + 1)) = hiZ I F (k + 1) := by omega
                refine tv_b (pc' := 71) (ls' := [some (.ref 80), some (.int (nI F)), some (.int (nI T)), some (.int (nI b)), some (.int (nI (k + 1))), o5, o6, o7, o8, o9, o10]) (st' := [.int (nI (k + 1)), .ref 80]) (h' := (n, sl, wKK kk, (fiI I (nI (cnw I F T b k))), (fiL L lo up), wQQ q)) 2 rfl ?_
                refine tv_cvE [.int (nI (k + 1))] [] rfl rfl (by omega) rfl (Nat.le_of_ble_eq_true rfl) (Nat.le_of_ble_eq_true rfl) (Or.inr (Or.inr rfl)) (erm _ _ _) ?_
                refine tv_b (pc' := 85) (ls' := [some (.ref 80), some (.int (nI F)), some (.int (nI T)), some (.int (nI b)), some (.int (nI (k + 1))), o5, o6, o7, o8, o9, o10]) (st' := [.int (nI (k + 1)), .ref 108, .ref 114, .long ((rgt I (k + 1)).toInt64)]) (h' := (n, sl, wKK kk, (fiI I (nI (cnw I F T b k))), (fiL L lo up), wQQ q)) 6 rfl ?_
                refine tv_ialN (k := (k + 1)) rfl (rfl) (⟨by omega, by omega⟩) ?_
                refine tv_top (w1) ?_
                refine tv_lalN (k := (dyN I (k + 1))) rfl (rfl) (⟨by omega, by omega⟩) ?_
                refine tv_b (pc' := 92) (ls' := [some (.ref 80), some (.int (nI F)), some (.int (nI T)), some (.int (nI b)), some (.int (nI (k + 1))), o5, o6, o7, o8, o9, o10]) (st' := [.int (nI F), .ref 114, .long (L 114 (dyN I (k + 1))), .long ((rgt I (k + 1)).toInt64)]) (h' := (n, sl, wKK kk, (fiI I (nI (cnw I F T b k))), (fiL L lo up), wQQ q)) 3 rfl ?_
                refine tv_lalN (k := F) rfl (rfl) (⟨by omega, by omega⟩) ?_
                refine tv_b (pc' := 109) (ls' := [some (.ref 80), some (.int (nI F)), some (.int (nI T)), some (.int (nI b)), some (.int (nI (k + 1))), some (.long (((rgt I (k + 1)).toInt64) - ((L 114 (dyN I (k + 1))) - (L 114 F)))), none, o7, o8, o9, o10]) (st' := [.int (nI (k + 1)), .ref 109, .ref 106, .long (((rgt I (k + 1)).toInt64) - ((L 114 (dyN I (k + 1))) - (L 114 F)))]) (h' := (n, sl, wKK kk, (fiI I (nI (cnw I F T b k))), (fiL L lo up), wQQ q)) 9 rfl ?_
                refine tv_ialN (k := (k + 1)) rfl (rfl) (⟨by omega, by omega⟩) ?_
                refine tv_top (v4) ?_
                refine tv_ialN (k := (clN I (k + 1))) rfl (rfl) (⟨by omega, by omega⟩) ?_
                refine tv_b (pc' := 113) (ls' := [some (.ref 80), some (.int (nI F)), some (.int (nI T)), some (.int (nI b)), some (.int (nI (k + 1))), some (.long (((rgt I (k + 1)).toInt64) - ((L 114 (dyN I (k + 1))) - (L 114 F)))), none, o7, o8, o9, o10]) (st' := [.long ((((rgt I (k + 1)).toInt64) - ((L 114 (dyN I (k + 1))) - (L 114 F))) - ((I 106 (clN I (k + 1))).toInt64))]) (h' := (n, sl, wKK kk, (fiI I (nI (cnw I F T b k))), (fiL L lo up), wQQ q)) 2 rfl ?_
                rw [hlow]
                refine tv_b (pc' := 127) (ls' := [some (.ref 80), some (.int (nI F)), some (.int (nI T)), some (.int (nI b)), some (.int (nI (k + 1))), some (.long (((rgt I (k + 1)).toInt64) - ((L 114 (dyN I (k + 1))) - (L 114 F)))), none, some (.long (jL (loZ I F (k + 1)))), none, o9, o10]) (st' := [.int (nI (k + 1)), .ref 109, .ref 106, .long (((rgt I (k + 1)).toInt64) - ((L 114 (dyN I (k + 1))) - (L 114 F)))]) (h' := (n, sl, wKK kk, (fiI I (nI (cnw I F T b k))), (fiL L lo up), wQQ q)) 7 rfl ?_
                refine tv_ialN (k := (k + 1)) rfl (rfl) (⟨by omega, by omega⟩) ?_
                refine tv_top (v4) ?_
                refine tv_ialN (k := (clN I (k + 1))) rfl (rfl) (⟨by omega, by omega⟩) ?_
                refine tv_b (pc' := 131) (ls' := [some (.ref 80), some (.int (nI F)), some (.int (nI T)), some (.int (nI b)), some (.int (nI (k + 1))), some (.long (((rgt I (k + 1)).toInt64) - ((L 114 (dyN I (k + 1))) - (L 114 F)))), none, some (.long (jL (loZ I F (k + 1)))), none, o9, o10]) (st' := [.long ((((rgt I (k + 1)).toInt64) - ((L 114 (dyN I (k + 1))) - (L 114 F))) + ((I 106 (clN I (k + 1))).toInt64))]) (h' := (n, sl, wKK kk, (fiI I (nI (cnw I F T b k))), (fiL L lo up), wQQ q)) 2 rfl ?_
                rw [hhigh]
                refine tv_b (pc' := (if (nI (cnw I F T b k)) = 0 then 151 else 141)) (ls' := [some (.ref 80), some (.int (nI F)), some (.int (nI T)), some (.int (nI b)), some (.int (nI (k + 1))), some (.long (((rgt I (k + 1)).toInt64) - ((L 114 (dyN I (k + 1))) - (L 114 F)))), none, some (.long (jL (loZ I F (k + 1)))), none, some (.long (jL (hiZ I F (k + 1)))), none]) (st' := [.ref 80]) (h' := (n, sl, wKK kk, (fiI I (nI (cnw I F T b k))), (fiL L lo up), wQQ q)) 5 rfl ?_
                refine tv_t ((nI_eq (a := (cnw I F T b k)) (b := 0) (by omega) (by omega)).mpr (h0)) ?_
                refine tv_b (pc' := 163) (ls' := [some (.ref 80), some (.int (nI F)), some (.int (nI T)), some (.int (nI b)), some (.int (nI (k + 1))), some (.long (((rgt I (k + 1)).toInt64) - ((L 114 (dyN I (k + 1))) - (L 114 F)))), none, some (.long (jL (loZ I F (k + 1)))), none, some (.long (jL (hiZ I F (k + 1)))), none]) (st' := []) (h' := (n, sl, wKK kk, (fiI I (nI (cnw I F T b k))), va_up (fiL L lo up) 80 (vp_updL ((fiL L lo up) 80) 63 (jL (loZ I F (k + 1)))), wQQ q)) 3 rfl ?_
                refine tv_hL fiL_w_lo ?_
                refine tv_b (pc' := (if (nI (cnw I F T b k)) = 0 then 181 else 171)) (ls' := [some (.ref 80), some (.int (nI F)), some (.int (nI T)), some (.int (nI b)), some (.int (nI (k + 1))), some (.long (((rgt I (k + 1)).toInt64) - ((L 114 (dyN I (k + 1))) - (L 114 F)))), none, some (.long (jL (loZ I F (k + 1)))), none, some (.long (jL (hiZ I F (k + 1)))), none]) (st' := [.ref 80]) (h' := (n, sl, wKK kk, (fiI I (nI (cnw I F T b k))), (fiL L (jL (loZ I F (k + 1))) up), wQQ q)) 4 rfl ?_
                refine tv_t ((nI_eq (a := (cnw I F T b k)) (b := 0) (by omega) (by omega)).mpr (h0)) ?_
                refine tv_b (pc' := 193) (ls' := [some (.ref 80), some (.int (nI F)), some (.int (nI T)), some (.int (nI b)), some (.int (nI (k + 1))), some (.long (((rgt I (k + 1)).toInt64) - ((L 114 (dyN I (k + 1))) - (L 114 F)))), none, some (.long (jL (loZ I F (k + 1)))), none, some (.long (jL (hiZ I F (k + 1)))), none]) (st' := []) (h' := (n, sl, wKK kk, (fiI I (nI (cnw I F T b k))), va_up (fiL L (jL (loZ I F (k + 1))) up) 80 (vp_updL ((fiL L (jL (loZ I F (k + 1))) up) 80) 64 (jL (hiZ I F (k + 1)))), wQQ q)) 3 rfl ?_
                refine tv_hL fiL_w_up ?_
                refine tv_b (pc' := 199) (ls' := [some (.ref 80), some (.int (nI F)), some (.int (nI T)), some (.int (nI b)), some (.int (nI (k + 1))), some (.long (((rgt I (k + 1)).toInt64) - ((L 114 (dyN I (k + 1))) - (L 114 F)))), none, some (.long (jL (loZ I F (k + 1)))), none, some (.long (jL (hiZ I F (k + 1)))), none]) (st' := [.int 1, .int (nI (cnw I F T b k)), .ref 80]) (h' := (n, sl, wKK kk, (fiI I (nI (cnw I F T b k))), (fiL L (jL (loZ I F (k + 1))) (jL (hiZ I F (k + 1)))), wQQ q)) 4 rfl ?_
                refine tv_b (pc' := 200) (ls' := [some (.ref 80), some (.int (nI F)), some (.int (nI T)), some (.int (nI b)), some (.int (nI (k + 1))), some (.long (((rgt I (k + 1)).toInt64) - ((L 114 (dyN I (k + 1))) - (L 114 F)))), none, some (.long (jL (loZ I F (k + 1)))), none, some (.long (jL (hiZ I F (k + 1)))), none]) (st' := [.int ((nI (cnw I F T b k)) + 1), .ref 80]) (h' := (n, sl, wKK kk, (fiI I (nI (cnw I F T b k))), (fiL L (jL (loZ I F (k + 1))) (jL (hiZ I F (k + 1)))), wQQ q)) 1 rfl ?_
                refine tv_top (show (nI (cnw I F T b k)) + 1 = nI ((cnw I F T b k) + 1) from nI_add (cnw I F T b k) 1) ?_
                refine tv_b (pc' := 203) (ls' := [some (.ref 80), some (.int (nI F)), some (.int (nI T)), some (.int (nI b)), some (.int (nI (k + 1))), some (.long (((rgt I (k + 1)).toInt64) - ((L 114 (dyN I (k + 1))) - (L 114 F)))), none, some (.long (jL (loZ I F (k + 1)))), none, some (.long (jL (hiZ I F (k + 1)))), none]) (st' := []) (h' := (n, sl, wKK kk, va_up (fiI I (nI (cnw I F T b k))) 80 (upd ((fiI I (nI (cnw I F T b k))) 80) 65 (nI ((cnw I F T b k) + 1))), (fiL L (jL (loZ I F (k + 1))) (jL (hiZ I F (k + 1)))), wQQ q)) 1 rfl ?_
                refine tv_hI fiI_w_ct ?_
                refine tv_iincN (k := (k + 1)) (ls' := [some (.ref 80), some (.int (nI F)), some (.int (nI T)), some (.int (nI b)), some (.int (nI ((k + 1) + 1))), some (.long (((rgt I (k + 1)).toInt64) - ((L 114 (dyN I (k + 1))) - (L 114 F)))), none, some (.long (jL (loZ I F (k + 1)))), none, some (.long (jL (hiZ I F (k + 1)))), none]) rfl rfl rfl ?_
                refine tv_b (pc' := 8) (ls' := [some (.ref 80), some (.int (nI F)), some (.int (nI T)), some (.int (nI b)), some (.int (nI ((k + 1) + 1))), some (.long (((rgt I (k + 1)).toInt64) - ((L 114 (dyN I (k + 1))) - (L 114 F)))), none, some (.long (jL (loZ I F (k + 1)))), none, some (.long (jL (hiZ I F (k + 1)))), none]) (st' := []) (h' := (n, sl, wKK kk, (fiI I (nI ((cnw I F T b k) + 1))), (fiL L (jL (loZ I F (k + 1))) (jL (hiZ I F (k + 1)))), wQQ q)) 1 rfl ?_
                rw [← y3]
                exact ih (k + 1) (by omega) _ _ _ _ _ _ _ _ (fun _ => ⟨by rw [y1, e1], by rw [y2, e2]⟩)
              · obtain ⟨rfl, rfl⟩ := hlu h0
                by_cases h1 : mxw I F T b k < loZ I F (k + 1)
                · have e1 : max (mxw I F T b k) (loZ I F (k + 1)) = loZ I F (k + 1) := by omega
                  by_cases h2 : hiZ I F (k + 1) < mnw I F T b k
                  · have e2 : min (mnw I F T b k) (hiZ I F (k + 1)) = hiZ I F (k + 1) := by omega
                    refine tv_b (pc' := 71) (ls' := [some (.ref 80), some (.int (nI F)), some (.int (nI T)), some (.int (nI b)), some (.int (nI (k + 1))), o5, o6, o7, o8, o9, o10]) (st' := [.int (nI (k + 1)), .ref 80]) (h' := (n, sl, wKK kk, (fiI I (nI (cnw I F T b k))), (fiL L (jL (mxw I F T b k)) (jL (mnw I F T b k))), wQQ q)) 2 rfl ?_
                    refine tv_cvE [.int (nI (k + 1))] [] rfl rfl (by omega) rfl (Nat.le_of_ble_eq_true rfl) (Nat.le_of_ble_eq_true rfl) (Or.inr (Or.inr rfl)) (erm _ _ _) ?_
                    refine tv_b (pc' := 85) (ls' := [some (.ref 80), some (.int (nI F)), some (.int (nI T)), some (.int (nI b)), some (.int (nI (k + 1))), o5, o6, o7, o8, o9, o10]) (st' := [.int (nI (k + 1)), .ref 108, .ref 114, .long ((rgt I (k + 1)).toInt64)]) (h' := (n, sl, wKK kk, (fiI I (nI (cnw I F T b k))), (fiL L (jL (mxw I F T b k)) (jL (mnw I F T b k))), wQQ q)) 6 rfl ?_
                    refine tv_ialN (k := (k + 1)) rfl (rfl) (⟨by omega, by omega⟩) ?_
                    refine tv_top (w1) ?_
                    refine tv_lalN (k := (dyN I (k + 1))) rfl (rfl) (⟨by omega, by omega⟩) ?_
                    refine tv_b (pc' := 92) (ls' := [some (.ref 80), some (.int (nI F)), some (.int (nI T)), some (.int (nI b)), some (.int (nI (k + 1))), o5, o6, o7, o8, o9, o10]) (st' := [.int (nI F), .ref 114, .long (L 114 (dyN I (k + 1))), .long ((rgt I (k + 1)).toInt64)]) (h' := (n, sl, wKK kk, (fiI I (nI (cnw I F T b k))), (fiL L (jL (mxw I F T b k)) (jL (mnw I F T b k))), wQQ q)) 3 rfl ?_
                    refine tv_lalN (k := F) rfl (rfl) (⟨by omega, by omega⟩) ?_
                    refine tv_b (pc' := 109) (ls' := [some (.ref 80), some (.int (nI F)), some (.int (nI T)), some (.int (nI b)), some (.int (nI (k + 1))), some (.long (((rgt I (k + 1)).toInt64) - ((L 114 (dyN I (k + 1))) - (L 114 F)))), none, o7, o8, o9, o10]) (st' := [.int (nI (k + 1)), .ref 109, .ref 106, .long (((rgt I (k + 1)).toInt64) - ((L 114 (dyN I (k + 1))) - (L 114 F)))]) (h' := (n, sl, wKK kk, (fiI I (nI (cnw I F T b k))), (fiL L (jL (mxw I F T b k)) (jL (mnw I F T b k))), wQQ q)) 9 rfl ?_
                    refine tv_ialN (k := (k + 1)) rfl (rfl) (⟨by omega, by omega⟩) ?_
                    refine tv_top (v4) ?_
                    refine tv_ialN (k := (clN I (k + 1))) rfl (rfl) (⟨by omega, by omega⟩) ?_
                    refine tv_b (pc' := 113) (ls' := [some (.ref 80), some (.int (nI F)), some (.int (nI T)), some (.int (nI b)), some (.int (nI (k + 1))), some (.long (((rgt I (k + 1)).toInt64) - ((L 114 (dyN I (k + 1))) - (L 114 F)))), none, o7, o8, o9, o10]) (st' := [.long ((((rgt I (k + 1)).toInt64) - ((L 114 (dyN I (k + 1))) - (L 114 F))) - ((I 106 (clN I (k + 1))).toInt64))]) (h' := (n, sl, wKK kk, (fiI I (nI (cnw I F T b k))), (fiL L (jL (mxw I F T b k)) (jL (mnw I F T b k))), wQQ q)) 2 rfl ?_
                    rw [hlow]
                    refine tv_b (pc' := 127) (ls' := [some (.ref 80), some (.int (nI F)), some (.int (nI T)), some (.int (nI b)), some (.int (nI (k + 1))), some (.long (((rgt I (k + 1)).toInt64) - ((L 114 (dyN I (k + 1))) - (L 114 F)))), none, some (.long (jL (loZ I F (k + 1)))), none, o9, o10]) (st' := [.int (nI (k + 1)), .ref 109, .ref 106, .long (((rgt I (k + 1)).toInt64) - ((L 114 (dyN I (k + 1))) - (L 114 F)))]) (h' := (n, sl, wKK kk, (fiI I (nI (cnw I F T b k))), (fiL L (jL (mxw I F T b k)) (jL (mnw I F T b k))), wQQ q)) 7 rfl ?_
                    refine tv_ialN (k := (k + 1)) rfl (rfl) (⟨by omega, by omega⟩) ?_
                    refine tv_top (v4) ?_
                    refine tv_ialN (k := (clN I (k + 1))) rfl (rfl) (⟨by omega, by omega⟩) ?_
                    refine tv_b (pc' := 131) (ls' := [some (.ref 80), some (.int (nI F)), some (.int (nI T)), some (.int (nI b)), some (.int (nI (k + 1))), some (.long (((rgt I (k + 1)).toInt64) - ((L 114 (dyN I (k + 1))) - (L 114 F)))), none, some (.long (jL (loZ I F (k + 1)))), none, o9, o10]) (st' := [.long ((((rgt I (k + 1)).toInt64) - ((L 114 (dyN I (k + 1))) - (L 114 F))) + ((I 106 (clN I (k + 1))).toInt64))]) (h' := (n, sl, wKK kk, (fiI I (nI (cnw I F T b k))), (fiL L (jL (mxw I F T b k)) (jL (mnw I F T b k))), wQQ q)) 2 rfl ?_
                    rw [hhigh]
                    refine tv_b (pc' := (if (nI (cnw I F T b k)) = 0 then 151 else 141)) (ls' := [some (.ref 80), some (.int (nI F)), some (.int (nI T)), some (.int (nI b)), some (.int (nI (k + 1))), some (.long (((rgt I (k + 1)).toInt64) - ((L 114 (dyN I (k + 1))) - (L 114 F)))), none, some (.long (jL (loZ I F (k + 1)))), none, some (.long (jL (hiZ I F (k + 1)))), none]) (st' := [.ref 80]) (h' := (n, sl, wKK kk, (fiI I (nI (cnw I F T b k))), (fiL L (jL (mxw I F T b k)) (jL (mnw I F T b k))), wQQ q)) 5 rfl ?_
                    refine tv_f (fun hq => absurd ((nI_eq (a := (cnw I F T b k)) (b := 0) (by omega) (by omega)).mp hq) (h0)) ?_
                    refine tv_b (pc' := (if (lg_cmp (jL (loZ I F (k + 1))) (jL (mxw I F T b k))) ≤ 0 then 156 else 151)) (ls' := [some (.ref 80), some (.int (nI F)), some (.int (nI T)), some (.int (nI b)), some (.int (nI (k + 1))), some (.long (((rgt I (k + 1)).toInt64) - ((L 114 (dyN I (k + 1))) - (L 114 F)))), none, some (.long (jL (loZ I F (k + 1)))), none, some (.long (jL (hiZ I F (k + 1)))), none]) (st' := [.ref 80]) (h' := (n, sl, wKK kk, (fiI I (nI (cnw I F T b k))), (fiL L (jL (mxw I F T b k)) (jL (mnw I F T b k))), wQQ q)) 5 rfl ?_
                    refine tv_f (fun y => ((le_i bl x1).mp y) h1) ?_
                    refine tv_b (pc' := 163) (ls' := [some (.ref 80), some (.int (nI F)), some (.int (nI T)), some (.int (nI b)), some (.int (nI (k + 1))), some (.long (((rgt I (k + 1)).toInt64) - ((L 114 (dyN I (k + 1))) - (L 114 F)))), none, some (.long (jL (loZ I F (k + 1)))), none, some (.long (jL (hiZ I F (k + 1)))), none]) (st' := []) (h' := (n, sl, wKK kk, (fiI I (nI (cnw I F T b k))), va_up (fiL L (jL (mxw I F T b k)) (jL (mnw I F T b k))) 80 (vp_updL ((fiL L (jL (mxw I F T b k)) (jL (mnw I F T b k))) 80) 63 (jL (loZ I F (k + 1)))), wQQ q)) 3 rfl ?_
                    refine tv_hL fiL_w_lo ?_
                    refine tv_b (pc' := (if (nI (cnw I F T b k)) = 0 then 181 else 171)) (ls' := [some (.ref 80), some (.int (nI F)), some (.int (nI T)), some (.int (nI b)), some (.int (nI (k + 1))), some (.long (((rgt I (k + 1)).toInt64) - ((L 114 (dyN I (k + 1))) - (L 114 F)))), none, some (.long (jL (loZ I F (k + 1)))), none, some (.long (jL (hiZ I F (k + 1)))), none]) (st' := [.ref 80]) (h' := (n, sl, wKK kk, (fiI I (nI (cnw I F T b k))), (fiL L (jL (loZ I F (k + 1))) (jL (mnw I F T b k))), wQQ q)) 4 rfl ?_
                    refine tv_f (fun hq => absurd ((nI_eq (a := (cnw I F T b k)) (b := 0) (by omega) (by omega)).mp hq) (h0)) ?_
                    refine tv_b (pc' := (if 0 ≤ (lg_cmp (jL (hiZ I F (k + 1))) (jL (mnw I F T b k))) then 186 else 181)) (ls' := [some (.ref 80), some (.int (nI F)), some (.int (nI T)), some (.int (nI b)), some (.int (nI (k + 1))), some (.long (((rgt I (k + 1)).toInt64) - ((L 114 (dyN I (k + 1))) - (L 114 F)))), none, some (.long (jL (loZ I F (k + 1)))), none, some (.long (jL (hiZ I F (k + 1)))), none]) (st' := [.ref 80]) (h' := (n, sl, wKK kk, (fiI I (nI (cnw I F T b k))), (fiL L (jL (loZ I F (k + 1))) (jL (mnw I F T b k))), wQQ q)) 5 rfl ?_
                    refine tv_f (fun y => absurd h2 (Int32.not_lt.mpr y |> fun w => fun v => w ((lt_i bh x2).mpr v))) ?_
                    refine tv_b (pc' := 193) (ls' := [some (.ref 80), some (.int (nI F)), some (.int (nI T)), some (.int (nI b)), some (.int (nI (k + 1))), some (.long (((rgt I (k + 1)).toInt64) - ((L 114 (dyN I (k + 1))) - (L 114 F)))), none, some (.long (jL (loZ I F (k + 1)))), none, some (.long (jL (hiZ I F (k + 1)))), none]) (st' := []) (h' := (n, sl, wKK kk, (fiI I (nI (cnw I F T b k))), va_up (fiL L (jL (loZ I F (k + 1))) (jL (mnw I F T b k))) 80 (vp_updL ((fiL L (jL (loZ I F (k + 1))) (jL (mnw I F T b k))) 80) 64 (jL (hiZ I F (k + 1)))), wQQ q)) 3 rfl ?_
                    refine tv_hL fiL_w_up ?_
                    refine tv_b (pc' := 199) (ls' := [some (.ref 80), some (.int (nI F)), some (.int (nI T)), some (.int (nI b)), some (.int (nI (k + 1))), some (.long (((rgt I (k + 1)).toInt64) - ((L 114 (dyN I (k + 1))) - (L 114 F)))), none, some (.long (jL (loZ I F (k + 1)))), none, some (.long (jL (hiZ I F (k + 1)))), none]) (st' := [.int 1, .int (nI (cnw I F T b k)), .ref 80]) (h' := (n, sl, wKK kk, (fiI I (nI (cnw I F T b k))), (fiL L (jL (loZ I F (k + 1))) (jL (hiZ I F (k + 1)))), wQQ q)) 4 rfl ?_
                    refine tv_b (pc' := 200) (ls' := [some (.ref 80), some (.int (nI F)), some (.int (nI T)), some (.int (nI b)), some (.int (nI (k + 1))), some (.long (((rgt I (k + 1)).toInt64) - ((L 114 (dyN I (k + 1))) - (L 114 F)))), none, some (.long (jL (loZ I F (k + 1)))), none, some (.long (jL (hiZ I F (k + 1)))), none]) (st' := [.int ((nI (cnw I F T b k)) + 1), .ref 80]) (h' := (n, sl, wKK kk, (fiI I (nI (cnw I F T b k))), (fiL L (jL (loZ I F (k + 1))) (jL (hiZ I F (k + 1)))), wQQ q)) 1 rfl ?_
                    refine tv_top (show (nI (cnw I F T b k)) + 1 = nI ((cnw I F T b k) + 1) from nI_add (cnw I F T b k) 1) ?_
                    refine tv_b (pc' := 203) (ls' := [some (.ref 80), some (.int (nI F)), some (.int (nI T)), some (.int (nI b)), some (.int (nI (k + 1))), some (.long (((rgt I (k + 1)).toInt64) - ((L 114 (dyN I (k + 1))) - (L 114 F)))), none, some (.long (jL (loZ I F (k + 1)))), none, some (.long (jL (hiZ I F (k + 1)))), none]) (st' := []) (h' := (n, sl, wKK kk, va_up (fiI I (nI (cnw I F T b k))) 80 (upd ((fiI I (nI (cnw I F T b k))) 80) 65 (nI ((cnw I F T b k) + 1))), (fiL L (jL (loZ I F (k + 1))) (jL (hiZ I F (k + 1)))), wQQ q)) 1 rfl ?_
                    refine tv_hI fiI_w_ct ?_
                    refine tv_iincN (k := (k + 1)) (ls' := [some (.ref 80), some (.int (nI F)), some (.int (nI T)), some (.int (nI b)), some (.int (nI ((k + 1) + 1))), some (.long (((rgt I (k + 1)).toInt64) - ((L 114 (dyN I (k + 1))) - (L 114 F)))), none, some (.long (jL (loZ I F (k + 1)))), none, some (.long (jL (hiZ I F (k + 1)))), none]) rfl rfl rfl ?_
                    refine tv_b (pc' := 8) (ls' := [some (.ref 80), some (.int (nI F)), some (.int (nI T)), some (.int (nI b)), some (.int (nI ((k + 1) + 1))), some (.long (((rgt I (k + 1)).toInt64) - ((L 114 (dyN I (k + 1))) - (L 114 F)))), none, some (.long (jL (loZ I F (k + 1)))), none, some (.long (jL (hiZ I F (k + 1)))), none]) (st' := []) (h' := (n, sl, wKK kk, (fiI I (nI ((cnw I F T b k) + 1))), (fiL L (jL (loZ I F (k + 1))) (jL (hiZ I F (k + 1)))), wQQ q)) 1 rfl ?_
                    rw [← y3]
                    exact ih (k + 1) (by omega) _ _ _ _ _ _ _ _ (fun _ => ⟨by rw [y1, e1], by rw [y2, e2]⟩)
                  · have e2 : min (mnw I F T b k) (hiZ I F (k + 1)) = mnw I F T b k := by omega
                    refine tv_b (pc' := 71) (ls' := [some (.ref 80), some (.int (nI F)), some (.int (nI T)), some (.int (nI b)), some (.int (nI (k + 1))), o5, o6, o7, o8, o9, o10]) (st' := [.int (nI (k + 1)), .ref 80]) (h' := (n, sl, wKK kk, (fiI I (nI (cnw I F T b k))), (fiL L (jL (mxw I F T b k)) (jL (mnw I F T b k))), wQQ q)) 2 rfl ?_
                    refine tv_cvE [.int (nI (k + 1))] [] rfl rfl (by omega) rfl (Nat.le_of_ble_eq_true rfl) (Nat.le_of_ble_eq_true rfl) (Or.inr (Or.inr rfl)) (erm _ _ _) ?_
                    refine tv_b (pc' := 85) (ls' := [some (.ref 80), some (.int (nI F)), some (.int (nI T)), some (.int (nI b)), some (.int (nI (k + 1))), o5, o6, o7, o8, o9, o10]) (st' := [.int (nI (k + 1)), .ref 108, .ref 114, .long ((rgt I (k + 1)).toInt64)]) (h' := (n, sl, wKK kk, (fiI I (nI (cnw I F T b k))), (fiL L (jL (mxw I F T b k)) (jL (mnw I F T b k))), wQQ q)) 6 rfl ?_
                    refine tv_ialN (k := (k + 1)) rfl (rfl) (⟨by omega, by omega⟩) ?_
                    refine tv_top (w1) ?_
                    refine tv_lalN (k := (dyN I (k + 1))) rfl (rfl) (⟨by omega, by omega⟩) ?_
                    refine tv_b (pc' := 92) (ls' := [some (.ref 80), some (.int (nI F)), some (.int (nI T)), some (.int (nI b)), some (.int (nI (k + 1))), o5, o6, o7, o8, o9, o10]) (st' := [.int (nI F), .ref 114, .long (L 114 (dyN I (k + 1))), .long ((rgt I (k + 1)).toInt64)]) (h' := (n, sl, wKK kk, (fiI I (nI (cnw I F T b k))), (fiL L (jL (mxw I F T b k)) (jL (mnw I F T b k))), wQQ q)) 3 rfl ?_
                    refine tv_lalN (k := F) rfl (rfl) (⟨by omega, by omega⟩) ?_
                    refine tv_b (pc' := 109) (ls' := [some (.ref 80), some (.int (nI F)), some (.int (nI T)), some (.int (nI b)), some (.int (nI (k + 1))), some (.long (((rgt I (k + 1)).toInt64) - ((L 114 (dyN I (k + 1))) - (L 114 F)))), none, o7, o8, o9, o10]) (st' := [.int (nI (k + 1)), .ref 109, .ref 106, .long (((rgt I (k + 1)).toInt64) - ((L 114 (dyN I (k + 1))) - (L 114 F)))]) (h' := (n, sl, wKK kk, (fiI I (nI (cnw I F T b k))), (fiL L (jL (mxw I F T b k)) (jL (mnw I F T b k))), wQQ q)) 9 rfl ?_
                    refine tv_ialN (k := (k + 1)) rfl (rfl) (⟨by omega, by omega⟩) ?_
                    refine tv_top (v4) ?_
                    refine tv_ialN (k := (clN I (k + 1))) rfl (rfl) (⟨by omega, by omega⟩) ?_
                    refine tv_b (pc' := 113) (ls' := [some (.ref 80), some (.int (nI F)), some (.int (nI T)), some (.int (nI b)), some (.int (nI (k + 1))), some (.long (((rgt I (k + 1)).toInt64) - ((L 114 (dyN I (k + 1))) - (L 114 F)))), none, o7, o8, o9, o10]) (st' := [.long ((((rgt I (k + 1)).toInt64) - ((L 114 (dyN I (k + 1))) - (L 114 F))) - ((I 106 (clN I (k + 1))).toInt64))]) (h' := (n, sl, wKK kk, (fiI I (nI (cnw I F T b k))), (fiL L (jL (mxw I F T b k)) (jL (mnw I F T b k))), wQQ q)) 2 rfl ?_
                    rw [hlow]
                    refine tv_b (pc' := 127) (ls' := [some (.ref 80), some (.int (nI F)), some (.int (nI T)), some (.int (nI b)), some (.int (nI (k + 1))), some (.long (((rgt I (k + 1)).toInt64) - ((L 114 (dyN I (k + 1))) - (L 114 F)))), none, some (.long (jL (loZ I F (k + 1)))), none, o9, o10]) (st' := [.int (nI (k + 1)), .ref 109, .ref 106, .long (((rgt I (k + 1)).toInt64) - ((L 114 (dyN I (k + 1))) - (L 114 F)))]) (h' := (n, sl, wKK kk, (fiI I (nI (cnw I F T b k))), (fiL L (jL (mxw I F T b k)) (jL (mnw I F T b k))), wQQ q)) 7 rfl ?_
                    refine tv_ialN (k := (k + 1)) rfl (rfl) (⟨by omega, by omega⟩) ?_
                    refine tv_top (v4) ?_
                    refine tv_ialN (k := (clN I (k + 1))) rfl (rfl) (⟨by omega, by omega⟩) ?_
                    refine tv_b (pc' := 131) (ls' := [some (.ref 80), some (.int (nI F)), some (.int (nI T)), some (.int (nI b)), some (.int (nI (k + 1))), some (.long (((rgt I (k + 1)).toInt64) - ((L 114 (dyN I (k + 1))) - (L 114 F)))), none, some (.long (jL (loZ I F (k + 1)))), none, o9, o10]) (st' := [.long ((((rgt I (k + 1)).toInt64) - ((L 114 (dyN I (k + 1))) - (L 114 F))) + ((I 106 (clN I (k + 1))).toInt64))]) (h' := (n, sl, wKK kk, (fiI I (nI (cnw I F T b k))), (fiL L (jL (mxw I F T b k)) (jL (mnw I F T b k))), wQQ q)) 2 rfl ?_
                    rw [hhigh]
                    refine tv_b (pc' := (if (nI (cnw I F T b k)) = 0 then 151 else 141)) (ls' := [some (.ref 80), some (.int (nI F)), some (.int (nI T)), some (.int (nI b)), some (.int (nI (k + 1))), some (.long (((rgt I (k + 1)).toInt64) - ((L 114 (dyN I (k + 1))) - (L 114 F)))), none, some (.long (jL (loZ I F (k + 1)))), none, some (.long (jL (hiZ I F (k + 1)))), none]) (st' := [.ref 80]) (h' := (n, sl, wKK kk, (fiI I (nI (cnw I F T b k))), (fiL L (jL (mxw I F T b k)) (jL (mnw I F T b k))), wQQ q)) 5 rfl ?_
                    refine tv_f (fun hq => absurd ((nI_eq (a := (cnw I F T b k)) (b := 0) (by omega) (by omega)).mp hq) (h0)) ?_
                    refine tv_b (pc' := (if (lg_cmp (jL (loZ I F (k + 1))) (jL (mxw I F T b k))) ≤ 0 then 156 else 151)) (ls' := [some (.ref 80), some (.int (nI F)), some (.int (nI T)), some (.int (nI b)), some (.int (nI (k + 1))), some (.long (((rgt I (k + 1)).toInt64) - ((L 114 (dyN I (k + 1))) - (L 114 F)))), none, some (.long (jL (loZ I F (k + 1)))), none, some (.long (jL (hiZ I F (k + 1)))), none]) (st' := [.ref 80]) (h' := (n, sl, wKK kk, (fiI I (nI (cnw I F T b k))), (fiL L (jL (mxw I F T b k)) (jL (mnw I F T b k))), wQQ q)) 5 rfl ?_
                    refine tv_f (fun y => ((le_i bl x1).mp y) h1) ?_
                    refine tv_b (pc' := 163) (ls' := [some (.ref 80), some (.int (nI F)), some (.int (nI T)), some (.int (nI b)), some (.int (nI (k + 1))), some (.long (((rgt I (k + 1)).toInt64) - ((L 114 (dyN I (k + 1))) - (L 114 F)))), none, some (.long (jL (loZ I F (k + 1)))), none, some (.long (jL (hiZ I F (k + 1)))), none]) (st' := []) (h' := (n, sl, wKK kk, (fiI I (nI (cnw I F T b k))), va_up (fiL L (jL (mxw I F T b k)) (jL (mnw I F T b k))) 80 (vp_updL ((fiL L (jL (mxw I F T b k)) (jL (mnw I F T b k))) 80) 63 (jL (loZ I F (k + 1)))), wQQ q)) 3 rfl ?_
                    refine tv_hL fiL_w_lo ?_
                    refine tv_b (pc' := (if (nI (cnw I F T b k)) = 0 then 181 else 171)) (ls' := [some (.ref 80), some (.int (nI F)), some (.int (nI T)), some (.int (nI b)), some (.int (nI (k + 1))), some (.long (((rgt I (k + 1)).toInt64) - ((L 114 (dyN I (k + 1))) - (L 114 F)))), none, some (.long (jL (loZ I F (k + 1)))), none, some (.long (jL (hiZ I F (k + 1)))), none]) (st' := [.ref 80]) (h' := (n, sl, wKK kk, (fiI I (nI (cnw I F T b k))), (fiL L (jL (loZ I F (k + 1))) (jL (mnw I F T b k))), wQQ q)) 4 rfl ?_
                    refine tv_f (fun hq => absurd ((nI_eq (a := (cnw I F T b k)) (b := 0) (by omega) (by omega)).mp hq) (h0)) ?_
                    refine tv_b (pc' := (if 0 ≤ (lg_cmp (jL (hiZ I F (k + 1))) (jL (mnw I F T b k))) then 186 else 181)) (ls' := [some (.ref 80), some (.int (nI F)), some (.int (nI T)), some (.int (nI b)), some (.int (nI (k + 1))), some (.long (((rgt I (k + 1)).toInt64) - ((L 114 (dyN I (k + 1))) - (L 114 F)))), none, some (.long (jL (loZ I F (k + 1)))), none, some (.long (jL (hiZ I F (k + 1)))), none]) (st' := [.ref 80]) (h' := (n, sl, wKK kk, (fiI I (nI (cnw I F T b k))), (fiL L (jL (loZ I F (k + 1))) (jL (mnw I F T b k))), wQQ q)) 5 rfl ?_
                    refine tv_t (Int32.not_lt.mp (fun y => h2 ((lt_i bh x2).mp y))) ?_
                    refine tv_b (pc' := 193) (ls' := [some (.ref 80), some (.int (nI F)), some (.int (nI T)), some (.int (nI b)), some (.int (nI (k + 1))), some (.long (((rgt I (k + 1)).toInt64) - ((L 114 (dyN I (k + 1))) - (L 114 F)))), none, some (.long (jL (loZ I F (k + 1)))), none, some (.long (jL (hiZ I F (k + 1)))), none]) (st' := []) (h' := (n, sl, wKK kk, (fiI I (nI (cnw I F T b k))), va_up (fiL L (jL (loZ I F (k + 1))) (jL (mnw I F T b k))) 80 (vp_updL ((fiL L (jL (loZ I F (k + 1))) (jL (mnw I F T b k))) 80) 64 (jL (mnw I F T b k))), wQQ q)) 3 rfl ?_
                    refine tv_hL fiL_w_up ?_
                    refine tv_b (pc' := 199) (ls' := [some (.ref 80), some (.int (nI F)), some (.int (nI T)), some (.int (nI b)), some (.int (nI (k + 1))), some (.long (((rgt I (k + 1)).toInt64) - ((L 114 (dyN I (k + 1))) - (L 114 F)))), none, some (.long (jL (loZ I F (k + 1)))), none, some (.long (jL (hiZ I F (k + 1)))), none]) (st' := [.int 1, .int (nI (cnw I F T b k)), .ref 80]) (h' := (n, sl, wKK kk, (fiI I (nI (cnw I F T b k))), (fiL L (jL (loZ I F (k + 1))) (jL (mnw I F T b k))), wQQ q)) 4 rfl ?_
                    refine tv_b (pc' := 200) (ls' := [some (.ref 80), some (.int (nI F)), some (.int (nI T)), some (.int (nI b)), some (.int (nI (k + 1))), some (.long (((rgt I (k + 1)).toInt64) - ((L 114 (dyN I (k + 1))) - (L 114 F)))), none, some (.long (jL (loZ I F (k + 1)))), none, some (.long (jL (hiZ I F (k + 1)))), none]) (st' := [.int ((nI (cnw I F T b k)) + 1), .ref 80]) (h' := (n, sl, wKK kk, (fiI I (nI (cnw I F T b k))), (fiL L (jL (loZ I F (k + 1))) (jL (mnw I F T b k))), wQQ q)) 1 rfl ?_
                    refine tv_top (show (nI (cnw I F T b k)) + 1 = nI ((cnw I F T b k) + 1) from nI_add (cnw I F T b k) 1) ?_
                    refine tv_b (pc' := 203) (ls' := [some (.ref 80), some (.int (nI F)), some (.int (nI T)), some (.int (nI b)), some (.int (nI (k + 1))), some (.long (((rgt I (k + 1)).toInt64) - ((L 114 (dyN I (k + 1))) - (L 114 F)))), none, some (.long (jL (loZ I F (k + 1)))), none, some (.long (jL (hiZ I F (k + 1)))), none]) (st' := []) (h' := (n, sl, wKK kk, va_up (fiI I (nI (cnw I F T b k))) 80 (upd ((fiI I (nI (cnw I F T b k))) 80) 65 (nI ((cnw I F T b k) + 1))), (fiL L (jL (loZ I F (k + 1))) (jL (mnw I F T b k))), wQQ q)) 1 rfl ?_
                    refine tv_hI fiI_w_ct ?_
                    refine tv_iincN (k := (k + 1)) (ls' := [some (.ref 80), some (.int (nI F)), some (.int (nI T)), some (.int (nI b)), some (.int (nI ((k + 1) + 1))), some (.long (((rgt I (k + 1)).toInt64) - ((L 114 (dyN I (k + 1))) - (L 114 F)))), none, some (.long (jL (loZ I F (k + 1)))), none, some (.long (jL (hiZ I F (k + 1)))), none]) rfl rfl rfl ?_
                    refine tv_b (pc' := 8) (ls' := [some (.ref 80), some (.int (nI F)), some (.int (nI T)), some (.int (nI b)), some (.int (nI ((k + 1) + 1))), some (.long (((rgt I (k + 1)).toInt64) - ((L 114 (dyN I (k + 1))) - (L 114 F)))), none, some (.long (jL (loZ I F (k + 1)))), none, some (.long (jL (hiZ I F (k + 1)))), none]) (st' := []) (h' := (n, sl, wKK kk, (fiI I (nI ((cnw I F T b k) + 1))), (fiL L (jL (loZ I F (k + 1))) (jL (mnw I F T b k))), wQQ q)) 1 rfl ?_
                    rw [← y3]
                    exact ih (k + 1) (by omega) _ _ _ _ _ _ _ _ (fun _ => ⟨by rw [y1, e1], by rw [y2, e2]⟩)
                · have e1 : max (mxw I F T b k) (loZ I F (k + 1)) = mxw I F T b k := by omega
                  by_cases h2 : hiZ I F (k + 1) < mnw I F T b k
                  · have e2 : min (mnw I F T b k) (hiZ I F (k + 1)) = hiZ I F (k + 1) := by omega
                    refine tv_b (pc' := 71) (ls' := [some (.ref 80), some (.int (nI F)), some (.int (nI T)), some (.int (nI b)), some (.int (nI (k + 1))), o5, o6, o7, o8, o9, o10]) (st' := [.int (nI (k + 1)), .ref 80]) (h' := (n, sl, wKK kk, (fiI I (nI (cnw I F T b k))), (fiL L (jL (mxw I F T b k)) (jL (mnw I F T b k))), wQQ q)) 2 rfl ?_
                    refine tv_cvE [.int (nI (k + 1))] [] rfl rfl (by omega) rfl (Nat.le_of_ble_eq_true rfl) (Nat.le_of_ble_eq_true rfl) (Or.inr (Or.inr rfl)) (erm _ _ _) ?_
                    refine tv_b (pc' := 85) (ls' := [some (.ref 80), some (.int (nI F)), some (.int (nI T)), some (.int (nI b)), some (.int (nI (k + 1))), o5, o6, o7, o8, o9, o10]) (st' := [.int (nI (k + 1)), .ref 108, .ref 114, .long ((rgt I (k + 1)).toInt64)]) (h' := (n, sl, wKK kk, (fiI I (nI (cnw I F T b k))), (fiL L (jL (mxw I F T b k)) (jL (mnw I F T b k))), wQQ q)) 6 rfl ?_
                    refine tv_ialN (k := (k + 1)) rfl (rfl) (⟨by omega, by omega⟩) ?_
                    refine tv_top (w1) ?_
                    refine tv_lalN (k := (dyN I (k + 1))) rfl (rfl) (⟨by omega, by omega⟩) ?_
                    refine tv_b (pc' := 92) (ls' := [some (.ref 80), some (.int (nI F)), some (.int (nI T)), some (.int (nI b)), some (.int (nI (k + 1))), o5, o6, o7, o8, o9, o10]) (st' := [.int (nI F), .ref 114, .long (L 114 (dyN I (k + 1))), .long ((rgt I (k + 1)).toInt64)]) (h' := (n, sl, wKK kk, (fiI I (nI (cnw I F T b k))), (fiL L (jL (mxw I F T b k)) (jL (mnw I F T b k))), wQQ q)) 3 rfl ?_
                    refine tv_lalN (k := F) rfl (rfl) (⟨by omega, by omega⟩) ?_
                    refine tv_b (pc' := 109) (ls' := [some (.ref 80), some (.int (nI F)), some (.int (nI T)), some (.int (nI b)), some (.int (nI (k + 1))), some (.long (((rgt I (k + 1)).toInt64) - ((L 114 (dyN I (k + 1))) - (L 114 F)))), none, o7, o8, o9, o10]) (st' := [.int (nI (k + 1)), .ref 109, .ref 106, .long (((rgt I (k + 1)).toInt64) - ((L 114 (dyN I (k + 1))) - (L 114 F)))]) (h' := (n, sl, wKK kk, (fiI I (nI (cnw I F T b k))), (fiL L (jL (mxw I F T b k)) (jL (mnw I F T b k))), wQQ q)) 9 rfl ?_
                    refine tv_ialN (k := (k + 1)) rfl (rfl) (⟨by omega, by omega⟩) ?_
                    refine tv_top (v4) ?_
                    refine tv_ialN (k := (clN I (k + 1))) rfl (rfl) (⟨by omega, by omega⟩) ?_
                    refine tv_b (pc' := 113) (ls' := [some (.ref 80), some (.int (nI F)), some (.int (nI T)), some (.int (nI b)), some (.int (nI (k + 1))), some (.long (((rgt I (k + 1)).toInt64) - ((L 114 (dyN I (k + 1))) - (L 114 F)))), none, o7, o8, o9, o10]) (st' := [.long ((((rgt I (k + 1)).toInt64) - ((L 114 (dyN I (k + 1))) - (L 114 F))) - ((I 106 (clN I (k + 1))).toInt64))]) (h' := (n, sl, wKK kk, (fiI I (nI (cnw I F T b k))), (fiL L (jL (mxw I F T b k)) (jL (mnw I F T b k))), wQQ q)) 2 rfl ?_
                    rw [hlow]
                    refine tv_b (pc' := 127) (ls' := [some (.ref 80), some (.int (nI F)), some (.int (nI T)), some (.int (nI b)), some (.int (nI (k + 1))), some (.long (((rgt I (k + 1)).toInt64) - ((L 114 (dyN I (k + 1))) - (L 114 F)))), none, some (.long (jL (loZ I F (k + 1)))), none, o9, o10]) (st' := [.int (nI (k + 1)), .ref 109, .ref 106, .long (((rgt I (k + 1)).toInt64) - ((L 114 (dyN I (k + 1))) - (L 114 F)))]) (h' := (n, sl, wKK kk, (fiI I (nI (cnw I F T b k))), (fiL L (jL (mxw I F T b k)) (jL (mnw I F T b k))), wQQ q)) 7 rfl ?_
                    refine tv_ialN (k := (k + 1)) rfl (rfl) (⟨by omega, by omega⟩) ?_
                    refine tv_top (v4) ?_
                    refine tv_ialN (k := (clN I (k + 1))) rfl (rfl) (⟨by omega, by omega⟩) ?_
                    refine tv_b (pc' := 131) (ls' := [some (.ref 80), some (.int (nI F)), some (.int (nI T)), some (.int (nI b)), some (.int (nI (k + 1))), some (.long (((rgt I (k + 1)).toInt64) - ((L 114 (dyN I (k + 1))) - (L 114 F)))), none, some (.long (jL (loZ I F (k + 1)))), none, o9, o10]) (st' := [.long ((((rgt I (k + 1)).toInt64) - ((L 114 (dyN I (k + 1))) - (L 114 F))) + ((I 106 (clN I (k + 1))).toInt64))]) (h' := (n, sl, wKK kk, (fiI I (nI (cnw I F T b k))), (fiL L (jL (mxw I F T b k)) (jL (mnw I F T b k))), wQQ q)) 2 rfl ?_
                    rw [hhigh]
                    refine tv_b (pc' := (if (nI (cnw I F T b k)) = 0 then 151 else 141)) (ls' := [some (.ref 80), some (.int (nI F)), some (.int (nI T)), some (.int (nI b)), some (.int (nI (k + 1))), some (.long (((rgt I (k + 1)).toInt64) - ((L 114 (dyN I (k + 1))) - (L 114 F)))), none, some (.long (jL (loZ I F (k + 1)))), none, some (.long (jL (hiZ I F (k + 1)))), none]) (st' := [.ref 80]) (h' := (n, sl, wKK kk, (fiI I (nI (cnw I F T b k))), (fiL L (jL (mxw I F T b k)) (jL (mnw I F T b k))), wQQ q)) 5 rfl ?_
                    refine tv_f (fun hq => absurd ((nI_eq (a := (cnw I F T b k)) (b := 0) (by omega) (by omega)).mp hq) (h0)) ?_
                    refine tv_b (pc' := (if (lg_cmp (jL (loZ I F (k + 1))) (jL (mxw I F T b k))) ≤ 0 then 156 else 151)) (ls' := [some (.ref 80), some (.int (nI F)), some (.int (nI T)), some (.int (nI b)), some (.int (nI (k + 1))), some (.long (((rgt I (k + 1)).toInt64) - ((L 114 (dyN I (k + 1))) - (L 114 F)))), none, some (.long (jL (loZ I F (k + 1)))), none, some (.long (jL (hiZ I F (k + 1)))), none]) (st' := [.ref 80]) (h' := (n, sl, wKK kk, (fiI I (nI (cnw I F T b k))), (fiL L (jL (mxw I F T b k)) (jL (mnw I F T b k))), wQQ q)) 5 rfl ?_
                    refine tv_t ((le_i bl x1).mpr h1) ?_
                    refine tv_b (pc' := 163) (ls' := [some (.ref 80), some (.int (nI F)), some (.int (nI T)), some (.int (nI b)), some (.int (nI (k + 1))), some (.long (((rgt I (k + 1)).toInt64) - ((L 114 (dyN I (k + 1))) - (L 114 F)))), none, some (.long (jL (loZ I F (k + 1)))), none, some (.long (jL (hiZ I F (k + 1)))), none]) (st' := []) (h' := (n, sl, wKK kk, (fiI I (nI (cnw I F T b k))), va_up (fiL L (jL (mxw I F T b k)) (jL (mnw I F T b k))) 80 (vp_updL ((fiL L (jL (mxw I F T b k)) (jL (mnw I F T b k))) 80) 63 (jL (mxw I F T b k))), wQQ q)) 3 rfl ?_
                    refine tv_hL fiL_w_lo ?_
                    refine tv_b (pc' := (if (nI (cnw I F T b k)) = 0 then 181 else 171)) (ls' := [some (.ref 80), some (.int (nI F)), some (.int (nI T)), some (.int (nI b)), some (.int (nI (k + 1))), some (.long (((rgt I (k + 1)).toInt64) - ((L 114 (dyN I (k + 1))) - (L 114 F)))), none, some (.long (jL (loZ I F (k + 1)))), none, some (.long (jL (hiZ I F (k + 1)))), none]) (st' := [.ref 80]) (h' := (n, sl, wKK kk, (fiI I (nI (cnw I F T b k))), (fiL L (jL (mxw I F T b k)) (jL (mnw I F T b k))), wQQ q)) 4 rfl ?_
                    refine tv_f (fun hq => absurd ((nI_eq (a := (cnw I F T b k)) (b := 0) (by omega) (by omega)).mp hq) (h0)) ?_
                    refine tv_b (pc' := (if 0 ≤ (lg_cmp (jL (hiZ I F (k + 1))) (jL (mnw I F T b k))) then 186 else 181)) (ls' := [some (.ref 80), some (.int (nI F)), some (.int (nI T)), some (.int (nI b)), some (.int (nI (k + 1))), some (.long (((rgt I (k + 1)).toInt64) - ((L 114 (dyN I (k + 1))) - (L 114 F)))), none, some (.long (jL (loZ I F (k + 1)))), none, some (.long (jL (hiZ I F (k + 1)))), none]) (st' := [.ref 80]) (h' := (n, sl, wKK kk, (fiI I (nI (cnw I F T b k))), (fiL L (jL (mxw I F T b k)) (jL (mnw I F T b k))), wQQ q)) 5 rfl ?_
                    refine tv_f (fun y => absurd h2 (Int32.not_lt.mpr y |> fun w => fun v => w ((lt_i bh x2).mpr v))) ?_
                    refine tv_b (pc' := 193) (ls' := [some (.ref 80), some (.int (nI F)), some (.int (nI T)), some (.int (nI b)), some (.int (nI (k + 1))), some (.long (((rgt I (k + 1)).toInt64) - ((L 114 (dyN I (k + 1))) - (L 114 F)))), none, some (.long (jL (loZ I F (k + 1)))), none, some (.long (jL (hiZ I F (k + 1)))), none]) (st' := []) (h' := (n, sl, wKK kk, (fiI I (nI (cnw I F T b k))), va_up (fiL L (jL (mxw I F T b k)) (jL (mnw I F T b k))) 80 (vp_updL ((fiL L (jL (mxw I F T b k)) (jL (mnw I F T b k))) 80) 64 (jL (hiZ I F (k + 1)))), wQQ q)) 3 rfl ?_
                    refine tv_hL fiL_w_up ?_
                    refine tv_b (pc' := 199) (ls' := [some (.ref 80), some (.int (nI F)), some (.int (nI T)), some (.int (nI b)), some (.int (nI (k + 1))), some (.long (((rgt I (k + 1)).toInt64) - ((L 114 (dyN I (k + 1))) - (L 114 F)))), none, some (.long (jL (loZ I F (k + 1)))), none, some (.long (jL (hiZ I F (k + 1)))), none]) (st' := [.int 1, .int (nI (cnw I F T b k)), .ref 80]) (h' := (n, sl, wKK kk, (fiI I (nI (cnw I F T b k))), (fiL L (jL (mxw I F T b k)) (jL (hiZ I F (k + 1)))), wQQ q)) 4 rfl ?_
                    refine tv_b (pc' := 200) (ls' := [some (.ref 80), some (.int (nI F)), some (.int (nI T)), some (.int (nI b)), some (.int (nI (k + 1))), some (.long (((rgt I (k + 1)).toInt64) - ((L 114 (dyN I (k + 1))) - (L 114 F)))), none, some (.long (jL (loZ I F (k + 1)))), none, some (.long (jL (hiZ I F (k + 1)))), none]) (st' := [.int ((nI (cnw I F T b k)) + 1), .ref 80]) (h' := (n, sl, wKK kk, (fiI I (nI (cnw I F T b k))), (fiL L (jL (mxw I F T b k)) (jL (hiZ I F (k + 1)))), wQQ q)) 1 rfl ?_
                    refine tv_top (show (nI (cnw I F T b k)) + 1 = nI ((cnw I F T b k) + 1) from nI_add (cnw I F T b k) 1) ?_
                    refine tv_b (pc' := 203) (ls' := [some (.ref 80), some (.int (nI F)), some (.int (nI T)), some (.int (nI b)), some (.int (nI (k + 1))), some (.long (((rgt I (k + 1)).toInt64) - ((L 114 (dyN I (k + 1))) - (L 114 F)))), none, some (.long (jL (loZ I F (k + 1)))), none, some (.long (jL (hiZ I F (k + 1)))), none]) (st' := []) (h' := (n, sl, wKK kk, va_up (fiI I (nI (cnw I F T b k))) 80 (upd ((fiI I (nI (cnw I F T b k))) 80) 65 (nI ((cnw I F T b k) + 1))), (fiL L (jL (mxw I F T b k)) (jL (hiZ I F (k + 1)))), wQQ q)) 1 rfl ?_
                    refine tv_hI fiI_w_ct ?_
                    refine tv_iincN (k := (k + 1)) (ls' := [some (.ref 80), some (.int (nI F)), some (.int (nI T)), some (.int (nI b)), some (.int (nI ((k + 1) + 1))), some (.long (((rgt I (k + 1)).toInt64) - ((L 114 (dyN I (k + 1))) - (L 114 F)))), none, some (.long (jL (loZ I F (k + 1)))), none, some (.long (jL (hiZ I F (k + 1)))), none]) rfl rfl rfl ?_
                    refine tv_b (pc' := 8) (ls' := [some (.ref 80), some (.int (nI F)), some (.int (nI T)), some (.int (nI b)), some (.int (nI ((k + 1) + 1))), some (.long (((rgt I (k + 1)).toInt64) - ((L 114 (dyN I (k + 1))) - (L 114 F)))), none, some (.long (jL (loZ I F (k + 1)))), none, some (.long (jL (hiZ I F (k + 1)))), none]) (st' := []) (h' := (n, sl, wKK kk, (fiI I (nI ((cnw I F T b k) + 1))), (fiL L (jL (mxw I F T b k)) (jL (hiZ I F (k + 1)))), wQQ q)) 1 rfl ?_
                    rw [← y3]
                    exact ih (k + 1) (by omega) _ _ _ _ _ _ _ _ (fun _ => ⟨by rw [y1, e1], by rw [y2, e2]⟩)
                  · have e2 : min (mnw I F T b k) (hiZ I F (k + 1)) = mnw I F T b k := by omega
                    refine tv_b (pc' := 71) (ls' := [some (.ref 80), some (.int (nI F)), some (.int (nI T)), some (.int (nI b)), some (.int (nI (k + 1))), o5, o6, o7, o8, o9, o10]) (st' := [.int (nI (k + 1)), .ref 80]) (h' := (n, sl, wKK kk, (fiI I (nI (cnw I F T b k))), (fiL L (jL (mxw I F T b k)) (jL (mnw I F T b k))), wQQ q)) 2 rfl ?_
                    refine tv_cvE [.int (nI (k + 1))] [] rfl rfl (by omega) rfl (Nat.le_of_ble_eq_true rfl) (Nat.le_of_ble_eq_true rfl) (Or.inr (Or.inr rfl)) (erm _ _ _) ?_
                    refine tv_b (pc' := 85) (ls' := [some (.ref 80), some (.int (nI F)), some (.int (nI T)), some (.int (nI b)), some (.int (nI (k + 1))), o5, o6, o7, o8, o9, o10]) (st' := [.int (nI (k + 1)), .ref 108, .ref 114, .long ((rgt I (k + 1)).toInt64)]) (h' := (n, sl, wKK kk, (fiI I (nI (cnw I F T b k))), (fiL L (jL (mxw I F T b k)) (jL (mnw I F T b k))), wQQ q)) 6 rfl ?_
                    refine tv_ialN (k := (k + 1)) rfl (rfl) (⟨by omega, by omega⟩) ?_
                    refine tv_top (w1) ?_
                    refine tv_lalN (k := (dyN I (k + 1))) rfl (rfl) (⟨by omega, by omega⟩) ?_
                    refine tv_b (pc' := 92) (ls' := [some (.ref 80), some (.int (nI F)), some (.int (nI T)), some (.int (nI b)), some (.int (nI (k + 1))), o5, o6, o7, o8, o9, o10]) (st' := [.int (nI F), .ref 114, .long (L 114 (dyN I (k + 1))), .long ((rgt I (k + 1)).toInt64)]) (h' := (n, sl, wKK kk, (fiI I (nI (cnw I F T b k))), (fiL L (jL (mxw I F T b k)) (jL (mnw I F T b k))), wQQ q)) 3 rfl ?_
                    refine tv_lalN (k := F) rfl (rfl) (⟨by omega, by omega⟩) ?_
                    refine tv_b (pc' := 109) (ls' := [some (.ref 80), some (.int (nI F)), some (.int (nI T)), some (.int (nI b)), some (.int (nI (k + 1))), some (.long (((rgt I (k + 1)).toInt64) - ((L 114 (dyN I (k + 1))) - (L 114 F)))), none, o7, o8, o9, o10]) (st' := [.int (nI (k + 1)), .ref 109, .ref 106, .long (((rgt I (k + 1)).toInt64) - ((L 114 (dyN I (k + 1))) - (L 114 F)))]) (h' := (n, sl, wKK kk, (fiI I (nI (cnw I F T b k))), (fiL L (jL (mxw I F T b k)) (jL (mnw I F T b k))), wQQ q)) 9 rfl ?_
                    refine tv_ialN (k := (k + 1)) rfl (rfl) (⟨by omega, by omega⟩) ?_
                    refine tv_top (v4) ?_
                    refine tv_ialN (k := (clN I (k + 1))) rfl (rfl) (⟨by omega, by omega⟩) ?_
                    refine tv_b (pc' := 113) (ls' := [some (.ref 80), some (.int (nI F)), some (.int (nI T)), some (.int (nI b)), some (.int (nI (k + 1))), some (.long (((rgt I (k + 1)).toInt64) - ((L 114 (dyN I (k + 1))) - (L 114 F)))), none, o7, o8, o9, o10]) (st' := [.long ((((rgt I (k + 1)).toInt64) - ((L 114 (dyN I (k + 1))) - (L 114 F))) - ((I 106 (clN I (k + 1))).toInt64))]) (h' := (n, sl, wKK kk, (fiI I (nI (cnw I F T b k))), (fiL L (jL (mxw I F T b k)) (jL (mnw I F T b k))), wQQ q)) 2 rfl ?_
                    rw [hlow]
                    refine tv_b (pc' := 127) (ls' := [some (.ref 80), some (.int (nI F)), some (.int (nI T)), some (.int (nI b)), some (.int (nI (k + 1))), some (.long (((rgt I (k + 1)).toInt64) - ((L 114 (dyN I (k + 1))) - (L 114 F)))), none, some (.long (jL (loZ I F (k + 1)))), none, o9, o10]) (st' := [.int (nI (k + 1)), .ref 109, .ref 106, .long (((rgt I (k + 1)).toInt64) - ((L 114 (dyN I (k + 1))) - (L 114 F)))]) (h' := (n, sl, wKK kk, (fiI I (nI (cnw I F T b k))), (fiL L (jL (mxw I F T b k)) (jL (mnw I F T b k))), wQQ q)) 7 rfl ?_
                    refine tv_ialN (k := (k + 1)) rfl (rfl) (⟨by omega, by omega⟩) ?_
                    refine tv_top (v4) ?_
                    refine tv_ialN (k := (clN I (k + 1))) rfl (rfl) (⟨by omega, by omega⟩) ?_
                    refine tv_b (pc' := 131) (ls' := [some (.ref 80), some (.int (nI F)), some (.int (nI T)), some (.int (nI b)), some (.int (nI (k + 1))), some (.long (((rgt I (k + 1)).toInt64) - ((L 114 (dyN I (k + 1))) - (L 114 F)))), none, some (.long (jL (loZ I F (k + 1)))), none, o9, o10]) (st' := [.long ((((rgt I (k + 1)).toInt64) - ((L 114 (dyN I (k + 1))) - (L 114 F))) + ((I 106 (clN I (k + 1))).toInt64))]) (h' := (n, sl, wKK kk, (fiI I (nI (cnw I F T b k))), (fiL L (jL (mxw I F T b k)) (jL (mnw I F T b k))), wQQ q)) 2 rfl ?_
                    rw [hhigh]
                    refine tv_b (pc' := (if (nI (cnw I F T b k)) = 0 then 151 else 141)) (ls' := [some (.ref 80), some (.int (nI F)), some (.int (nI T)), some (.int (nI b)), some (.int (nI (k + 1))), some (.long (((rgt I (k + 1)).toInt64) - ((L 114 (dyN I (k + 1))) - (L 114 F)))), none, some (.long (jL (loZ I F (k + 1)))), none, some (.long (jL (hiZ I F (k + 1)))), none]) (st' := [.ref 80]) (h' := (n, sl, wKK kk, (fiI I (nI (cnw I F T b k))), (fiL L (jL (mxw I F T b k)) (jL (mnw I F T b k))), wQQ q)) 5 rfl ?_
                    refine tv_f (fun hq => absurd ((nI_eq (a := (cnw I F T b k)) (b := 0) (by omega) (by omega)).mp hq) (h0)) ?_
                    refine tv_b (pc' := (if (lg_cmp (jL (loZ I F (k + 1))) (jL (mxw I F T b k))) ≤ 0 then 156 else 151)) (ls' := [some (.ref 80), some (.int (nI F)), some (.int (nI T)), some (.int (nI b)), some (.int (nI (k + 1))), some (.long (((rgt I (k + 1)).toInt64) - ((L 114 (dyN I (k + 1))) - (L 114 F)))), none, some (.long (jL (loZ I F (k + 1)))), none, some (.long (jL (hiZ I F (k + 1)))), none]) (st' := [.ref 80]) (h' := (n, sl, wKK kk, (fiI I (nI (cnw I F T b k))), (fiL L (jL (mxw I F T b k)) (jL (mnw I F T b k))), wQQ q)) 5 rfl ?_
                    refine tv_t ((le_i bl x1).mpr h1) ?_
                    refine tv_b (pc' := 163) (ls' := [some (.ref 80), some (.int (nI F)), some (.int (nI T)), some (.int (nI b)), some (.int (nI (k + 1))), some (.long (((rgt I (k + 1)).toInt64) - ((L 114 (dyN I (k + 1))) - (L 114 F)))), none, some (.long (jL (loZ I F (k + 1)))), none, some (.long (jL (hiZ I F (k + 1)))), none]) (st' := []) (h' := (n, sl, wKK kk, (fiI I (nI (cnw I F T b k))), va_up (fiL L (jL (mxw I F T b k)) (jL (mnw I F T b k))) 80 (vp_updL ((fiL L (jL (mxw I F T b k)) (jL (mnw I F T b k))) 80) 63 (jL (mxw I F T b k))), wQQ q)) 3 rfl ?_
                    refine tv_hL fiL_w_lo ?_
                    refine tv_b (pc' := (if (nI (cnw I F T b k)) = 0 then 181 else 171)) (ls' := [some (.ref 80), some (.int (nI F)), some (.int (nI T)), some (.int (nI b)), some (.int (nI (k + 1))), some (.long (((rgt I (k + 1)).toInt64) - ((L 114 (dyN I (k + 1))) - (L 114 F)))), none, some (.long (jL (loZ I F (k + 1)))), none, some (.long (jL (hiZ I F (k + 1)))), none]) (st' := [.ref 80]) (h' := (n, sl, wKK kk, (fiI I (nI (cnw I F T b k))), (fiL L (jL (mxw I F T b k)) (jL (mnw I F T b k))), wQQ q)) 4 rfl ?_
                    refine tv_f (fun hq => absurd ((nI_eq (a := (cnw I F T b k)) (b := 0) (by omega) (by omega)).mp hq) (h0)) ?_
                    refine tv_b (pc' := (if 0 ≤ (lg_cmp (jL (hiZ I F (k + 1))) (jL (mnw I F T b k))) then 186 else 181)) (ls' := [some (.ref 80), some (.int (nI F)), some (.int (nI T)), some (.int (nI b)), some (.int (nI (k + 1))), some (.long (((rgt I (k + 1)).toInt64) - ((L 114 (dyN I (k + 1))) - (L 114 F)))), none, some (.long (jL (loZ I F (k + 1)))), none, some (.long (jL (hiZ I F (k + 1)))), none]) (st' := [.ref 80]) (h' := (n, sl, wKK kk, (fiI I (nI (cnw I F T b k))), (fiL L (jL (mxw I F T b k)) (jL (mnw I F T b k))), wQQ q)) 5 rfl ?_
                    refine tv_t (Int32.not_lt.mp (fun y => h2 ((lt_i bh x2).mp y))) ?_
                    refine tv_b (pc' := 193) (ls' := [some (.ref 80), some (.int (nI F)), some (.int (nI T)), some (.int (nI b)), some (.int (nI (k + 1))), some (.long (((rgt I (k + 1)).toInt64) - ((L 114 (dyN I (k + 1))) - (L 114 F)))), none, some (.long (jL (loZ I F (k + 1)))), none, some (.long (jL (hiZ I F (k + 1)))), none]) (st' := []) (h' := (n, sl, wKK kk, (fiI I (nI (cnw I F T b k))), va_up (fiL L (jL (mxw I F T b k)) (jL (mnw I F T b k))) 80 (vp_updL ((fiL L (jL (mxw I F T b k)) (jL (mnw I F T b k))) 80) 64 (jL (mnw I F T b k))), wQQ q)) 3 rfl ?_
                    refine tv_hL fiL_w_up ?_
                    refine tv_b (pc' := 199) (ls' := [some (.ref 80), some (.int (nI F)), some (.int (nI T)), some (.int (nI b)), some (.int (nI (k + 1))), some (.long (((rgt I (k + 1)).toInt64) - ((L 114 (dyN I (k + 1))) - (L 114 F)))), none, some (.long (jL (loZ I F (k + 1)))), none, some (.long (jL (hiZ I F (k + 1)))), none]) (st' := [.int 1, .int (nI (cnw I F T b k)), .ref 80]) (h' := (n, sl, wKK kk, (fiI I (nI (cnw I F T b k))), (fiL L (jL (mxw I F T b k)) (jL (mnw I F T b k))), wQQ q)) 4 rfl ?_
                    refine tv_b (pc' := 200) (ls' := [some (.ref 80), some (.int (nI F)), some (.int (nI T)), some (.int (nI b)), some (.int (nI (k + 1))), some (.long (((rgt I (k + 1)).toInt64) - ((L 114 (dyN I (k + 1))) - (L 114 F)))), none, some (.long (jL (loZ I F (k + 1)))), none, some (.long (jL (hiZ I F (k + 1)))), none]) (st' := [.int ((nI (cnw I F T b k)) + 1), .ref 80]) (h' := (n, sl, wKK kk, (fiI I (nI (cnw I F T b k))), (fiL L (jL (mxw I F T b k)) (jL (mnw I F T b k))), wQQ q)) 1 rfl ?_
                    refine tv_top (show (nI (cnw I F T b k)) + 1 = nI ((cnw I F T b k) + 1) from nI_add (cnw I F T b k) 1) ?_
                    refine tv_b (pc' := 203) (ls' := [some (.ref 80), some (.int (nI F)), some (.int (nI T)), some (.int (nI b)), some (.int (nI (k + 1))), some (.long (((rgt I (k + 1)).toInt64) - ((L 114 (dyN I (k + 1))) - (L 114 F)))), none, some (.long (jL (loZ I F (k + 1)))), none, some (.long (jL (hiZ I F (k + 1)))), none]) (st' := []) (h' := (n, sl, wKK kk, va_up (fiI I (nI (cnw I F T b k))) 80 (upd ((fiI I (nI (cnw I F T b k))) 80) 65 (nI ((cnw I F T b k) + 1))), (fiL L (jL (mxw I F T b k)) (jL (mnw I F T b k))), wQQ q)) 1 rfl ?_
                    refine tv_hI fiI_w_ct ?_
                    refine tv_iincN (k := (k + 1)) (ls' := [some (.ref 80), some (.int (nI F)), some (.int (nI T)), some (.int (nI b)), some (.int (nI ((k + 1) + 1))), some (.long (((rgt I (k + 1)).toInt64) - ((L 114 (dyN I (k + 1))) - (L 114 F)))), none, some (.long (jL (loZ I F (k + 1)))), none, some (.long (jL (hiZ I F (k + 1)))), none]) rfl rfl rfl ?_
                    refine tv_b (pc' := 8) (ls' := [some (.ref 80), some (.int (nI F)), some (.int (nI T)), some (.int (nI b)), some (.int (nI ((k + 1) + 1))), some (.long (((rgt I (k + 1)).toInt64) - ((L 114 (dyN I (k + 1))) - (L 114 F)))), none, some (.long (jL (loZ I F (k + 1)))), none, some (.long (jL (hiZ I F (k + 1)))), none]) (st' := []) (h' := (n, sl, wKK kk, (fiI I (nI ((cnw I F T b k) + 1))), (fiL L (jL (mxw I F T b k)) (jL (mnw I F T b k))), wQQ q)) 1 rfl ?_
                    rw [← y3]
                    exact ih (k + 1) (by omega) _ _ _ _ _ _ _ _ (fun _ => ⟨by rw [y1, e1], by rw [y2, e2]⟩)
            · refine tv_b (pc' := 203) (ls' := [some (.ref 80), some (.int (nI F)), some (.int (nI T)), some (.int (nI b)), some (.int (nI (k + 1))), o5, o6, o7, o8, o9, o10]) (st' := []) (h' := (n, sl, wKK kk, (fiI I (nI (cnw I F T b k))), (fiL L lo up), wQQ q)) 1 rfl ?_
              refine tv_iincN (k := (k + 1)) (ls' := [some (.ref 80), some (.int (nI F)), some (.int (nI T)), some (.int (nI b)), some (.int (nI ((k + 1) + 1))), o5, o6, o7, o8, o9, o10]) rfl rfl rfl ?_
              refine tv_b (pc' := 8) (ls' := [some (.ref 80), some (.int (nI F)), some (.int (nI T)), some (.int (nI b)), some (.int (nI ((k + 1) + 1))), o5, o6, o7, o8, o9, o10]) (st' := []) (h' := (n, sl, wKK kk, (fiI I (nI (cnw I F T b k))), (fiL L lo up), wQQ q)) 1 rfl ?_
              exact hskip (fun z => absurd (of_decide_eq_true z.1 : kn I (k + 1) = true ∧ I 107 (k + 1) = 3 ∧ F ≤ dyN I (k + 1) ∧ dyN I (k + 1) ≤ T).2.2.2 (by omega)) _ _ _ _ _ _
        · refine tv_iincN (k := (k + 1)) (ls' := [some (.ref 80), some (.int (nI F)), some (.int (nI T)), some (.int (nI b)), some (.int (nI ((k + 1) + 1))), o5, o6, o7, o8, o9, o10]) rfl rfl rfl ?_
          refine tv_b (pc' := 8) (ls' := [some (.ref 80), some (.int (nI F)), some (.int (nI T)), some (.int (nI b)), some (.int (nI ((k + 1) + 1))), o5, o6, o7, o8, o9, o10]) (st' := []) (h' := (n, sl, wKK kk, (fiI I (nI (cnw I F T b k))), (fiL L lo up), wQQ q)) 1 rfl ?_
          exact hskip (fun z => c40 (of_decide_eq_true z.1 : kn I (k + 1) = true ∧ I 107 (k + 1) = 3 ∧ F ≤ dyN I (k + 1) ∧ dyN I (k + 1) ≤ T).2.1) _ _ _ _ _ _
    · rw [if_neg hkr] at ekm
      show am_T _ _ 8 [some (.ref 80), some (.int (nI F)), some (.int (nI T)), some (.int (nI b)), some (.int (nI (k + 1))), o5, o6, o7, o8, o9, o10] _ _ _
      refine tv_b (pc' := 11) (ls' := [some (.ref 80), some (.int (nI F)), some (.int (nI T)), some (.int (nI b)), some (.int (nI (k + 1))), o5, o6, o7, o8, o9, o10]) (st' := [.ref 80, .int (nI (k + 1))]) (h' := (n, sl, wKK kk, (fiI I (nI (cnw I F T b k))), (fiL L lo up), wQQ q)) 2 rfl ?_
      refine tv_cvE [] [.int (nI (k + 1))] rfl rfl (by omega) rfl (Nat.le_of_ble_eq_true rfl) (Nat.le_of_ble_eq_true rfl) (Or.inr (Or.inr rfl)) (en _ _ _) ?_
      refine tv_b (pc' := (if (nI (nNow I)) < (nI (k + 1)) then 209 else 17)) (ls' := [some (.ref 80), some (.int (nI F)), some (.int (nI T)), some (.int (nI b)), some (.int (nI (k + 1))), o5, o6, o7, o8, o9, o10]) (st' := []) (h' := (n, sl, wKK kk, (fiI I (nI (cnw I F T b k))), (fiL L lo up), wQQ q)) 1 rfl ?_
      refine tv_f (fun hq => absurd ((nI_ltI (a := (nNow I)) (b := (k + 1)) (by omega) (by omega)).mp hq) (by omega)) ?_
      refine tv_b (pc' := (if (nI (k + 1)) = (nI b) then 203 else 23)) (ls' := [some (.ref 80), some (.int (nI F)), some (.int (nI T)), some (.int (nI b)), some (.int (nI (k + 1))), o5, o6, o7, o8, o9, o10]) (st' := []) (h' := (n, sl, wKK kk, (fiI I (nI (cnw I F T b k))), (fiL L lo up), wQQ q)) 3 rfl ?_
      refine tv_ifq (nI_eq (a := (k + 1)) (b := b) (by omega) (by omega)) (fun c20 => ?_) (fun c20 => ?_)
      · refine tv_iincN (k := (k + 1)) (ls' := [some (.ref 80), some (.int (nI F)), some (.int (nI T)), some (.int (nI b)), some (.int (nI ((k + 1) + 1))), o5, o6, o7, o8, o9, o10]) rfl rfl rfl ?_
        refine tv_b (pc' := 8) (ls' := [some (.ref 80), some (.int (nI F)), some (.int (nI T)), some (.int (nI b)), some (.int (nI ((k + 1) + 1))), o5, o6, o7, o8, o9, o10]) (st' := []) (h' := (n, sl, wKK kk, (fiI I (nI (cnw I F T b k))), (fiL L lo up), wQQ q)) 1 rfl ?_
        exact hskip (fun z => z.2 c20) _ _ _ _ _ _
      · refine tv_b (pc' := 26) (ls' := [some (.ref 80), some (.int (nI F)), some (.int (nI T)), some (.int (nI b)), some (.int (nI (k + 1))), o5, o6, o7, o8, o9, o10]) (st' := [.int (nI (k + 1)), .ref 80]) (h' := (n, sl, wKK kk, (fiI I (nI (cnw I F T b k))), (fiL L lo up), wQQ q)) 2 rfl ?_
        refine tv_cvE [.int (nI (k + 1))] [] rfl rfl (by omega) rfl (Nat.le_of_ble_eq_true rfl) (Nat.le_of_ble_eq_true rfl) (Or.inr (Or.inr rfl)) (ekm _ _ _) ?_
        refine tv_b (pc' := 203) (ls' := [some (.ref 80), some (.int (nI F)), some (.int (nI T)), some (.int (nI b)), some (.int (nI (k + 1))), o5, o6, o7, o8, o9, o10]) (st' := []) (h' := (n, sl, wKK kk, (fiI I (nI (cnw I F T b k))), (fiL L lo up), wQQ q)) 1 rfl ?_
        refine tv_iincN (k := (k + 1)) (ls' := [some (.ref 80), some (.int (nI F)), some (.int (nI T)), some (.int (nI b)), some (.int (nI ((k + 1) + 1))), o5, o6, o7, o8, o9, o10]) rfl rfl rfl ?_
        refine tv_b (pc' := 8) (ls' := [some (.ref 80), some (.int (nI F)), some (.int (nI T)), some (.int (nI b)), some (.int (nI ((k + 1) + 1))), o5, o6, o7, o8, o9, o10]) (st' := []) (h' := (n, sl, wKK kk, (fiI I (nI (cnw I F T b k))), (fiL L lo up), wQQ q)) 1 rfl ?_
        exact hskip (fun z => hkr (of_decide_eq_true z.1 : kn I (k + 1) = true ∧ I 107 (k + 1) = 3 ∧ F ≤ dyN I (k + 1) ∧ dyN I (k + 1) ≤ T).1) _ _ _ _ _ _
theorem tv_fits {n sl C : Nat} {kk : Nat → Nat × Nat} {q : Nat → Nat → Option Nat} {I : Nat → Nat → Int32} {L : Nat → Nat → Int64} {ah : Nat → Nat} {M : Nat → List (Nat × Nat × List Nat)} {F T b : Nat} {ct : Int32} {lo up : Int64} (g : gInv n kk q I L C ah M) (ht : tInv I) (hu : uInv I) (hF : F ≤ T) (hT4 : T < 400) (hP : mPl I L) (hb31 : b < 1000) : am_T 6 227 0 (am_ent 11 [.ref 80, .int (nI F), .int (nI T), .int (nI b)]) [] (n, sl, wKK kk, (fiI I ct), (fiL L lo up), wQQ q) (fun rv h' => rv = none ∧ ∃ lo' up', h' = (n, sl, wKK kk, (fiI I (nI (cnw I F T b (nNow I)))), (fiL L lo' up'), wQQ q) ∧ ((cnw I F T b (nNow I)) ≠ 0 → lo' = jL (mxw I F T b (nNow I)) ∧ up' = jL (mnw I F T b (nNow I)))) := by
  show am_T _ _ 0 [some (.ref 80), some (.int (nI F)), some (.int (nI T)), some (.int (nI b)), none, none, none, none, none, none, none] _ _ _
  refine tv_b (pc' := 5) (ls' := [some (.ref 80), some (.int (nI F)), some (.int (nI T)), some (.int (nI b)), none, none, none, none, none, none, none]) (st' := []) (h' := (n, sl, wKK kk, va_up (fiI I ct) 80 (upd ((fiI I ct) 80) 65 0), (fiL L lo up), wQQ q)) 3 rfl ?_
  refine tv_hI fiI_w_ct ?_
  refine tv_b (pc' := 8) (ls' := [some (.ref 80), some (.int (nI F)), some (.int (nI T)), some (.int (nI b)), some (.int 1), none, none, none, none, none, none]) (st' := []) (h' := (n, sl, wKK kk, (fiI I 0), (fiL L lo up), wQQ q)) 2 rfl ?_
  exact tv_fitsL g ht hu hF hT4 hP hb31 (nNow I) 0 (Nat.zero_add _) lo up none none none none none none (fun z => absurd rfl z)
