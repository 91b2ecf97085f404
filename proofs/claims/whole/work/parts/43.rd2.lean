/-! THE CLASS'S READER: faults, words, numbers -/
theorem ev_nat {d mi pc : Nat} {ls : am_L} {st st' : List Value} {h h' : am_H} {r : Option Value × am_H} {i : Instr} {len : Nat} {ops : List Nat} {v : Value} (hP : am_P mi pc = some (i, len, ops, v)) (hk : am_kind i = 2) (hc : ∀ run, am_call run ops st h = some (st', h')) (k : am_Ev (d + 1) mi (pc + 3) ls st' h' r) : am_Ev (d + 1) mi pc ls st h r := by
  obtain ⟨f, hf⟩ := k
  refine ⟨f + 1, ?_⟩
  unfold am_run
  simp only [hP, hk, hc]
  exact hf
section TN
variable {d mi pc a m N sl : Nat} {ls : am_L} {st : List Value} {v : Value} {K : Nat → Nat × Nat} {I : Nat → Nat → Int32} {L : Nat → Nat → Int64} {Q : Nat → Nat → Option Nat} {P : Option Value → am_H → Prop} {i : Instr} {len : Nat} {tl : List Nat}
theorem tv_slen (hP : am_P mi pc = some (i, len, 8 :: tl, v)) (hk : am_kind i = 2) (hK : K a = (31, m)) (hcat : am_cat st ≤ 8) (k : am_T (d + 1) mi (pc + 3) ls (.int (nI m) :: st) (N, sl, K, I, L, Q) P) : am_T (d + 1) mi pc ls (.ref a :: st) (N, sl, K, I, L, Q) P := by
  refine tv_l (fun _ => ev_nat hP hk (fun run => ?_)) k
  show (if am_cat st ≤ 8 ∧ (K a).1 = 31 then some (.int (Int32.ofNat (K a).2) :: st, (N, sl, K, I, L, Q)) else none) = _
  rw [hK, if_pos ⟨hcat, rfl⟩]
  rfl
theorem tv_schar {j : Nat} (hP : am_P mi pc = some (i, len, 9 :: tl, v)) (hk : am_kind i = 2) (hK : K a = (31, m)) (hj : j < m ∧ m ≤ 1000) (hcat : am_cat st ≤ 8) (k : am_T (d + 1) mi (pc + 3) ls (.int (I a j) :: st) (N, sl, K, I, L, Q) P) : am_T (d + 1) mi pc ls (.int (nI j) :: .ref a :: st) (N, sl, K, I, L, Q) P := by
  refine tv_l (fun _ => ev_nat hP hk (fun run => ?_)) k
  show (if am_cat st ≤ 8 ∧ (K a).1 = 31 ∧ ¬ (nI j < 0 ∨ (K a).2 ≤ (nI j).toNatClampNeg) then some (.int (I a (nI j).toNatClampNeg) :: st, (N, sl, K, I, L, Q)) else none) = _
  rw [hK, if_pos ⟨hcat, rfl, ev_ix hj.1 (by omega)⟩, nI_clamp (by omega)]
end TN
theorem ev_r_fail0 {d n sl : Nat} {kk : Nat → Nat × Nat} {I : Nat → Nat → Int32} {L : Nat → Nat → Int64} {q : Nat → Nat → Option Nat} {xs xa xt xm xl xc : Int32} {cd : Nat → Int32} {x y : Int32} : am_Ev d 80 0 (am_ent 3 [.ref 57, .int x, .int y]) [] (n, sl, wKK kk, (rdI I xs xa xt xm 0 xl xc cd), L, wQQ q) (none, (n, sl, wKK kk, (rdI I xs xa 39 xm x y xc cd), L, wQQ q)) := by
  refine tv_ev ?_
  show am_T _ _ 0 [some (.ref 57), some (.int x), some (.int y)] _ _ _
  refine tv_b (pc' := 12) (ls' := [some (.ref 57), some (.int x), some (.int y)]) (st' := []) (h' := (n, sl, wKK kk, va_up (rdI I xs xa xt xm 0 xl xc cd) 57 (upd ((rdI I xs xa xt xm 0 xl xc cd) 57) 6 x), L, wQQ q)) 6 rfl ?_
  refine tv_hI rdI_w_xf ?_
  refine tv_b (pc' := 17) (ls' := [some (.ref 57), some (.int x), some (.int y)]) (st' := []) (h' := (n, sl, wKK kk, va_up (rdI I xs xa xt xm x xl xc cd) 57 (upd ((rdI I xs xa xt xm x xl xc cd) 57) 7 y), L, wQQ q)) 3 rfl ?_
  refine tv_hI rdI_w_xl ?_
  refine tv_b (pc' := 23) (ls' := [some (.ref 57), some (.int x), some (.int y)]) (st' := []) (h' := (n, sl, wKK kk, va_up (rdI I xs xa xt xm x y xc cd) 57 (upd ((rdI I xs xa xt xm x y xc cd) 57) 4 39), L, wQQ q)) 3 rfl ?_
  refine tv_hI rdI_w_xt ?_
  exact tv_rv rfl ⟨rfl, rfl⟩
theorem ev_r_failF {d n sl : Nat} {kk : Nat → Nat × Nat} {I : Nat → Nat → Int32} {L : Nat → Nat → Int64} {q : Nat → Nat → Option Nat} {xs xa xt xm xf xl xc : Int32} {cd : Nat → Int32} {x y : Int32} (hf : ¬ xf = 0) : am_Ev d 80 0 (am_ent 3 [.ref 57, .int x, .int y]) [] (n, sl, wKK kk, (rdI I xs xa xt xm xf xl xc cd), L, wQQ q) (none, (n, sl, wKK kk, (rdI I xs xa 39 xm xf xl xc cd), L, wQQ q)) := by
  refine tv_ev ?_
  show am_T _ _ 0 [some (.ref 57), some (.int x), some (.int y)] _ _ _
  refine tv_b (pc' := (if xf = 0 then 7 else 17)) (ls' := [some (.ref 57), some (.int x), some (.int y)]) (st' := []) (h' := (n, sl, wKK kk, (rdI I xs xa xt xm xf xl xc cd), L, wQQ q)) 3 rfl ?_
  refine tv_f (hf) ?_
  refine tv_b (pc' := 23) (ls' := [some (.ref 57), some (.int x), some (.int y)]) (st' := []) (h' := (n, sl, wKK kk, va_up (rdI I xs xa xt xm xf xl xc cd) 57 (upd ((rdI I xs xa xt xm xf xl xc cd) 57) 4 39), L, wQQ q)) 3 rfl ?_
  refine tv_hI rdI_w_xt ?_
  exact tv_rv rfl ⟨rfl, rfl⟩
theorem ev_r_spelling {d w : Nat} {h : am_H} (hw : w < 21) : am_Ev d 90 0 (am_ent 1 [.int (nI w)]) [] h (some (.ref (am_B + 1 + w)), h) := by
  refine tv_ev ?_
  have h : w = 0 ∨ w = 1 ∨ w = 2 ∨ w = 3 ∨ w = 4 ∨ w = 5 ∨ w = 6 ∨ w = 7 ∨ w = 8 ∨ w = 9 ∨ w = 10 ∨ w = 11 ∨ w = 12 ∨ w = 13 ∨ w = 14 ∨ w = 15 ∨ w = 16 ∨ w = 17 ∨ w = 18 ∨ w = 19 ∨ w = 20 := by omega
  rcases h with rfl | rfl | rfl | rfl | rfl | rfl | rfl | rfl | rfl | rfl | rfl | rfl | rfl | rfl | rfl | rfl | rfl | rfl | rfl | rfl | rfl
  · show am_T _ _ 0 [some (.int 0)] _ _ _
    refine tv_b (pc' := 98) (ls' := [some (.int 0)]) (st' := [.ref 1000001]) (h' := h) 3 rfl ?_
    exact tv_ra rfl ⟨rfl, rfl⟩
  · show am_T _ _ 0 [some (.int 1)] _ _ _
    refine tv_b (pc' := 101) (ls' := [some (.int 1)]) (st' := [.ref 1000002]) (h' := h) 3 rfl ?_
    exact tv_ra rfl ⟨rfl, rfl⟩
  · show am_T _ _ 0 [some (.int 2)] _ _ _
    refine tv_b (pc' := 104) (ls' := [some (.int 2)]) (st' := [.ref 1000003]) (h' := h) 3 rfl ?_
    exact tv_ra rfl ⟨rfl, rfl⟩
  · show am_T _ _ 0 [some (.int 3)] _ _ _
    refine tv_b (pc' := 107) (ls' := [some (.int 3)]) (st' := [.ref 1000004]) (h' := h) 3 rfl ?_
    exact tv_ra rfl ⟨rfl, rfl⟩
  · show am_T _ _ 0 [some (.int 4)] _ _ _
    refine tv_b (pc' := 110) (ls' := [some (.int 4)]) (st' := [.ref 1000005]) (h' := h) 3 rfl ?_
    exact tv_ra rfl ⟨rfl, rfl⟩
  · show am_T _ _ 0 [some (.int 5)] _ _ _
    refine tv_b (pc' := 113) (ls' := [some (.int 5)]) (st' := [.ref 1000006]) (h' := h) 3 rfl ?_
    exact tv_ra rfl ⟨rfl, rfl⟩
  · show am_T _ _ 0 [some (.int 6)] _ _ _
    refine tv_b (pc' := 116) (ls' := [some (.int 6)]) (st' := [.ref 1000007]) (h' := h) 3 rfl ?_
    exact tv_ra rfl ⟨rfl, rfl⟩
  · show am_T _ _ 0 [some (.int 7)] _ _ _
    refine tv_b (pc' := 119) (ls' := [some (.int 7)]) (st' := [.ref 1000008]) (h' := h) 3 rfl ?_
    exact tv_ra rfl ⟨rfl, rfl⟩
  · show am_T _ _ 0 [some (.int 8)] _ _ _
    refine tv_b (pc' := 122) (ls' := [some (.int 8)]) (st' := [.ref 1000009]) (h' := h) 3 rfl ?_
    exact tv_ra rfl ⟨rfl, rfl⟩
  · show am_T _ _ 0 [some (.int 9)] _ _ _
    refine tv_b (pc' := 125) (ls' := [some (.int 9)]) (st' := [.ref 1000010]) (h' := h) 3 rfl ?_
    exact tv_ra rfl ⟨rfl, rfl⟩
  · show am_T _ _ 0 [some (.int 10)] _ _ _
    refine tv_b (pc' := 128) (ls' := [some (.int 10)]) (st' := [.ref 1000011]) (h' := h) 3 rfl ?_
    exact tv_ra rfl ⟨rfl, rfl⟩
  · show am_T _ _ 0 [some (.int 11)] _ _ _
    refine tv_b (pc' := 131) (ls' := [some (.int 11)]) (st' := [.ref 1000012]) (h' := h) 3 rfl ?_
    exact tv_ra rfl ⟨rfl, rfl⟩
  · show am_T _ _ 0 [some (.int 12)] _ _ _
    refine tv_b (pc' := 134) (ls' := [some (.int 12)]) (st' := [.ref 1000013]) (h' := h) 3 rfl ?_
    exact tv_ra rfl ⟨rfl, rfl⟩
  · show am_T _ _ 0 [some (.int 13)] _ _ _
    refine tv_b (pc' := 137) (ls' := [some (.int 13)]) (st' := [.ref 1000014]) (h' := h) 3 rfl ?_
    exact tv_ra rfl ⟨rfl, rfl⟩
  · show am_T _ _ 0 [some (.int 14)] _ _ _
    refine tv_b (pc' := 140) (ls' := [some (.int 14)]) (st' := [.ref 1000015]) (h' := h) 3 rfl ?_
    exact tv_ra rfl ⟨rfl, rfl⟩
  · show am_T _ _ 0 [some (.int 15)] _ _ _
    refine tv_b (pc' := 143) (ls' := [some (.int 15)]) (st' := [.ref 1000016]) (h' := h) 3 rfl ?_
    exact tv_ra rfl ⟨rfl, rfl⟩
  · show am_T _ _ 0 [some (.int 16)] _ _ _
    refine tv_b (pc' := 146) (ls' := [some (.int 16)]) (st' := [.ref 1000017]) (h' := h) 3 rfl ?_
    exact tv_ra rfl ⟨rfl, rfl⟩
  · show am_T _ _ 0 [some (.int 17)] _ _ _
    refine tv_b (pc' := 149) (ls' := [some (.int 17)]) (st' := [.ref 1000018]) (h' := h) 3 rfl ?_
    exact tv_ra rfl ⟨rfl, rfl⟩
  · show am_T _ _ 0 [some (.int 18)] _ _ _
    refine tv_b (pc' := 152) (ls' := [some (.int 18)]) (st' := [.ref 1000019]) (h' := h) 3 rfl ?_
    exact tv_ra rfl ⟨rfl, rfl⟩
  · show am_T _ _ 0 [some (.int 19)] _ _ _
    refine tv_b (pc' := 155) (ls' := [some (.int 19)]) (st' := [.ref 1000020]) (h' := h) 3 rfl ?_
    exact tv_ra rfl ⟨rfl, rfl⟩
  · show am_T _ _ 0 [some (.int 20)] _ _ _
    refine tv_b (pc' := 158) (ls' := [some (.int 20)]) (st' := [.ref 1000021]) (h' := h) 3 rfl ?_
    exact tv_ra rfl ⟨rfl, rfl⟩
/-- the words that the class spells -/
def rdW (kk : Nat → Nat × Nat) (I : Nat → Nat → Int32) : Prop := ∀ w, w < 21 → kk (am_B + 1 + w) = (31, am_sln w) ∧ I (am_B + 1 + w) = am_sch w
theorem rd_sln : ∀ w, w < 21 → am_sln w = (pa_words.getD w []).length ∧ am_sln w ≤ 8 := by decide +kernel
theorem rd_sch : ∀ w, w < 21 → ∀ j, j < am_sln w → am_sch w j = nI ((pa_words.getD w []).getD j 0) ∧ (pa_words.getD w []).getD j 0 < 128 := by decide +kernel
theorem pa_by_eq : ∀ c, c < 128 → ∀ x, x < 256 → (nI c = pa_by x ↔ c = x) := by decide +kernel
theorem pa_bs_len (b : Nat → Nat) (s m : Nat) : (pa_bs b s m).length = m := by
  induction m with
  | zero => rfl
  | succ m ih =>
    show (pa_bs b s m ++ [b (s + m)]).length = _
    rw [List.length_append, ih]
    rfl
theorem pa_bs_get (b : Nat → Nat) (s : Nat) : ∀ m j, j < m → (pa_bs b s m).getD j 0 = b (s + j) := by
  intro m
  induction m with
  | zero => intro j h; omega
  | succ m ih =>
    intro j h
    show (pa_bs b s m ++ [b (s + m)]).getD j 0 = _
    by_cases e : j < m
    · rw [← ih j e]
      unfold List.getD
      rw [List.getElem?_append_left (by rw [pa_bs_len]; exact e)]
    · have e2 : j = m := by omega
      subst e2
      unfold List.getD
      rw [List.getElem?_append_right (by rw [pa_bs_len]; omega), pa_bs_len, Nat.sub_self]
      rfl
theorem pa_bs_eq {b : Nat → Nat} {s m : Nat} {l : List Nat} (hl : l.length = m) (h : ∀ j, j < m → l.getD j 0 = b (s + j)) : l = pa_bs b s m := by
  apply List.ext_getElem?
  intro j
  by_cases e : j < m
  · have h1 := h j e
    rw [← pa_bs_get b s m j e] at h1
    unfold List.getD at h1
    rw [List.getElem?_eq_getElem (by omega), List.getElem?_eq_getElem (by rw [pa_bs_len]; omega)] at h1 ⊢
    exact congrArg some h1
  · rw [List.getElem?_eq_none (by omega), List.getElem?_eq_none (by rw [pa_bs_len]; omega)]
theorem ev_r_isSpelled {d n sl : Nat} {kk : Nat → Nat × Nat} {I : Nat → Nat → Int32} {L : Nat → Nat → Int64} {q : Nat → Nat → Option Nat} {tx : Nat → Nat} {T : Nat} {w S A : Nat} (hH : rdH tx T I) (hW : rdW kk I) (hw : w < 21) (hS : I 57 2 = nI S) (hA : I 57 3 = nI A) (hSA : S ≤ A) (hAT : A ≤ T) : am_Ev (d + 1) 86 0 (am_ent 3 [.ref 57, .ref (am_B + 1 + w)]) [] (n, sl, wKK kk, I, L, wQQ q) (some (.int (if pa_words.getD w [] = pa_bs tx S (A - S) then 1 else 0)), (n, sl, wKK kk, I, L, wQQ q)) := by
  have hT := hH.2.1
  have hK : wKK kk (am_B + 1 + w) = (31, am_sln w) := by rw [wKK_hi (by unfold am_B; omega)]; exact (hW w hw).1
  have hl := rd_sln w hw
  refine tv_ev ?_
  show am_T _ _ 0 [some (.ref 57), some (.ref (am_B + 1 + w)), none] _ _ _
  refine tv_b (pc' := 1) (ls' := [some (.ref 57), some (.ref (am_B + 1 + w)), none]) (st' := [.ref (am_B + 1 + w)]) (h' := (n, sl, wKK kk, I, L, wQQ q)) 1 rfl ?_
  refine tv_slen rfl rfl hK (Nat.le_of_ble_eq_true rfl) ?_
  have loop : ∀ mm j : Nat, j + mm = am_sln w → am_sln w = A - S → (∀ i, i < j → (pa_words.getD w []).getD i 0 = tx (S + i)) → am_T (d + 1) 86 31 [some (.ref 57), some (.ref (am_B + 1 + w)), some (.int (nI j))] [] (n, sl, wKK kk, I, L, wQQ q) (fun rv h' => rv = some (.int (if pa_words.getD w [] = pa_bs tx S (A - S) then 1 else 0)) ∧ h' = (n, sl, wKK kk, I, L, wQQ q)) := by
    intro mm
    induction mm with
    | zero =>
      intro j hj hE hall
      refine tv_b (pc' := 33) (ls' := [some (.ref 57), some (.ref (am_B + 1 + w)), some (.int (nI j))]) (st' := [.ref (am_B + 1 + w), .int (nI j)]) (h' := (n, sl, wKK kk, I, L, wQQ q)) 2 rfl ?_
      refine tv_slen rfl rfl hK (Nat.le_of_ble_eq_true rfl) ?_
      refine tv_b (pc' := (if (nI (am_sln w)) ≤ (nI j) then 66 else 39)) (ls' := [some (.ref 57), some (.ref (am_B + 1 + w)), some (.int (nI j))]) (st' := []) (h' := (n, sl, wKK kk, I, L, wQQ q)) 1 rfl ?_
      refine tv_t ((nI_leI (a := (am_sln w)) (b := j) (by omega) (by omega)).mpr (by omega)) ?_
      refine tv_b (pc' := 67) (ls' := [some (.ref 57), some (.ref (am_B + 1 + w)), some (.int (nI j))]) (st' := [.int 1]) (h' := (n, sl, wKK kk, I, L, wQQ q)) 1 rfl ?_
      exact tv_rz rfl (Or.inr rfl) ⟨by rw [if_pos (pa_bs_eq (by omega) (fun i hi => hall i (by omega)))], rfl⟩
    | succ mm ih =>
      intro j hj hE hall
      have hc := rd_sch w hw j (by omega)
      have hx := (hH.2.2 (S + j) (by omega))
      refine tv_b (pc' := 33) (ls' := [some (.ref 57), some (.ref (am_B + 1 + w)), some (.int (nI j))]) (st' := [.ref (am_B + 1 + w), .int (nI j)]) (h' := (n, sl, wKK kk, I, L, wQQ q)) 2 rfl ?_
      refine tv_slen rfl rfl hK (Nat.le_of_ble_eq_true rfl) ?_
      refine tv_b (pc' := (if (nI (am_sln w)) ≤ (nI j) then 66 else 39)) (ls' := [some (.ref 57), some (.ref (am_B + 1 + w)), some (.int (nI j))]) (st' := []) (h' := (n, sl, wKK kk, I, L, wQQ q)) 1 rfl ?_
      refine tv_f (fun hq => absurd ((nI_leI (a := (am_sln w)) (b := j) (by omega) (by omega)).mp hq) (by omega)) ?_
      refine tv_b (pc' := 41) (ls' := [some (.ref 57), some (.ref (am_B + 1 + w)), some (.int (nI j))]) (st' := [.int (nI j), .ref (am_B + 1 + w)]) (h' := (n, sl, wKK kk, I, L, wQQ q)) 2 rfl ?_
      refine tv_schar rfl rfl hK ⟨by omega, by omega⟩ (Nat.le_of_ble_eq_true rfl) ?_
      refine tv_top (show I (am_B + 1 + w) j = nI ((pa_words.getD w []).getD j 0) from by rw [(hW w hw).2]; exact hc.1) ?_
      refine tv_b (pc' := 52) (ls' := [some (.ref 57), some (.ref (am_B + 1 + w)), some (.int (nI j))]) (st' := [.int (I 57 2), .ref 58, .int (nI ((pa_words.getD w []).getD j 0))]) (h' := (n, sl, wKK kk, I, L, wQQ q)) 4 rfl ?_
      refine tv_top (hS) ?_
      refine tv_b (pc' := 53) (ls' := [some (.ref 57), some (.ref (am_B + 1 + w)), some (.int (nI j))]) (st' := [.int (nI j), .int (nI S), .ref 58, .int (nI ((pa_words.getD w []).getD j 0))]) (h' := (n, sl, wKK kk, I, L, wQQ q)) 1 rfl ?_
      refine tv_b (pc' := 54) (ls' := [some (.ref 57), some (.ref (am_B + 1 + w)), some (.int (nI j))]) (st' := [.int ((nI S) + (nI j)), .ref 58, .int (nI ((pa_words.getD w []).getD j 0))]) (h' := (n, sl, wKK kk, I, L, wQQ q)) 1 rfl ?_
      refine tv_top (show (nI S) + (nI j) = nI (S + j) from nI_add S j) ?_
      refine tv_balN (k := (S + j)) rfl (rfl) (⟨by first | exact Or.inl rfl | exact Or.inr rfl, by omega, by omega⟩) ?_
      refine tv_top ((hH.2.2 (S + j) (by omega)).2) ?_
      refine tv_b (pc' := (if (nI ((pa_words.getD w []).getD j 0)) = (pa_by (tx (S + j))) then 60 else 58)) (ls' := [some (.ref 57), some (.ref (am_B + 1 + w)), some (.int (nI j))]) (st' := []) (h' := (n, sl, wKK kk, I, L, wQQ q)) 1 rfl ?_
      refine tv_if (fun c55 => ?_) (fun c55 => ?_)
      · refine tv_iincN (k := j) (ls' := [some (.ref 57), some (.ref (am_B + 1 + w)), some (.int (nI (j + 1)))]) rfl rfl rfl ?_
        refine tv_b (pc' := 31) (ls' := [some (.ref 57), some (.ref (am_B + 1 + w)), some (.int (nI (j + 1)))]) (st' := []) (h' := (n, sl, wKK kk, I, L, wQQ q)) 1 rfl ?_
        refine ih (j + 1) (by omega) hE (fun i hi => ?_)
        by_cases e : i < j
        · exact hall i e
        · rw [show i = j by omega]; exact (pa_by_eq _ hc.2 _ hx.1).mp c55
      · refine tv_b (pc' := 59) (ls' := [some (.ref 57), some (.ref (am_B + 1 + w)), some (.int (nI j))]) (st' := [.int 0]) (h' := (n, sl, wKK kk, I, L, wQQ q)) 1 rfl ?_
        refine tv_rz rfl (Or.inl rfl) ⟨?_, rfl⟩
        rw [if_neg]
        intro q
        apply c55
        rw [pa_by_eq _ hc.2 _ hx.1, q, pa_bs_get _ _ _ _ (by omega)]
  refine tv_b (pc' := 8) (ls' := [some (.ref 57), some (.ref (am_B + 1 + w)), none]) (st' := [.int (I 57 3), .int (nI (am_sln w))]) (h' := (n, sl, wKK kk, I, L, wQQ q)) 2 rfl ?_
  refine tv_top (hA) ?_
  refine tv_b (pc' := 12) (ls' := [some (.ref 57), some (.ref (am_B + 1 + w)), none]) (st' := [.int (I 57 2), .int (nI A), .int (nI (am_sln w))]) (h' := (n, sl, wKK kk, I, L, wQQ q)) 2 rfl ?_
  refine tv_top (hS) ?_
  refine tv_b (pc' := 13) (ls' := [some (.ref 57), some (.ref (am_B + 1 + w)), none]) (st' := [.int ((nI A) - (nI S)), .int (nI (am_sln w))]) (h' := (n, sl, wKK kk, I, L, wQQ q)) 1 rfl ?_
  refine tv_top (show (nI A) - (nI S) = nI (A - S) from nI_sub (a := A) (b := S) (by omega)) ?_
  refine tv_b (pc' := (if (nI (am_sln w)) = (nI (A - S)) then 16 else 27)) (ls' := [some (.ref 57), some (.ref (am_B + 1 + w)), none]) (st' := []) (h' := (n, sl, wKK kk, I, L, wQQ q)) 1 rfl ?_
  refine tv_ifq (nI_eq (a := (am_sln w)) (b := A - S) (by omega) (by omega)) (fun c13 => ?_) (fun c13 => ?_)
  · refine tv_b (pc' := 20) (ls' := [some (.ref 57), some (.ref (am_B + 1 + w)), none]) (st' := [.int (I 57 3)]) (h' := (n, sl, wKK kk, I, L, wQQ q)) 2 rfl ?_
    refine tv_top (hA) ?_
    refine tv_b (pc' := 24) (ls' := [some (.ref 57), some (.ref (am_B + 1 + w)), none]) (st' := [.int (I 57 1), .int (nI A)]) (h' := (n, sl, wKK kk, I, L, wQQ q)) 2 rfl ?_
    refine tv_top (hH.1) ?_
    refine tv_b (pc' := (if (nI A) ≤ (nI T) then 29 else 27)) (ls' := [some (.ref 57), some (.ref (am_B + 1 + w)), none]) (st' := []) (h' := (n, sl, wKK kk, I, L, wQQ q)) 1 rfl ?_
    refine tv_t ((nI_leI (a := A) (b := T) (by omega) (by omega)).mpr (by omega)) ?_
    refine tv_b (pc' := 31) (ls' := [some (.ref 57), some (.ref (am_B + 1 + w)), some (.int 0)]) (st' := []) (h' := (n, sl, wKK kk, I, L, wQQ q)) 2 rfl ?_
    exact loop (am_sln w) 0 (by omega) (by omega) (fun j hj => absurd hj (Nat.not_lt_zero j))
  · refine tv_b (pc' := 28) (ls' := [some (.ref 57), some (.ref (am_B + 1 + w)), none]) (st' := [.int 0]) (h' := (n, sl, wKK kk, I, L, wQQ q)) 1 rfl ?_
    exact tv_rz rfl (Or.inl rfl) ⟨by rw [if_neg (fun q => c13 (by rw [hl.1, q, pa_bs_len]))], rfl⟩
