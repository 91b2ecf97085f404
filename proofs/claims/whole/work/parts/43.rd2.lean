/-! THE CLASS'S READER: words, numbers, a token more -/
theorem ev_nat {d mi pc : Nat} {ls : am_L} {st st' : List Value} {h h' : am_H} {r : Option Value × am_H} {i : Instr} {len : Nat} {ops : List Nat} {v : Value} (hP : am_P mi pc = some (i, len, ops, v)) (hk : am_kind i = 2) (hc : ∀ run, am_call run ops st h = some (st', h')) (k : am_Ev (d + 1) mi (pc + 3) ls st' h' r) : am_Ev (d + 1) mi pc ls st h r := by
  obtain ⟨f, hf⟩ := k
  refine ⟨f + 1, ?_⟩
  unfold am_run
  simp only [hP, hk, hc]
  exact hf
section TN
variable {d mi pc a m N sl : Nat} {ls : am_L} {st : List Value} {v : Value} {K : Nat → Nat × Nat} {I : Nat → Nat → Int32} {L : Nat → Nat → Int64} {Q : Nat → Nat → Option Nat} {P : Option Value → am_H → Prop} {i : Instr} {len : Nat} {tl : List Nat}
theorem tv_slen (hP : am_P mi pc = some (i, len, 8 :: tl, v)) (hk : am_kind i = 2) (hK : K a = (31, m)) (hcat : am_cat st ≤ 8) (k : am_T (d + 1) mi (pc + 3) ls (.int (nI m) :: st) (N, sl, K, I, L, Q) P) : am_T (d + 1) mi pc ls (.ref a :: st) (N, sl, K, I, L, Q) P := by
  refine tv_l (fun _ => ev_nat hP hk (fun run => ?_)) k
  show (if am_cat st ≤ 8 ∧ (K a).1 = 31 then some (.int (Int32.ofNat (K a).2) :: st, (N, sl, K, I, L, Q)) else none) = _
  rw [hK, if_pos ⟨hcat, rfl⟩]
  rfl
theorem tv_schar {j : Nat} (hP : am_P mi pc = some (i, len, 9 :: tl, v)) (hk : am_kind i = 2) (hK : K a = (31, m)) (hj : j < m ∧ m ≤ 1000) (hcat : am_cat st ≤ 8) (k : am_T (d + 1) mi (pc + 3) ls (.int (I a j) :: st) (N, sl, K, I, L, Q) P) : am_T (d + 1) mi pc ls (.int (nI j) :: .ref a :: st) (N, sl, K, I, L, Q) P := by
  refine tv_l (fun _ => ev_nat hP hk (fun run => ?_)) k
  show (if am_cat st ≤ 8 ∧ (K a).1 = 31 ∧ ¬ (nI j < 0 ∨ (K a).2 ≤ (nI j).toNatClampNeg) then some (.int (I a (nI j).toNatClampNeg) :: st, (N, sl, K, I, L, Q)) else none) = _
  rw [hK, if_pos ⟨hcat, rfl, ev_ix hj.1 (by omega)⟩, nI_clamp (by omega)]
end TN
theorem ev_r_spelling {d w : Nat} {h : am_H} (hw : w < 21) : am_Ev d 90 0 (am_ent 1 [.int (nI w)]) [] h (some (.ref (am_B + 1 + w)), h) := by
  refine tv_ev ?_
  have h : w = 0 ∨ w = 1 ∨ w = 2 ∨ w = 3 ∨ w = 4 ∨ w = 5 ∨ w = 6 ∨ w = 7 ∨ w = 8 ∨ w = 9 ∨ w = 10 ∨ w = 11 ∨ w = 12 ∨ w = 13 ∨ w = 14 ∨ w = 15 ∨ w = 16 ∨ w = 17 ∨ w = 18 ∨ w = 19 ∨ w = 20 := by omega
  rcases h with rfl | rfl | rfl | rfl | rfl | rfl | rfl | rfl | rfl | rfl | rfl | rfl | rfl | rfl | rfl | rfl | rfl | rfl | rfl | rfl | rfl
  · show am_T _ _ 0 [some (.int 0)] _ _ _
    refine tv_b (pc' := 98) (ls' := [some (.int 0)]) (st' := [.ref 1000001]) (h' := h) 3 rfl ?_
    exact tv_ra rfl ⟨rfl, rfl⟩
  · show am_T _ _ 0 [some (.int 1)] _ _ _
    refine tv_b (pc' := 101) (ls' := [some (.int 1)]) (st' := [.ref 1000002]) (h' := h) 3 rfl ?_
    exact tv_ra rfl ⟨rfl, rfl⟩
  · show am_T _ _ 0 [some (.int 2)] _ _ _
    refine tv_b (pc' := 104) (ls' := [some (.int 2)]) (st' := [.ref 1000003]) (h' := h) 3 rfl ?_
    exact tv_ra rfl ⟨rfl, rfl⟩
  · show am_T _ _ 0 [some (.int 3)] _ _ _
    refine tv_b (pc' := 107) (ls' := [some (.int 3)]) (st' := [.ref 1000004]) (h' := h) 3 rfl ?_
    exact tv_ra rfl ⟨rfl, rfl⟩
  · show am_T _ _ 0 [some (.int 4)] _ _ _
    refine tv_b (pc' := 110) (ls' := [some (.int 4)]) (st' := [.ref 1000005]) (h' := h) 3 rfl ?_
    exact tv_ra rfl ⟨rfl, rfl⟩
  · show am_T _ _ 0 [some (.int 5)] _ _ _
    refine tv_b (pc' := 113) (ls' := [some (.int 5)]) (st' := [.ref 1000006]) (h' := h) 3 rfl ?_
    exact tv_ra rfl ⟨rfl, rfl⟩
  · show am_T _ _ 0 [some (.int 6)] _ _ _
    refine tv_b (pc' := 116) (ls' := [some (.int 6)]) (st' := [.ref 1000007]) (h' := h) 3 rfl ?_
    exact tv_ra rfl ⟨rfl, rfl⟩
  · show am_T _ _ 0 [some (.int 7)] _ _ _
    refine tv_b (pc' := 119) (ls' := [some (.int 7)]) (st' := [.ref 1000008]) (h' := h) 3 rfl ?_
    exact tv_ra rfl ⟨rfl, rfl⟩
  · show am_T _ _ 0 [some (.int 8)] _ _ _
    refine tv_b (pc' := 122) (ls' := [some (.int 8)]) (st' := [.ref 1000009]) (h' := h) 3 rfl ?_
    exact tv_ra rfl ⟨rfl, rfl⟩
  · show am_T _ _ 0 [some (.int 9)] _ _ _
    refine tv_b (pc' := 125) (ls' := [some (.int 9)]) (st' := [.ref 1000010]) (h' := h) 3 rfl ?_
    exact tv_ra rfl ⟨rfl, rfl⟩
  · show am_T _ _ 0 [some (.int 10)] _ _ _
    refine tv_b (pc' := 128) (ls' := [some (.int 10)]) (st' := [.ref 1000011]) (h' := h) 3 rfl ?_
    exact tv_ra rfl ⟨rfl, rfl⟩
  · show am_T _ _ 0 [some (.int 11)] _ _ _
    refine tv_b (pc' := 131) (ls' := [some (.int 11)]) (st' := [.ref 1000012]) (h' := h) 3 rfl ?_
    exact tv_ra rfl ⟨rfl, rfl⟩
  · show am_T _ _ 0 [some (.int 12)] _ _ _
    refine tv_b (pc' := 134) (ls' := [some (.int 12)]) (st' := [.ref 1000013]) (h' := h) 3 rfl ?_
    exact tv_ra rfl ⟨rfl, rfl⟩
  · show am_T _ _ 0 [some (.int 13)] _ _ _
    refine tv_b (pc' := 137) (ls' := [some (.int 13)]) (st' := [.ref 1000014]) (h' := h) 3 rfl ?_
    exact tv_ra rfl ⟨rfl, rfl⟩
  · show am_T _ _ 0 [some (.int 14)] _ _ _
    refine tv_b (pc' := 140) (ls' := [some (.int 14)]) (st' := [.ref 1000015]) (h' := h) 3 rfl ?_
    exact tv_ra rfl ⟨rfl, rfl⟩
  · show am_T _ _ 0 [some (.int 15)] _ _ _
    refine tv_b (pc' := 143) (ls' := [some (.int 15)]) (st' := [.ref 1000016]) (h' := h) 3 rfl ?_
    exact tv_ra rfl ⟨rfl, rfl⟩
  · show am_T _ _ 0 [some (.int 16)] _ _ _
    refine tv_b (pc' := 146) (ls' := [some (.int 16)]) (st' := [.ref 1000017]) (h' := h) 3 rfl ?_
    exact tv_ra rfl ⟨rfl, rfl⟩
  · show am_T _ _ 0 [some (.int 17)] _ _ _
    refine tv_b (pc' := 149) (ls' := [some (.int 17)]) (st' := [.ref 1000018]) (h' := h) 3 rfl ?_
    exact tv_ra rfl ⟨rfl, rfl⟩
  · show am_T _ _ 0 [some (.int 18)] _ _ _
    refine tv_b (pc' := 152) (ls' := [some (.int 18)]) (st' := [.ref 1000019]) (h' := h) 3 rfl ?_
    exact tv_ra rfl ⟨rfl, rfl⟩
  · show am_T _ _ 0 [some (.int 19)] _ _ _
    refine tv_b (pc' := 155) (ls' := [some (.int 19)]) (st' := [.ref 1000020]) (h' := h) 3 rfl ?_
    exact tv_ra rfl ⟨rfl, rfl⟩
  · show am_T _ _ 0 [some (.int 20)] _ _ _
    refine tv_b (pc' := 158) (ls' := [some (.int 20)]) (st' := [.ref 1000021]) (h' := h) 3 rfl ?_
    exact tv_ra rfl ⟨rfl, rfl⟩
/-- the words that the class spells -/
def rdW (kk : Nat → Nat × Nat) (I : Nat → Nat → Int32) : Prop := ∀ w, w < 21 → kk (am_B + 1 + w) = (31, am_sln w) ∧ I (am_B + 1 + w) = am_sch w
theorem rdW_s {kk : Nat → Nat × Nat} {I : Nat → Nat → Int32} {xk : Int32} {r1 r2 r3 r4 : Nat → Int32} (h : rdW kk I) : rdW kk (spI I xk r1 r2 r3 r4) := fun w hw => ⟨(h w hw).1, by rw [spI_hi (by unfold am_B; omega) (by unfold am_B; omega)]; exact (h w hw).2⟩
theorem rd_sln : ∀ w, w < 21 → am_sln w = (pa_words.getD w []).length ∧ am_sln w ≤ 8 := by decide +kernel
theorem rd_sch : ∀ w, w < 21 → ∀ j, j < am_sln w → am_sch w j = nI ((pa_words.getD w []).getD j 0) ∧ (pa_words.getD w []).getD j 0 < 128 := by decide +kernel
theorem pa_by_eq : ∀ c, c < 128 → ∀ x, x < 256 → (nI c = pa_by x ↔ c = x) := by decide +kernel
theorem pa_by_nI {x : Nat} (h : x < 128) : pa_by x = nI x := if_pos h
theorem pa_bs_len (b : Nat → Nat) (s m : Nat) : (pa_bs b s m).length = m := by
  induction m with
  | zero => rfl
  | succ m ih =>
    show (pa_bs b s m ++ [b (s + m)]).length = _
    rw [List.length_append, ih]
    rfl
theorem pa_bs_get (b : Nat → Nat) (s : Nat) : ∀ m j, j < m → (pa_bs b s m).getD j 0 = b (s + j) := by
  intro m
  induction m with
  | zero => intro j h; omega
  | succ m ih =>
    intro j h
    show (pa_bs b s m ++ [b (s + m)]).getD j 0 = _
    by_cases e : j < m
    · rw [← ih j e]
      unfold List.getD
      rw [List.getElem?_append_left (by rw [pa_bs_len]; exact e)]
    · have e2 : j = m := by omega
      subst e2
      unfold List.getD
      rw [List.getElem?_append_right (by rw [pa_bs_len]; omega), pa_bs_len, Nat.sub_self]
      rfl
theorem pa_bs_eq {b : Nat → Nat} {s m : Nat} {l : List Nat} (hl : l.length = m) (h : ∀ j, j < m → l.getD j 0 = b (s + j)) : l = pa_bs b s m := by
  apply List.ext_getElem?
  intro j
  by_cases e : j < m
  · have h1 := h j e
    rw [← pa_bs_get b s m j e] at h1
    unfold List.getD at h1
    rw [List.getElem?_eq_getElem (by omega), List.getElem?_eq_getElem (by rw [pa_bs_len]; omega)] at h1 ⊢
    exact congrArg some h1
  · rw [List.getElem?_eq_none (by omega), List.getElem?_eq_none (by rw [pa_bs_len]; omega)]
theorem pa_rn_in {P : Nat → Bool} : ∀ m A j, j < pa_rn P A m → P (A + j) = true := by
  intro m
  induction m with
  | zero => intro A j h; exact absurd h (Nat.not_lt_zero _)
  | succ m ih =>
    intro A j h
    cases hp : P A with
    | false => rw [pa_rn_0 hp] at h; omega
    | true =>
      rw [pa_rn_s hp] at h
      cases j with
      | zero => exact hp
      | succ j => rw [show A + (j + 1) = A + 1 + j by omega]; exact ih (A + 1) j (by omega)
theorem pa_rn_out {P : Nat → Bool} : ∀ m A, pa_rn P A m < m → P (A + pa_rn P A m) = false := by
  intro m
  induction m with
  | zero => intro A h; omega
  | succ m ih =>
    intro A h
    cases hp : P A with
    | false => rw [pa_rn_0 hp]; exact hp
    | true =>
      rw [pa_rn_s hp] at h ⊢
      rw [show A + (pa_rn P (A + 1) m + 1) = A + 1 + pa_rn P (A + 1) m by omega]
      exact ih (A + 1) (by omega)
theorem pa_idx_hit {l : List Nat} : ∀ (ws : List (List Nat)) (w : Nat), w < ws.length → ws.getD w [] = l → (∀ v, v < w → ws.getD v [] ≠ l) → ws.idxOf l = w := by
  intro ws
  induction ws with
  | nil => intro w h; exact absurd h (Nat.not_lt_zero _)
  | cons x ws ih =>
    intro w h h1 h2
    cases w with
    | zero =>
      have h1' : x = l := h1
      rw [h1', List.idxOf_cons_self]
    | succ w =>
      have h0 : x ≠ l := h2 0 (Nat.succ_pos _)
      rw [List.idxOf_cons, show (x == l) = false from beq_false_of_ne h0, cond_false, ih w (Nat.lt_of_succ_lt_succ h) h1 (fun v hv => h2 (v + 1) (by omega))]
theorem pa_idx_miss {l : List Nat} : ∀ (ws : List (List Nat)), (∀ v, v < ws.length → ws.getD v [] ≠ l) → ws.idxOf l = ws.length := by
  intro ws
  induction ws with
  | nil => intro _; rfl
  | cons x ws ih =>
    intro h
    have h0 : x ≠ l := h 0 (Nat.succ_pos _)
    rw [List.idxOf_cons, show (x == l) = false from beq_false_of_ne h0, cond_false, ih (fun v hv => h (v + 1) (Nat.succ_lt_succ hv))]
    rfl
theorem pa_dv_lt {b : Nat → Nat} {s : Nat} : ∀ m, (∀ j, j < m → pa_dg (b (s + j)) = true) → pa_dv b s m < 10 ^ m := by
  intro m
  induction m with
  | zero => intro _; exact Nat.one_pos
  | succ m ih =>
    intro h
    have h1 := ih (fun j hj => h j (by omega))
    have h2 : b (s + m) ≤ 57 := by
      have := h m (by omega)
      unfold pa_dg at this
      rw [Bool.and_eq_true] at this
      exact Nat.le_of_ble_eq_true this.2
    show 10 * pa_dv b s m + (b (s + m) - 48) < _
    rw [Nat.pow_succ]
    omega
theorem ev_max0 {d S : Nat} {h : am_H} (hS : S < 2 ^ 31) : am_Ev d 249 0 (am_ent 2 [.int 0, .int (nI S)]) [] h (some (.int (nI S)), h) := by
  have e := ev_maxI (d := d) (h := h) (a := 0) (b := nI S)
  have e2 : sp_maxI 0 (nI S) = nI S := by
    unfold sp_maxI
    by_cases c : (0 : Int32) < nI S
    · rw [if_pos c]
    · rw [if_neg c]
      have : ¬ 0 < S := fun q => c ((nI_ltI (a := 0) (b := S) (by omega) hS).mpr q)
      rw [show S = 0 by omega]
      rfl
  rw [e2] at e
  exact e
theorem ev_r_isLetter1 {d n sl : Nat} {kk : Nat → Nat × Nat} {I : Nat → Nat → Int32} {L : Nat → Nat → Int64} {q : Nat → Nat → Option Nat} {tx : Nat → Nat} {T : Nat} {i : Nat} (hH : rdH tx T I) (hi : i < T ∧ pa_lt (tx i) = true) : am_Ev d 87 0 (am_ent 2 [.ref 57, .int (nI i)]) [] (n, sl, wKK kk, I, L, wQQ q) (some (.int 1), (n, sl, wKK kk, I, L, wQQ q)) := by
  have hT := hH.2.1
  have e := ev_r_isLetter (d := d) (n := n) (sl := sl) (kk := kk) (L := L) (q := q) hH (i := i) (by omega)
  rw [if_pos hi] at e
  exact e
theorem ev_r_isLetter0 {d n sl : Nat} {kk : Nat → Nat × Nat} {I : Nat → Nat → Int32} {L : Nat → Nat → Int64} {q : Nat → Nat → Option Nat} {tx : Nat → Nat} {T : Nat} {i : Nat} (hH : rdH tx T I) (hi : ¬ (i < T ∧ pa_lt (tx i) = true)) (hi2 : i < 1000000) : am_Ev d 87 0 (am_ent 2 [.ref 57, .int (nI i)]) [] (n, sl, wKK kk, I, L, wQQ q) (some (.int 0), (n, sl, wKK kk, I, L, wQQ q)) := by
  have e := ev_r_isLetter (d := d) (n := n) (sl := sl) (kk := kk) (L := L) (q := q) hH (i := i) hi2
  rw [if_neg hi] at e
  exact e
theorem ev_r_isDigit1 {d n sl : Nat} {kk : Nat → Nat × Nat} {I : Nat → Nat → Int32} {L : Nat → Nat → Int64} {q : Nat → Nat → Option Nat} {tx : Nat → Nat} {T : Nat} {i : Nat} (hH : rdH tx T I) (hi : i < T ∧ pa_dg (tx i) = true) : am_Ev d 88 0 (am_ent 2 [.ref 57, .int (nI i)]) [] (n, sl, wKK kk, I, L, wQQ q) (some (.int 1), (n, sl, wKK kk, I, L, wQQ q)) := by
  have hT := hH.2.1
  have e := ev_r_isDigit (d := d) (n := n) (sl := sl) (kk := kk) (L := L) (q := q) hH (i := i) (by omega)
  rw [if_pos hi] at e
  exact e
theorem ev_r_isDigit0 {d n sl : Nat} {kk : Nat → Nat × Nat} {I : Nat → Nat → Int32} {L : Nat → Nat → Int64} {q : Nat → Nat → Option Nat} {tx : Nat → Nat} {T : Nat} {i : Nat} (hH : rdH tx T I) (hi : ¬ (i < T ∧ pa_dg (tx i) = true)) (hi2 : i < 1000000) : am_Ev d 88 0 (am_ent 2 [.ref 57, .int (nI i)]) [] (n, sl, wKK kk, I, L, wQQ q) (some (.int 0), (n, sl, wKK kk, I, L, wQQ q)) := by
  have e := ev_r_isDigit (d := d) (n := n) (sl := sl) (kk := kk) (L := L) (q := q) hH (i := i) hi2
  rw [if_neg hi] at e
  exact e
/-- the byte ahead -/
theorem ev_r_isLetterP {d n sl : Nat} {kk : Nat → Nat × Nat} {I : Nat → Nat → Int32} {L : Nat → Nat → Int64} {q : Nat → Nat → Option Nat} {tx : Nat → Nat} {T : Nat} {i : Nat} (hH : rdH tx T I) (hi : i ≤ T) : am_Ev d 87 0 (am_ent 2 [.ref 57, .int (nI i - 1)]) [] (n, sl, wKK kk, I, L, wQQ q) (some (.int (if 0 < i ∧ pa_lt (tx (i - 1)) = true then 1 else 0)), (n, sl, wKK kk, I, L, wQQ q)) := by
  have hT := hH.2.1
  rcases Nat.eq_zero_or_pos i with h0 | h0
  · subst h0
    rw [if_neg (by omega)]
    exact ev_r_isLetterM (tx := tx) (T := T)
  · have e := ev_r_isLetter (d := d) (n := n) (sl := sl) (kk := kk) (L := L) (q := q) hH (i := i - 1) (by omega)
    rw [show nI i - 1 = nI (i - 1) from nI_sub (a := i) (b := 1) h0]
    have e2 : (i - 1 < T ∧ pa_lt (tx (i - 1)) = true) ↔ (0 < i ∧ pa_lt (tx (i - 1)) = true) := ⟨fun q => ⟨h0, q.2⟩, fun q => ⟨by omega, q.2⟩⟩
    simp only [e2] at e
    exact e
/-- the byte ahead -/
theorem ev_r_isDigitP {d n sl : Nat} {kk : Nat → Nat × Nat} {I : Nat → Nat → Int32} {L : Nat → Nat → Int64} {q : Nat → Nat → Option Nat} {tx : Nat → Nat} {T : Nat} {i : Nat} (hH : rdH tx T I) (hi : i ≤ T) : am_Ev d 88 0 (am_ent 2 [.ref 57, .int (nI i - 1)]) [] (n, sl, wKK kk, I, L, wQQ q) (some (.int (if 0 < i ∧ pa_dg (tx (i - 1)) = true then 1 else 0)), (n, sl, wKK kk, I, L, wQQ q)) := by
  have hT := hH.2.1
  rcases Nat.eq_zero_or_pos i with h0 | h0
  · subst h0
    rw [if_neg (by omega)]
    exact ev_r_isDigitM (tx := tx) (T := T)
  · have e := ev_r_isDigit (d := d) (n := n) (sl := sl) (kk := kk) (L := L) (q := q) hH (i := i - 1) (by omega)
    rw [show nI i - 1 = nI (i - 1) from nI_sub (a := i) (b := 1) h0]
    have e2 : (i - 1 < T ∧ pa_dg (tx (i - 1)) = true) ↔ (0 < i ∧ pa_dg (tx (i - 1)) = true) := ⟨fun q => ⟨h0, q.2⟩, fun q => ⟨by omega, q.2⟩⟩
    simp only [e2] at e
    exact e
theorem ev_r_isSpelled {d n sl : Nat} {kk : Nat → Nat × Nat} {I : Nat → Nat → Int32} {L : Nat → Nat → Int64} {q : Nat → Nat → Option Nat} {tx : Nat → Nat} {T : Nat} {w S A : Nat} (hH : rdH tx T I) (hW : rdW kk I) (hw : w < 21) (hSA : S ≤ A) (hAT : A ≤ T) : am_Ev (d + 1) 86 0 (am_ent 5 [.ref 57, .ref (am_B + 1 + w), .int (nI S), .int (nI A)]) [] (n, sl, wKK kk, I, L, wQQ q) (some (.int (if pa_words.getD w [] = pa_bs tx S (A - S) then 1 else 0)), (n, sl, wKK kk, I, L, wQQ q)) := by
  have hT := hH.2.1
  have hK : wKK kk (am_B + 1 + w) = (31, am_sln w) := by rw [wKK_hi (by unfold am_B; omega)]; exact (hW w hw).1
  have hl := rd_sln w hw
  refine tv_ev ?_
  have loop : ∀ mm j : Nat, j + mm = am_sln w → am_sln w = A - S → (∀ i, i < j → (pa_words.getD w []).getD i 0 = tx (S + i)) → am_T (d + 1) 86 27 [some (.ref 57), some (.ref (am_B + 1 + w)), some (.int (nI S)), some (.int (nI A)), some (.int (nI j))] [] (n, sl, wKK kk, I, L, wQQ q) (fun rv h' => rv = some (.int (if pa_words.getD w [] = pa_bs tx S (A - S) then 1 else 0)) ∧ h' = (n, sl, wKK kk, I, L, wQQ q)) := by
    intro mm
    induction mm with
    | zero =>
      intro j hj hE hall
      refine tv_b (pc' := 30) (ls' := [some (.ref 57), some (.ref (am_B + 1 + w)), some (.int (nI S)), some (.int (nI A)), some (.int (nI j))]) (st' := [.ref (am_B + 1 + w), .int (nI j)]) (h' := (n, sl, wKK kk, I, L, wQQ q)) 2 rfl ?_
      refine tv_slen rfl rfl hK (Nat.le_of_ble_eq_true rfl) ?_
      refine tv_b (pc' := (if (nI (am_sln w)) ≤ (nI j) then 62 else 36)) (ls' := [some (.ref 57), some (.ref (am_B + 1 + w)), some (.int (nI S)), some (.int (nI A)), some (.int (nI j))]) (st' := []) (h' := (n, sl, wKK kk, I, L, wQQ q)) 1 rfl ?_
      refine tv_t ((nI_leI (a := (am_sln w)) (b := j) (by omega) (by omega)).mpr (by omega)) ?_
      refine tv_b (pc' := 63) (ls' := [some (.ref 57), some (.ref (am_B + 1 + w)), some (.int (nI S)), some (.int (nI A)), some (.int (nI j))]) (st' := [.int 1]) (h' := (n, sl, wKK kk, I, L, wQQ q)) 1 rfl ?_
      exact tv_rz rfl (Or.inr rfl) ⟨by rw [if_pos (pa_bs_eq (by omega) (fun i hi => hall i (by omega)))], rfl⟩
    | succ mm ih =>
      intro j hj hE hall
      have hc := rd_sch w hw j (by omega)
      have hx := (hH.2.2 (S + j) (by omega))
      refine tv_b (pc' := 30) (ls' := [some (.ref 57), some (.ref (am_B + 1 + w)), some (.int (nI S)), some (.int (nI A)), some (.int (nI j))]) (st' := [.ref (am_B + 1 + w), .int (nI j)]) (h' := (n, sl, wKK kk, I, L, wQQ q)) 2 rfl ?_
      refine tv_slen rfl rfl hK (Nat.le_of_ble_eq_true rfl) ?_
      refine tv_b (pc' := (if (nI (am_sln w)) ≤ (nI j) then 62 else 36)) (ls' := [some (.ref 57), some (.ref (am_B + 1 + w)), some (.int (nI S)), some (.int (nI A)), some (.int (nI j))]) (st' := []) (h' := (n, sl, wKK kk, I, L, wQQ q)) 1 rfl ?_
      refine tv_f (fun hq => absurd ((nI_leI (a := (am_sln w)) (b := j) (by omega) (by omega)).mp hq) (by omega)) ?_
      refine tv_b (pc' := 39) (ls' := [some (.ref 57), some (.ref (am_B + 1 + w)), some (.int (nI S)), some (.int (nI A)), some (.int (nI j))]) (st' := [.int (nI j), .ref (am_B + 1 + w)]) (h' := (n, sl, wKK kk, I, L, wQQ q)) 2 rfl ?_
      refine tv_schar rfl rfl hK ⟨by omega, by omega⟩ (Nat.le_of_ble_eq_true rfl) ?_
      refine tv_top (show I (am_B + 1 + w) j = nI ((pa_words.getD w []).getD j 0) from by rw [(hW w hw).2]; exact hc.1) ?_
      refine tv_b (pc' := 49) (ls' := [some (.ref 57), some (.ref (am_B + 1 + w)), some (.int (nI S)), some (.int (nI A)), some (.int (nI j))]) (st' := [.int (nI j), .int (nI S), .ref 58, .int (nI ((pa_words.getD w []).getD j 0))]) (h' := (n, sl, wKK kk, I, L, wQQ q)) 4 rfl ?_
      refine tv_b (pc' := 50) (ls' := [some (.ref 57), some (.ref (am_B + 1 + w)), some (.int (nI S)), some (.int (nI A)), some (.int (nI j))]) (st' := [.int ((nI S) + (nI j)), .ref 58, .int (nI ((pa_words.getD w []).getD j 0))]) (h' := (n, sl, wKK kk, I, L, wQQ q)) 1 rfl ?_
      refine tv_top (show (nI S) + (nI j) = nI (S + j) from nI_add S j) ?_
      refine tv_balN (k := (S + j)) rfl (rfl) (⟨by first | exact Or.inl rfl | exact Or.inr rfl, by omega, by omega⟩) ?_
      refine tv_top ((hH.2.2 (S + j) (by omega)).2) ?_
      refine tv_b (pc' := (if (nI ((pa_words.getD w []).getD j 0)) = (pa_by (tx (S + j))) then 56 else 54)) (ls' := [some (.ref 57), some (.ref (am_B + 1 + w)), some (.int (nI S)), some (.int (nI A)), some (.int (nI j))]) (st' := []) (h' := (n, sl, wKK kk, I, L, wQQ q)) 1 rfl ?_
      refine tv_if (fun c51 => ?_) (fun c51 => ?_)
      · refine tv_iincN (k := j) (ls' := [some (.ref 57), some (.ref (am_B + 1 + w)), some (.int (nI S)), some (.int (nI A)), some (.int (nI (j + 1)))]) rfl rfl rfl ?_
        refine tv_b (pc' := 27) (ls' := [some (.ref 57), some (.ref (am_B + 1 + w)), some (.int (nI S)), some (.int (nI A)), some (.int (nI (j + 1)))]) (st' := []) (h' := (n, sl, wKK kk, I, L, wQQ q)) 1 rfl ?_
        refine ih (j + 1) (by omega) hE (fun i hi => ?_)
        by_cases e : i < j
        · exact hall i e
        · rw [show i = j by omega]; exact (pa_by_eq _ hc.2 _ hx.1).mp c51
      · refine tv_b (pc' := 55) (ls' := [some (.ref 57), some (.ref (am_B + 1 + w)), some (.int (nI S)), some (.int (nI A)), some (.int (nI j))]) (st' := [.int 0]) (h' := (n, sl, wKK kk, I, L, wQQ q)) 1 rfl ?_
        refine tv_rz rfl (Or.inl rfl) ⟨?_, rfl⟩
        rw [if_neg]
        intro q
        apply c51
        rw [pa_by_eq _ hc.2 _ hx.1, q, pa_bs_get _ _ _ _ (by omega)]
  show am_T _ _ 0 [some (.ref 57), some (.ref (am_B + 1 + w)), some (.int (nI S)), some (.int (nI A)), none] _ _ _
  refine tv_b (pc' := 1) (ls' := [some (.ref 57), some (.ref (am_B + 1 + w)), some (.int (nI S)), some (.int (nI A)), none]) (st' := [.ref (am_B + 1 + w)]) (h' := (n, sl, wKK kk, I, L, wQQ q)) 1 rfl ?_
  refine tv_slen rfl rfl hK (Nat.le_of_ble_eq_true rfl) ?_
  refine tv_b (pc' := 6) (ls' := [some (.ref 57), some (.ref (am_B + 1 + w)), some (.int (nI S)), some (.int (nI A)), none]) (st' := [.int (nI S), .int (nI A), .int (nI (am_sln w))]) (h' := (n, sl, wKK kk, I, L, wQQ q)) 2 rfl ?_
  refine tv_b (pc' := 7) (ls' := [some (.ref 57), some (.ref (am_B + 1 + w)), some (.int (nI S)), some (.int (nI A)), none]) (st' := [.int ((nI A) - (nI S)), .int (nI (am_sln w))]) (h' := (n, sl, wKK kk, I, L, wQQ q)) 1 rfl ?_
  refine tv_top (show (nI A) - (nI S) = nI (A - S) from nI_sub (a := A) (b := S) (by omega)) ?_
  refine tv_b (pc' := (if (nI (am_sln w)) = (nI (A - S)) then 10 else 22)) (ls' := [some (.ref 57), some (.ref (am_B + 1 + w)), some (.int (nI S)), some (.int (nI A)), none]) (st' := []) (h' := (n, sl, wKK kk, I, L, wQQ q)) 1 rfl ?_
  refine tv_ifq (nI_eq (a := (am_sln w)) (b := A - S) (by omega) (by omega)) (fun c7 => ?_) (fun c7 => ?_)
  · refine tv_b (pc' := (if (nI S) < 0 then 22 else 14)) (ls' := [some (.ref 57), some (.ref (am_B + 1 + w)), some (.int (nI S)), some (.int (nI A)), none]) (st' := []) (h' := (n, sl, wKK kk, I, L, wQQ q)) 2 rfl ?_
    refine tv_f (fun hq => absurd ((nI_ltI (a := S) (b := 0) (by omega) (by omega)).mp hq) (by omega)) ?_
    refine tv_b (pc' := 19) (ls' := [some (.ref 57), some (.ref (am_B + 1 + w)), some (.int (nI S)), some (.int (nI A)), none]) (st' := [.int (I 57 1), .int (nI A)]) (h' := (n, sl, wKK kk, I, L, wQQ q)) 3 rfl ?_
    refine tv_top (hH.1) ?_
    refine tv_b (pc' := (if (nI A) ≤ (nI T) then 24 else 22)) (ls' := [some (.ref 57), some (.ref (am_B + 1 + w)), some (.int (nI S)), some (.int (nI A)), none]) (st' := []) (h' := (n, sl, wKK kk, I, L, wQQ q)) 1 rfl ?_
    refine tv_t ((nI_leI (a := A) (b := T) (by omega) (by omega)).mpr (by omega)) ?_
    refine tv_b (pc' := 27) (ls' := [some (.ref 57), some (.ref (am_B + 1 + w)), some (.int (nI S)), some (.int (nI A)), some (.int 0)]) (st' := []) (h' := (n, sl, wKK kk, I, L, wQQ q)) 2 rfl ?_
    exact loop (am_sln w) 0 (by omega) (by omega) (fun j hj => absurd hj (Nat.not_lt_zero j))
  · refine tv_b (pc' := 23) (ls' := [some (.ref 57), some (.ref (am_B + 1 + w)), some (.int (nI S)), some (.int (nI A)), none]) (st' := [.int 0]) (h' := (n, sl, wKK kk, I, L, wQQ q)) 1 rfl ?_
    exact tv_rz rfl (Or.inl rfl) ⟨by rw [if_neg (fun q => c7 (by rw [hl.1, q, pa_bs_len]))], rfl⟩
theorem ev_r_wordOf {d n sl : Nat} {kk : Nat → Nat × Nat} {I : Nat → Nat → Int32} {L : Nat → Nat → Int64} {q : Nat → Nat → Option Nat} {tx : Nat → Nat} {T : Nat} {S A : Nat} (hH : rdH tx T I) (hW : rdW kk I) (hSA : S ≤ A) (hAT : A ≤ T) : am_Ev (d + 2) 258 0 (am_ent 4 [.ref 57, .int (nI S), .int (nI A)]) [] (n, sl, wKK kk, I, L, wQQ q) (some (.int (nI (pa_wtk (pa_bs tx S (A - S))))), (n, sl, wKK kk, I, L, wQQ q)) := by
  have hT := hH.2.1
  refine tv_ev ?_
  have loop : ∀ mm w : Nat, w + mm = 21 → (∀ v, v < w → pa_words.getD v [] ≠ pa_bs tx S (A - S)) → am_T (d + 2) 258 2 [some (.ref 57), some (.int (nI S)), some (.int (nI A)), some (.int (nI w))] [] (n, sl, wKK kk, I, L, wQQ q) (fun rv h' => rv = some (.int (nI (pa_wtk (pa_bs tx S (A - S))))) ∧ h' = (n, sl, wKK kk, I, L, wQQ q)) := by
    intro mm
    induction mm with
    | zero =>
      intro w hw hn
      have hw : w = 21 := by omega
      subst hw
      refine tv_b (pc' := (if 20 < (nI 21) then 29 else 8)) (ls' := [some (.ref 57), some (.int (nI S)), some (.int (nI A)), some (.int (nI 21))]) (st' := []) (h' := (n, sl, wKK kk, I, L, wQQ q)) 3 rfl ?_
      refine tv_t ((nI_ltI (a := 20) (b := 21) (by omega) (by omega)).mpr (by omega)) ?_
      refine tv_b (pc' := 31) (ls' := [some (.ref 57), some (.int (nI S)), some (.int (nI A)), some (.int (nI 21))]) (st' := [.int 39]) (h' := (n, sl, wKK kk, I, L, wQQ q)) 1 rfl ?_
      have e : pa_wtk (pa_bs tx S (A - S)) = 39 := by unfold pa_wtk; rw [pa_idx_miss pa_words (fun v hv => hn v (by have : pa_words.length = 21 := rfl; omega))]; rfl
      exact tv_ri rfl ⟨by rw [e]; rfl, rfl⟩
    | succ mm ih =>
      intro w hw hn
      refine tv_b (pc' := (if 20 < (nI w) then 29 else 8)) (ls' := [some (.ref 57), some (.int (nI S)), some (.int (nI A)), some (.int (nI w))]) (st' := []) (h' := (n, sl, wKK kk, I, L, wQQ q)) 3 rfl ?_
      refine tv_f (fun hq => absurd ((nI_ltI (a := 20) (b := w) (by omega) (by omega)).mp hq) (by omega)) ?_
      refine tv_b (pc' := 10) (ls' := [some (.ref 57), some (.int (nI S)), some (.int (nI A)), some (.int (nI w))]) (st' := [.int (nI w), .ref 57]) (h' := (n, sl, wKK kk, I, L, wQQ q)) 2 rfl ?_
      refine tv_csE [.int (nI w)] [.ref 57] rfl rfl (by omega) rfl (Nat.le_of_ble_eq_true rfl) (Nat.le_of_ble_eq_true rfl) (ev_r_spelling (by omega)) ?_
      refine tv_b (pc' := 15) (ls' := [some (.ref 57), some (.int (nI S)), some (.int (nI A)), some (.int (nI w))]) (st' := [.int (nI A), .int (nI S), .ref (am_B + 1 + w), .ref 57]) (h' := (n, sl, wKK kk, I, L, wQQ q)) 2 rfl ?_
      refine tv_cvE [.ref (am_B + 1 + w), .int (nI S), .int (nI A)] [] rfl rfl (by omega) rfl (Nat.le_of_ble_eq_true rfl) (Nat.le_of_ble_eq_true rfl) (Or.inr (Or.inr rfl)) (ev_r_isSpelled hH hW (by omega) hSA hAT) ?_
      refine tv_b (pc' := (if (if pa_words.getD w [] = pa_bs tx S (A - S) then 1 else 0) = 0 then 23 else 21)) (ls' := [some (.ref 57), some (.int (nI S)), some (.int (nI A)), some (.int (nI w))]) (st' := []) (h' := (n, sl, wKK kk, I, L, wQQ q)) 1 rfl ?_
      refine tv_b0 (fun c18 => ?_) (fun c18 => ?_)
      · refine tv_iincN (k := w) (ls' := [some (.ref 57), some (.int (nI S)), some (.int (nI A)), some (.int (nI (w + 1)))]) rfl rfl rfl ?_
        refine tv_b (pc' := 2) (ls' := [some (.ref 57), some (.int (nI S)), some (.int (nI A)), some (.int (nI (w + 1)))]) (st' := []) (h' := (n, sl, wKK kk, I, L, wQQ q)) 1 rfl ?_
        refine ih (w + 1) (by omega) (fun v hv => ?_)
        by_cases e : v < w
        · exact hn v e
        · rw [show v = w by omega]; exact c18
      · refine tv_b (pc' := 22) (ls' := [some (.ref 57), some (.int (nI S)), some (.int (nI A)), some (.int (nI w))]) (st' := [.int (nI w)]) (h' := (n, sl, wKK kk, I, L, wQQ q)) 1 rfl ?_
        have e : pa_wtk (pa_bs tx S (A - S)) = w := by
          have e2 := pa_idx_hit pa_words w (by have : pa_words.length = 21 := rfl; omega) c18 hn
          unfold pa_wtk
          rw [e2, if_pos (by omega)]
        exact tv_ri rfl ⟨by rw [e], rfl⟩
  show am_T _ _ 0 [some (.ref 57), some (.int (nI S)), some (.int (nI A)), none] _ _ _
  refine tv_b (pc' := 2) (ls' := [some (.ref 57), some (.int (nI S)), some (.int (nI A)), some (.int 0)]) (st' := []) (h' := (n, sl, wKK kk, I, L, wQQ q)) 2 rfl ?_
  exact loop 21 0 (by omega) (fun v hv => absurd hv (Nat.not_lt_zero v))
theorem ev_r_numberOf {d n sl : Nat} {kk : Nat → Nat × Nat} {I : Nat → Nat → Int32} {L : Nat → Nat → Int64} {q : Nat → Nat → Option Nat} {tx : Nat → Nat} {T : Nat} {S W : Nat} (hH : rdH tx T I) (hd : ∀ j, j < W → pa_dg (tx (S + j)) = true) (hW7 : W ≤ 7) (hAT : S + W ≤ T) : am_Ev (d + 1) 85 0 (am_ent 5 [.ref 57, .int (nI S), .int (nI (S + W))]) [] (n, sl, wKK kk, I, L, wQQ q) (some (.int (nI (pa_dv tx S W))), (n, sl, wKK kk, I, L, wQQ q)) := by
  have hT := hH.2.1
  have hdv : ∀ k, k ≤ W → pa_dv tx S k < 10000000 := by
    intro k hk
    have h1 := pa_dv_lt (b := tx) (s := S) k (fun j hj => hd j (by omega))
    have h2 : 10 ^ k ≤ 10 ^ 7 := Nat.pow_le_pow_right (by decide) (by omega)
    omega
  refine tv_ev ?_
  have loop : ∀ mm k : Nat, k + mm = W → am_T (d + 1) 85 9 [some (.ref 57), some (.int (nI S)), some (.int (nI (S + W))), some (.int (nI (pa_dv tx S k))), some (.int (nI (S + k)))] [] (n, sl, wKK kk, I, L, wQQ q) (fun rv h' => rv = some (.int (nI (pa_dv tx S W))) ∧ h' = (n, sl, wKK kk, I, L, wQQ q)) := by
    intro mm
    induction mm with
    | zero =>
      intro k hk
      have hk : k = W := by omega
      subst hk
      refine tv_b (pc' := (if (nI (S + k)) ≤ (nI (S + k)) then 46 else 15)) (ls' := [some (.ref 57), some (.int (nI S)), some (.int (nI (S + k))), some (.int (nI (pa_dv tx S k))), some (.int (nI (S + k)))]) (st' := []) (h' := (n, sl, wKK kk, I, L, wQQ q)) 3 rfl ?_
      refine tv_t ((nI_leI (a := (S + k)) (b := (S + k)) (by omega) (by omega)).mpr (by omega)) ?_
      refine tv_b (pc' := 47) (ls' := [some (.ref 57), some (.int (nI S)), some (.int (nI (S + k))), some (.int (nI (pa_dv tx S k))), some (.int (nI (S + k)))]) (st' := [.int (nI (pa_dv tx S k))]) (h' := (n, sl, wKK kk, I, L, wQQ q)) 1 rfl ?_
      exact tv_ri rfl ⟨rfl, rfl⟩
    | succ mm ih =>
      intro k hk
      have hd0 := hdv k (by omega)
      have hdk := hd k (by omega)
      have hdd : 48 ≤ tx (S + k) ∧ tx (S + k) ≤ 57 := by
        unfold pa_dg at hdk
        rw [Bool.and_eq_true] at hdk
        exact ⟨Nat.le_of_ble_eq_true hdk.1, Nat.le_of_ble_eq_true hdk.2⟩
      have hdn : I 58 (S + k) = nI (tx (S + k)) := by rw [(hH.2.2 (S + k) (by omega)).2]; exact pa_by_nI (by omega)
      have hde : 10 * (pa_dv tx S k) + (tx (S + k)) - 48 = pa_dv tx S (k + 1) := by
        show _ = 10 * pa_dv tx S k + (tx (S + k) - 48)
        omega
      refine tv_b (pc' := (if (nI (S + W)) ≤ (nI (S + k)) then 46 else 15)) (ls' := [some (.ref 57), some (.int (nI S)), some (.int (nI (S + W))), some (.int (nI (pa_dv tx S k))), some (.int (nI (S + k)))]) (st' := []) (h' := (n, sl, wKK kk, I, L, wQQ q)) 3 rfl ?_
      refine tv_f (fun hq => absurd ((nI_leI (a := (S + W)) (b := S + k) (by omega) (by omega)).mp hq) (by omega)) ?_
      refine tv_b (pc' := 21) (ls' := [some (.ref 57), some (.int (nI S)), some (.int (nI (S + W))), some (.int (nI (pa_dv tx S k))), some (.int (nI (S + k)))]) (st' := [.int (I 57 1), .int (nI (S + k))]) (h' := (n, sl, wKK kk, I, L, wQQ q)) 3 rfl ?_
      refine tv_top (hH.1) ?_
      refine tv_b (pc' := (if (nI T) ≤ (nI (S + k)) then 46 else 24)) (ls' := [some (.ref 57), some (.int (nI S)), some (.int (nI (S + W))), some (.int (nI (pa_dv tx S k))), some (.int (nI (S + k)))]) (st' := []) (h' := (n, sl, wKK kk, I, L, wQQ q)) 1 rfl ?_
      refine tv_f (fun hq => absurd ((nI_leI (a := T) (b := S + k) (by omega) (by omega)).mp hq) (by omega)) ?_
      refine tv_b (pc' := 27) (ls' := [some (.ref 57), some (.int (nI S)), some (.int (nI (S + W))), some (.int (nI (pa_dv tx S k))), some (.int (nI (S + k)))]) (st' := [.int (nI (pa_dv tx S k)), .int 10]) (h' := (n, sl, wKK kk, I, L, wQQ q)) 2 rfl ?_
      refine tv_b (pc' := 28) (ls' := [some (.ref 57), some (.int (nI S)), some (.int (nI (S + W))), some (.int (nI (pa_dv tx S k))), some (.int (nI (S + k)))]) (st' := [.int (10 * (nI (pa_dv tx S k)))]) (h' := (n, sl, wKK kk, I, L, wQQ q)) 1 rfl ?_
      refine tv_top (show 10 * (nI (pa_dv tx S k)) = nI (10 * (pa_dv tx S k)) from nI_mul 10 (pa_dv tx S k)) ?_
      refine tv_b (pc' := 34) (ls' := [some (.ref 57), some (.int (nI S)), some (.int (nI (S + W))), some (.int (nI (pa_dv tx S k))), some (.int (nI (S + k)))]) (st' := [.int (nI (S + k)), .ref 58, .int (nI (10 * (pa_dv tx S k)))]) (h' := (n, sl, wKK kk, I, L, wQQ q)) 3 rfl ?_
      refine tv_balN (k := (S + k)) rfl (rfl) (⟨by first | exact Or.inl rfl | exact Or.inr rfl, by omega, by omega⟩) ?_
      refine tv_top (hdn) ?_
      refine tv_b (pc' := 36) (ls' := [some (.ref 57), some (.int (nI S)), some (.int (nI (S + W))), some (.int (nI (pa_dv tx S k))), some (.int (nI (S + k)))]) (st' := [.int ((nI (10 * (pa_dv tx S k))) + (nI (tx (S + k))))]) (h' := (n, sl, wKK kk, I, L, wQQ q)) 1 rfl ?_
      refine tv_top (show (nI (10 * (pa_dv tx S k))) + (nI (tx (S + k))) = nI ((10 * (pa_dv tx S k)) + (tx (S + k))) from nI_add (10 * (pa_dv tx S k)) (tx (S + k))) ?_
      refine tv_b (pc' := 38) (ls' := [some (.ref 57), some (.int (nI S)), some (.int (nI (S + W))), some (.int (nI (pa_dv tx S k))), some (.int (nI (S + k)))]) (st' := [.int 48, .int (nI ((10 * (pa_dv tx S k)) + (tx (S + k))))]) (h' := (n, sl, wKK kk, I, L, wQQ q)) 1 rfl ?_
      refine tv_b (pc' := 39) (ls' := [some (.ref 57), some (.int (nI S)), some (.int (nI (S + W))), some (.int (nI (pa_dv tx S k))), some (.int (nI (S + k)))]) (st' := [.int ((nI ((10 * (pa_dv tx S k)) + (tx (S + k)))) - 48)]) (h' := (n, sl, wKK kk, I, L, wQQ q)) 1 rfl ?_
      refine tv_top (show (nI ((10 * (pa_dv tx S k)) + (tx (S + k)))) - 48 = nI (((10 * (pa_dv tx S k)) + (tx (S + k))) - 48) from nI_sub (a := (10 * (pa_dv tx S k)) + (tx (S + k))) (b := 48) (by omega)) ?_
      refine tv_b (pc' := 40) (ls' := [some (.ref 57), some (.int (nI S)), some (.int (nI (S + W))), some (.int (nI (((10 * (pa_dv tx S k)) + (tx (S + k))) - 48))), some (.int (nI (S + k)))]) (st' := []) (h' := (n, sl, wKK kk, I, L, wQQ q)) 1 rfl ?_
      refine tv_iincN (k := (S + k)) (ls' := [some (.ref 57), some (.int (nI S)), some (.int (nI (S + W))), some (.int (nI (((10 * (pa_dv tx S k)) + (tx (S + k))) - 48))), some (.int (nI (S + k + 1)))]) rfl rfl rfl ?_
      refine tv_b (pc' := 9) (ls' := [some (.ref 57), some (.int (nI S)), some (.int (nI (S + W))), some (.int (nI (((10 * (pa_dv tx S k)) + (tx (S + k))) - 48))), some (.int (nI (S + k + 1)))]) (st' := []) (h' := (n, sl, wKK kk, I, L, wQQ q)) 1 rfl ?_
      rw [hde]
      exact ih (k + 1) (by omega)
  show am_T _ _ 0 [some (.ref 57), some (.int (nI S)), some (.int (nI (S + W))), none, none] _ _ _
  refine tv_b (pc' := 4) (ls' := [some (.ref 57), some (.int (nI S)), some (.int (nI (S + W))), some (.int 0), none]) (st' := [.int (nI S), .int 0]) (h' := (n, sl, wKK kk, I, L, wQQ q)) 4 rfl ?_
  refine tv_csE [.int 0, .int (nI S)] [] rfl rfl (by omega) rfl (Nat.le_of_ble_eq_true rfl) (Nat.le_of_ble_eq_true rfl) (ev_max0 (by omega)) ?_
  refine tv_b (pc' := 9) (ls' := [some (.ref 57), some (.int (nI S)), some (.int (nI (S + W))), some (.int 0), some (.int (nI S))]) (st' := []) (h' := (n, sl, wKK kk, I, L, wQQ q)) 1 rfl ?_
  exact loop W 0 (by omega)
theorem ev_r_put {d n sl : Nat} {kk : Nat → Nat × Nat} {I : Nat → Nat → Int32} {L : Nat → Nat → Int64} {q : Nat → Nat → Option Nat} {r1 r2 r3 r4 : Nat → Int32} {t : Nat} {x1 x2 x3 x4 : Int32} (ht : t ≤ 800) : am_Ev d 257 0 (am_ent 5 [.ref 57, .int x1, .int x2, .int x3, .int x4]) [] (n, sl, wKK kk, (spI I (nI t) r1 r2 r3 r4), L, wQQ q) (none, (n, sl, wKK kk, (spI I (nI (t + 1)) (upd r1 t x1) (upd r2 t x2) (upd r3 t x3) (upd r4 t x4)), L, wQQ q)) := by
  refine tv_ev ?_
  show am_T _ _ 0 [some (.ref 57), some (.int x1), some (.int x2), some (.int x3), some (.int x4)] _ _ _
  refine tv_b (pc' := (if 800 < (nI t) then 61 else 10)) (ls' := [some (.ref 57), some (.int x1), some (.int x2), some (.int x3), some (.int x4)]) (st' := []) (h' := (n, sl, wKK kk, (spI I (nI t) r1 r2 r3 r4), L, wQQ q)) 4 rfl ?_
  refine tv_f (fun hq => absurd ((nI_ltI (a := 800) (b := t) (by omega) (by omega)).mp hq) (by omega)) ?_
  refine tv_b (pc' := 19) (ls' := [some (.ref 57), some (.int x1), some (.int x2), some (.int x3), some (.int x4)]) (st' := [.int x1, .int (nI t), .ref 127]) (h' := (n, sl, wKK kk, (spI I (nI t) r1 r2 r3 r4), L, wQQ q)) 5 rfl ?_
  refine tv_iasN (k := t) rfl (rfl) (⟨by omega, by omega⟩) ?_
  refine tv_hI spI_w_r1 ?_
  refine tv_b (pc' := 29) (ls' := [some (.ref 57), some (.int x1), some (.int x2), some (.int x3), some (.int x4)]) (st' := [.int x2, .int (nI t), .ref 128]) (h' := (n, sl, wKK kk, (spI I (nI t) (upd r1 t x1) r2 r3 r4), L, wQQ q)) 5 rfl ?_
  refine tv_iasN (k := t) rfl (rfl) (⟨by omega, by omega⟩) ?_
  refine tv_hI spI_w_r2 ?_
  refine tv_b (pc' := 39) (ls' := [some (.ref 57), some (.int x1), some (.int x2), some (.int x3), some (.int x4)]) (st' := [.int x3, .int (nI t), .ref 129]) (h' := (n, sl, wKK kk, (spI I (nI t) (upd r1 t x1) (upd r2 t x2) r3 r4), L, wQQ q)) 5 rfl ?_
  refine tv_iasN (k := t) rfl (rfl) (⟨by omega, by omega⟩) ?_
  refine tv_hI spI_w_r3 ?_
  refine tv_b (pc' := 50) (ls' := [some (.ref 57), some (.int x1), some (.int x2), some (.int x3), some (.int x4)]) (st' := [.int x4, .int (nI t), .ref 130]) (h' := (n, sl, wKK kk, (spI I (nI t) (upd r1 t x1) (upd r2 t x2) (upd r3 t x3) r4), L, wQQ q)) 5 rfl ?_
  refine tv_iasN (k := t) rfl (rfl) (⟨by omega, by omega⟩) ?_
  refine tv_hI spI_w_r4 ?_
  refine tv_b (pc' := 57) (ls' := [some (.ref 57), some (.int x1), some (.int x2), some (.int x3), some (.int x4)]) (st' := [.int 1, .int (nI t), .ref 57]) (h' := (n, sl, wKK kk, (spI I (nI t) (upd r1 t x1) (upd r2 t x2) (upd r3 t x3) (upd r4 t x4)), L, wQQ q)) 4 rfl ?_
  refine tv_b (pc' := 58) (ls' := [some (.ref 57), some (.int x1), some (.int x2), some (.int x3), some (.int x4)]) (st' := [.int ((nI t) + 1), .ref 57]) (h' := (n, sl, wKK kk, (spI I (nI t) (upd r1 t x1) (upd r2 t x2) (upd r3 t x3) (upd r4 t x4)), L, wQQ q)) 1 rfl ?_
  refine tv_top (show (nI t) + 1 = nI (t + 1) from nI_add t 1) ?_
  refine tv_b (pc' := 61) (ls' := [some (.ref 57), some (.int x1), some (.int x2), some (.int x3), some (.int x4)]) (st' := []) (h' := (n, sl, wKK kk, va_up (spI I (nI t) (upd r1 t x1) (upd r2 t x2) (upd r3 t x3) (upd r4 t x4)) 57 (upd ((spI I (nI t) (upd r1 t x1) (upd r2 t x2) (upd r3 t x3) (upd r4 t x4)) 57) 6 (nI (t + 1))), L, wQQ q)) 1 rfl ?_
  refine tv_hI spI_w_xk ?_
  exact tv_rv rfl ⟨rfl, rfl⟩
