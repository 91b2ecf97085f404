/-! THE SCRIPT STAYS -/
def sP (h h' : am_H) : Prop := h.1 ≤ h'.1 ∧ (h'.1 ≤ am_B → (h.2.2.1 am_B).1 = 30 → h'.2.2.1 am_B = h.2.2.1 am_B ∧ h'.2.2.2.1 am_B = h.2.2.2.1 am_B) ∧ ∀ j, am_rn j < h.1 → h'.2.2.1 j = h.2.2.1 j
theorem sP_r {h : am_H} : sP h h := ⟨Nat.le_refl _, fun _ _ => ⟨rfl, rfl⟩, fun _ _ => rfl⟩
theorem sP_t {h h1 h2 : am_H} (a : sP h h1) (b : sP h1 h2) : sP h h2 := ⟨Nat.le_trans a.1 b.1, fun hl hk => by
  obtain ⟨a1, a2⟩ := a.2.1 (Nat.le_trans b.1 hl) hk
  obtain ⟨b1, b2⟩ := b.2.1 hl (by rw [a1]; exact hk)
  exact ⟨b1.trans a1, b2.trans a2⟩, fun j hj => (b.2.2 j (Nat.lt_of_lt_of_le hj a.1)).trans (a.2.2 j hj)⟩
theorem sP_I {n sl : Nat} {K : Nat → Nat × Nat} {I : Nat → Nat → Int32} {L : Nat → Nat → Int64} {Q : Nat → Nat → Option Nat} {a : Nat} {f : Nat → Int32} (ha : (K a).1 ≠ 30) : sP (n, sl, K, I, L, Q) (n, sl, K, va_up I a f, L, Q) := ⟨Nat.le_refl _, fun _ hk => ⟨rfl, by
  show va_up I a f am_B = I am_B
  refine va_n1 (fun e => ha ?_)
  rw [← e]
  exact hk⟩, fun _ _ => rfl⟩
theorem sP_LQ {n sl : Nat} {K : Nat → Nat × Nat} {I : Nat → Nat → Int32} {L L' : Nat → Nat → Int64} {Q Q' : Nat → Nat → Option Nat} : sP (n, sl, K, I, L, Q) (n, sl, K, I, L', Q') := ⟨Nat.le_refl _, fun _ _ => ⟨rfl, rfl⟩, fun _ _ => rfl⟩
theorem sP_al {t len N : Nat} {h : am_H} : sP h (am_al t len N h) := by
  obtain ⟨n, sl, K, I, L, Q⟩ := h
  refine ⟨Nat.le_succ n, fun hl hk => ⟨?_, ?_⟩, fun j hj => ?_⟩
  · show va_up K (am_nr n) (t, len) am_B = K am_B
    have : n + 1 ≤ am_B := hl
    have e2 : am_B = 1000000 := rfl
    exact va_n1 (fun e => by have := am_nr_f n; omega)
  · show va_up I (am_nr n) (fun _ => 0) am_B = I am_B
    have : n + 1 ≤ am_B := hl
    have e2 : am_B = 1000000 := rfl
    exact va_n1 (fun e => by have := am_nr_f n; omega)
  · have hj2 : am_rn j < n := hj
    show va_up K (am_nr n) (t, len) j = K j
    exact va_n1 (fun e => by rw [e, am_rn_nr] at hj2; omega)
theorem sP_mal {t c k : Nat} {h : am_H} (h58 : h.1 + c ≤ 58) : sP h (am_mal t c k h) := by
  obtain ⟨n, sl, K, I, L, Q⟩ := h
  have h58 : n + c ≤ 58 := h58
  refine ⟨by show n ≤ n + (1 + c); omega, fun hl hk => ⟨?_, ?_⟩, fun j hj => ?_⟩
  · show (if am_B = n then (t, c) else if n < am_B ∧ am_B ≤ n + c then (t - 5, k) else K am_B) = K am_B
    have : n + (1 + c) ≤ am_B := hl
    rw [if_neg (by omega), if_neg (by omega)]
  · show (if n ≤ am_B ∧ am_B ≤ n + c then fun _ => 0 else I am_B) = I am_B
    have : n + (1 + c) ≤ am_B := hl
    rw [if_neg (by omega)]
  · have hj2 : j < n := by
      have h9 : am_rn j < n := hj
      rwa [am_rn_lo2 (by omega)] at h9
    show (if j = n then (t, c) else if n < j ∧ j ≤ n + c then (t - 5, k) else K j) = K j
    rw [if_neg (by omega), if_neg (by omega)]
theorem sP_e {h h' : am_H} (e : h' = h) : sP h h' := by subst e; exact sP_r
section S1
variable {k n pc : Nat} {ls : am_L} {st : List Value} {h : am_H} {r : am_R} {ops : List Nat}
theorem h_ii {f : Int32 → Int32 → Int32} (e : am_ii f pc ls st h = some r) : r.2.2.2 = h := by unfold am_ii at e; split at e <;> first | (cases e; rfl) | cases e
theorem h_ll {f : Int64 → Int64 → Int64} (e : am_ll f pc ls st h = some r) : r.2.2.2 = h := by unfold am_ll at e; split at e <;> first | (cases e; rfl) | cases e
theorem h_li (e : am_li k n pc ls st h = some r) : r.2.2.2 = h := by unfold am_li at e; split at e <;> first | (cases e; rfl) | cases e
theorem h_lj (e : am_lj k n pc ls st h = some r) : r.2.2.2 = h := by unfold am_lj at e; split at e <;> first | (cases e; rfl) | cases e
theorem h_la (e : am_la k n pc ls st h = some r) : r.2.2.2 = h := by unfold am_la at e; split at e <;> first | (cases e; rfl) | cases e
theorem h_si (e : am_si k n pc ls st h = some r) : r.2.2.2 = h := by unfold am_si at e; split at e <;> (try split at e) <;> first | (cases e; rfl) | cases e
theorem h_sj (e : am_sj k n pc ls st h = some r) : r.2.2.2 = h := by unfold am_sj at e; split at e <;> (try split at e) <;> first | (cases e; rfl) | cases e
theorem h_sa (e : am_sa k n pc ls st h = some r) : r.2.2.2 = h := by unfold am_sa at e; split at e <;> (try split at e) <;> first | (cases e; rfl) | cases e
theorem h_nul {b : Bool} (e : am_nul b ops pc ls st h = some r) : r.2.2.2 = h := by unfold am_nul at e; split at e <;> first | (cases e; rfl) | cases e
theorem h_tsw {lo hi : Int} (e : am_tsw lo hi ops ls st h = some r) : r.2.2.2 = h := by unfold am_tsw at e; split at e <;> first | (cases e; rfl) | cases e
theorem h_lsw {ps : List (Int × Int)} (e : am_lsw ps ops ls st h = some r) : r.2.2.2 = h := by unfold am_lsw at e; split at e <;> first | (cases e; rfl) | cases e
theorem h_gf (e : am_gf ops pc ls st h = some r) : r.2.2.2 = h := by unfold am_gf at e; split at e <;> (try split at e) <;> first | (cases e; rfl) | cases e
theorem h_ial (e : am_ial pc ls st h = some r) : r.2.2.2 = h := by unfold am_ial at e; split at e <;> (try split at e) <;> (try split at e) <;> first | (cases e; rfl) | cases e
theorem h_bal (e : am_bal pc ls st h = some r) : r.2.2.2 = h := by unfold am_bal at e; split at e <;> (try split at e) <;> (try split at e) <;> first | (cases e; rfl) | cases e
theorem h_lal (e : am_lal pc ls st h = some r) : r.2.2.2 = h := by unfold am_lal at e; split at e <;> (try split at e) <;> (try split at e) <;> first | (cases e; rfl) | cases e
theorem h_aal (e : am_aal pc ls st h = some r) : r.2.2.2 = h := by unfold am_aal at e; split at e <;> (try split at e) <;> (try split at e) <;> first | (cases e; rfl) | cases e
theorem h_len (e : am_len pc ls st h = some r) : r.2.2.2 = h := by unfold am_len at e; split at e <;> (try split at e) <;> first | (cases e; rfl) | cases e
theorem s_new (e : am_new ops pc ls st h = some r) : sP h r.2.2.2 := by unfold am_new at e; split at e <;> first | (cases e; exact sP_al) | cases e
theorem s_na (e : am_na n ops pc ls st h = some r) : sP h r.2.2.2 := by unfold am_na at e; split at e <;> (try split at e) <;> first | (cases e; exact sP_al) | cases e
theorem s_mna (e : am_mna ops pc ls st h = some r) : sP h r.2.2.2 := by unfold am_mna at e; split at e <;> (try split at e) <;> first | (rename_i hg; cases e; exact sP_mal (Nat.le_of_not_lt fun q => hg (Or.inr (Or.inr (Or.inr (Or.inr q)))))) | cases e
theorem s_ias (e : am_ias pc ls st h = some r) : sP h r.2.2.2 := by
  unfold am_ias at e
  split at e
  · split at e
    · rename_i hk
      split at e
      · cases e
      · cases e; exact sP_I (by rw [hk]; decide)
    · cases e
  · cases e
theorem s_bas (e : am_bas pc ls st h = some r) : sP h r.2.2.2 := by
  unfold am_bas at e
  split at e
  · split at e
    · cases e
    · split at e
      · rename_i hk; cases e; exact sP_I (by rw [hk]; decide)
      · split at e
        · rename_i hk; cases e; exact sP_I (by rw [hk]; decide)
        · cases e
  · cases e
theorem s_las (e : am_las pc ls st h = some r) : sP h r.2.2.2 := by
  unfold am_las at e
  split at e
  · split at e
    · split at e
      · cases e
      · cases e; exact sP_LQ
    · cases e
  · cases e
theorem s_aas (e : am_aas pc ls st h = some r) : sP h r.2.2.2 := by
  unfold am_aas at e
  split at e
  · split at e
    · split at e
      · cases e
      · cases e; exact sP_LQ
    · cases e
  · cases e
theorem s_put {kd a k : Nat} {x : Value} {h h' : am_H} (ha : (h.2.2.1 a).1 ≠ 30) (e : am_put kd a k x h = some h') : sP h h' := by
  obtain ⟨n, sl, K, I, L, Q⟩ := h
  unfold am_put at e
  dsimp only at e
  split at e
  · cases e; exact sP_I ha
  · split at e
    · cases e; exact sP_I ha
    · cases e
  · cases e; exact sP_LQ
  · cases e; exact sP_LQ
  · cases e; exact sP_LQ
  · cases e
theorem s_pf (ho : ∀ ci t, ops = ci :: t → ci ≠ 30) (e : am_pf ops pc ls st h = some r) : sP h r.2.2.2 := by
  unfold am_pf at e
  split at e
  · split at e
    · rename_i hk
      split at e
      · rename_i hp
        cases e
        exact s_put (by rw [hk]; exact ho _ _ rfl) hp
      · cases e
    · cases e
  · cases e
set_option maxHeartbeats 4000000 in
theorem s_1 {i : Instr} {v : Value} (ho : ∀ ix, i = .putfield ix → ∀ ci t, ops = ci :: t → ci ≠ 30) (e : am_1 i ops v pc ls st h = some r) : sP h r.2.2.2 := by
  unfold am_1 at e
  split at e <;> first
    | exact sP_e (h_li e) | exact sP_e (h_lj e) | exact sP_e (h_la e) | exact sP_e (h_si e) | exact sP_e (h_sj e) | exact sP_e (h_sa e)
    | exact sP_e (h_ii e) | exact sP_e (h_ll e) | exact sP_e (h_nul e) | exact sP_e (h_tsw e) | exact sP_e (h_lsw e) | exact sP_e (h_gf e) | exact sP_e (h_ial e) | exact sP_e (h_bal e) | exact sP_e (h_lal e) | exact sP_e (h_aal e) | exact sP_e (h_len e)
    | exact s_new e | exact s_na e | exact s_mna e | exact s_ias e | exact s_bas e | exact s_las e | exact s_aas e
    | exact s_pf (ho _ rfl) e
    | (cases e; exact sP_r)
    | (split at e <;> (try split at e) <;> first | (cases e; exact sP_r) | cases e)
    | cases e
end S1
theorem pf_12 {mi pc : Nat} {ix len : Nat} {ops : List Nat} {v : Value} (h : am_P mi pc = some (.putfield ix, len, ops, v)) : ∀ ci t, ops = ci :: t → ci ≠ 30 := by
  obtain ⟨_, _, h3⟩ := am_ok_parts (am_hT _ _ _ _ _ _ h)
  intro ci t e
  subst e
  unfold am_ok1 at h3
  rw [Bool.and_eq_true] at h3
  have h4 := h3.2
  split at h4
  · rename_i e2
    cases e2
    rw [Bool.and_eq_true, Bool.and_eq_true, Bool.and_eq_true] at h4
    have := of_decide_eq_true h4.1.1.1
    omega
  · cases h4
theorem s_cgen {run : Nat → am_L → am_H → Option (Option Value × am_H)} (hr : ∀ mi ls h r, run mi ls h = some r → sP h r.2) {ck mi na ml ci : Nat} {st : List Value} {h : am_H} {r : List Value × am_H} (e : am_cgen run ck mi na ml ci st h = some r) : sP h r.2 := by
  unfold am_cgen at e
  split at e
  · cases e
  · split at e
    · split at e
      · split at e
        · rename_i h9; cases e; exact hr _ _ _ _ h9
        · cases e
      · cases e
    · split at e
      · split at e
        · split at e
          · rename_i h9; cases e; exact hr _ _ _ _ h9
          · cases e
        · cases e
      · cases e
theorem s_call {run : Nat → am_L → am_H → Option (Option Value × am_H)} (hr : ∀ mi ls h r, run mi ls h = some r → sP h r.2) {ops : List Nat} {st : List Value} {h : am_H} {r : List Value × am_H} (e : am_call run ops st h = some r) : sP h r.2 := by
  unfold am_call at e
  split at e
  · split at e
    · split at e
      · cases e; exact sP_r
      · cases e
    · cases e
  · split at e
    · split at e
      · rename_i hk; cases e; exact sP_I (by rw [hk.2.1]; decide)
      · cases e
    · cases e
  · split at e
    · split at e
      · cases e; exact sP_r
      · cases e
    · cases e
  · split at e
    · split at e
      · cases e; exact sP_r
      · cases e
    · cases e
  · exact s_cgen hr e
  · cases e
theorem s_run : ∀ (f d mi pc : Nat) (ls : am_L) (st : List Value) (h : am_H) (r : Option Value × am_H), am_run f d mi pc ls st h = some r → sP h r.2 := by
  intro f
  induction f with
  | zero => intro d mi pc ls st h r hr; cases hr
  | succ f ih =>
    intro d mi pc ls st h r hr
    unfold am_run at hr
    split at hr
    · cases hr
    · rename_i i len ops v hP
      split at hr
      · split at hr
        · rename_i h9
          exact sP_t (s_1 (fun ix e => by subst e; exact pf_12 hP) h9) (ih _ _ _ _ _ _ _ hr)
        · cases hr
      · split at hr
        · cases hr; exact sP_r
        · cases hr
      · split at hr
        · cases hr
        · split at hr
          · rename_i h9
            exact sP_t (s_call (fun mi ls h r q => ih _ _ _ _ _ _ _ q) h9) (ih _ _ _ _ _ _ _ hr)
          · cases hr
theorem s_T {d mi pc : Nat} {ls : am_L} {st : List Value} {h : am_H} {P : Option Value → am_H → Prop} (k : am_T d mi pc ls st h P) : am_T d mi pc ls st h (fun rv h' => P rv h' ∧ sP h h') := by
  obtain ⟨rv, h', ⟨f, hf⟩, p⟩ := k
  exact ⟨rv, h', ⟨f, hf⟩, p, s_run _ _ _ _ _ _ _ _ hf⟩
/-- what a method answers is of its type -/
theorem t_run : ∀ (f d mi pc : Nat) (ls : am_L) (st : List Value) (h : am_H) (r : Option Value × am_H), am_run f d mi pc ls st h = some r → ∃ pc', am_ret mi pc' r.1 := by
  intro f
  induction f with
  | zero => intro d mi pc ls st h r hr; cases hr
  | succ f ih =>
    intro d mi pc ls st h r hr
    unfold am_run at hr
    split at hr
    · cases hr
    · rename_i i len ops v hP
      split at hr
      · split at hr
        · exact ih _ _ _ _ _ _ _ hr
        · cases hr
      · split at hr
        · rename_i h9
          cases hr
          exact ⟨pc, (am_ret_of (am_hT _ _ _ _ _ _ hP) h9).1⟩
        · cases hr
      · split at hr
        · cases hr
        · split at hr
          · exact ih _ _ _ _ _ _ _ hr
          · cases hr
theorem rt_I {mi pc : Nat} {z : Value} (h : (am_mi mi).2.2.2.2.1 = some .int ∨ (am_mi mi).2.2.2.2.1 = some .boolean) (k : am_ret mi pc (some z)) : ∃ x, z = .int x := by
  rcases k with ⟨e, _⟩ | ⟨x, e, _⟩ | ⟨x, e, _, e2⟩ | ⟨e, _, ty, e2, e3⟩
  · cases e
  · cases e; exact ⟨x, rfl⟩
  · rcases h with h | h <;> (rw [h] at e2; cases e2)
  · rcases h with h | h <;> (rw [h] at e2; cases e2; rcases e3 with ⟨_, e4⟩ | ⟨_, e4⟩ <;> cases e4)
theorem rts_J {mi pc : Nat} {i : Instr} {len : Nat} {ops : List Nat} {v : Value} {st : List Value} {rv : Option Value} (h : (am_mi mi).2.2.2.2.1 = some .long) (hP : am_P mi pc = some (i, len, ops, v)) (hr : am_rts i ops st = some rv) : ∃ x, rv = some (.long x) := by
  obtain ⟨_, _, h1⟩ := am_ok_parts (am_hT _ _ _ _ _ _ hP)
  rw [h] at h1
  unfold am_rts at hr
  split at hr
  · simp only [am_ok1, Bool.and_eq_true, beq_iff_eq] at h1
    obtain ⟨_, h1⟩ := h1
    split at hr
    · exact absurd (of_decide_eq_true h1) (by decide)
    · exact absurd (of_decide_eq_true h1) (by decide)
    · cases hr
  · split at hr
    · cases hr; exact ⟨_, rfl⟩
    · cases hr
  · simp only [am_ok1, Bool.and_eq_true, beq_iff_eq] at h1
    exact absurd h1.2 (by decide)
  · simp only [am_ok1, Bool.and_eq_true, beq_iff_eq] at h1
    exact absurd (of_decide_eq_true h1.2) (by decide)
  · cases hr
theorem t_runJ {mi : Nat} (h0 : (am_mi mi).2.2.2.2.1 = some .long) : ∀ (f d pc : Nat) (ls : am_L) (st : List Value) (h : am_H) (r : Option Value × am_H), am_run f d mi pc ls st h = some r → ∃ x, r.1 = some (.long x) := by
  intro f
  induction f with
  | zero => intro d pc ls st h r hr; cases hr
  | succ f ih =>
    intro d pc ls st h r hr
    unfold am_run at hr
    split at hr
    · cases hr
    · rename_i i len ops v hP
      split at hr
      · split at hr
        · exact ih _ _ _ _ _ _ hr
        · cases hr
      · split at hr
        · rename_i h9
          cases hr
          exact rts_J h0 hP h9
        · cases hr
      · split at hr
        · cases hr
        · split at hr
          · exact ih _ _ _ _ _ _ hr
          · cases hr
theorem rt_J {d mi : Nat} {ls : am_L} {h h1 : am_H} {z : Value} (h0 : (am_mi mi).2.2.2.2.1 = some .long) (k : am_Ev d mi 0 ls [] h (some z, h1)) : ∃ x, z = .long x := by
  obtain ⟨f, hf⟩ := k
  obtain ⟨x, e⟩ := t_runJ h0 _ _ _ _ _ _ _ hf
  exact ⟨x, Option.some.inj e⟩
/-- the script lies there -/
def scr (Ln : Nat) (xs : Nat → Int32) (h : am_H) : Prop := h.2.2.1 am_B = (30, Ln) ∧ h.2.2.2.1 am_B = xs
theorem hInv_k {k : Nat} {h : am_H} (hh : hInv k h) : 131 ≤ h.1 ∧ (h.2.2.1 0).1 = 10 ∧ (h.2.2.1 80).1 = 11 ∧ h.1 ≤ 131 + 2 * k ∧ h.2.1 ≤ 231806 + 820 * k := by
  obtain ⟨n, sl, kk, I, L, q, rfl, C, ah, M, tx, T, g, hr, ht, hu, hs, hc, hj, hn, hsl⟩ := hh
  exact ⟨g.2.2.2.2.2, rfl, rfl, hn, hsl⟩
theorem jx_law {m1 m2 k Ln : Nat} {l1 l2 : am_L} {h : am_H} {xs : Nat → Int32} (hj : jx m1 l1 m2 l2) (hk : k ≤ 512) (hh : hInv k h) (hs : scr Ln xs h) : ∃ z h1 h2, am_Ev 200 m1 0 l1 [] h (some z, h1) ∧ am_Ev 200 m2 0 l2 [] h1 (some z, h2) ∧ (hInv (k + 1) h2 ∧ scr Ln xs h2) ∧ scr Ln xs h1 ∧ (h1.2.2.1 80).1 = 11 ∧ ∃ pc, am_ret m1 pc (some z) := by
  obtain ⟨rv, h1, ⟨f, hf⟩, z, _, rfl, rv2, h2, ⟨f2, hf2⟩, rfl, hi2⟩ := hj k h hk hh
  obtain ⟨k1, k2, k3, k4, k5⟩ := hInv_k hh
  obtain ⟨j1, j2, j3, j4, j5⟩ := hInv_k hi2
  have s1 := s_run _ _ _ _ _ _ _ _ hf
  have s2 := s_run _ _ _ _ _ _ _ _ hf2
  have hB : am_B = 1000000 := rfl
  have b2 : h2.1 ≤ am_B := by omega
  have b1 : h1.1 ≤ am_B := Nat.le_trans s2.1 b2
  obtain ⟨u1, u2⟩ := s1.2.1 b1 (by show (h.2.2.1 am_B).1 = 30; rw [hs.1])
  have sc1 : scr Ln xs h1 := ⟨u1.trans hs.1, u2.trans hs.2⟩
  obtain ⟨v1, v2⟩ := s2.2.1 b2 (by show (h1.2.2.1 am_B).1 = 30; rw [sc1.1])
  exact ⟨z, h1, h2, ⟨f, hf⟩, ⟨f2, hf2⟩, ⟨hi2, v1.trans sc1.1, v2.trans sc1.2⟩, sc1, (congrArg Prod.fst (s1.2.2 80 (by have e80 : am_rn 80 = 84 := rfl; omega))).trans k3, t_run _ _ _ _ _ _ _ _ hf⟩
theorem tv_sc {d mi pc i Ln : Nat} {ls : am_L} {st : List Value} {h : am_H} {P : Option Value → am_H → Prop} {v : Value} {xs : Nat → Int32} (hP : am_P mi pc = some (.iaload, 1, [], v)) (hs : scr Ln xs h) (hi : i < Ln ∧ Ln ≤ 200000) (kk : am_T d mi (pc + 1) ls (.int (xs i) :: st) h P) : am_T d mi pc ls (.int (nI i) :: .ref am_B :: st) h P := by
  refine tv_l (fun _ => ev_1 hP rfl ?_) kk
  obtain ⟨n, sl, K, I, L, Q⟩ := h
  obtain ⟨h1, h2⟩ := hs
  have e1 : K am_B = (30, Ln) := h1
  have e2 : I am_B = xs := h2
  have hc : (nI i).toNatClampNeg = i := nI_clamp (by omega)
  show (if (K am_B).1 = 20 ∨ (K am_B).1 = 30 then (if nI i < 0 ∨ (K am_B).2 ≤ (nI i).toNatClampNeg then none else some (pc + 1, ls, .int (I am_B (nI i).toNatClampNeg) :: st, (n, sl, K, I, L, Q))) else none) = _
  rw [e1, e2, hc, if_pos (Or.inr rfl), if_neg (fun z => z.elim (nI_nlt (b := 0) (by omega) (by omega)) (fun y => absurd y (by omega)))]
theorem tv_sl {d mi pc Ln : Nat} {ls : am_L} {st : List Value} {h : am_H} {P : Option Value → am_H → Prop} {v : Value} {xs : Nat → Int32} (hP : am_P mi pc = some (.arraylength, 1, [], v)) (hs : scr Ln xs h) (kk : am_T d mi (pc + 1) ls (.int (nI Ln) :: st) h P) : am_T d mi pc ls (.ref am_B :: st) h P := by
  refine tv_l (fun _ => ev_1 hP rfl ?_) kk
  obtain ⟨n, sl, K, I, L, Q⟩ := h
  obtain ⟨h1, h2⟩ := hs
  have e1 : K am_B = (30, Ln) := h1
  show (if (20 ≤ (K am_B).1 ∧ (K am_B).1 ≤ 26) ∨ (K am_B).1 = 30 then some (pc + 1, ls, .int (Int32.ofNat (K am_B).2) :: st, (n, sl, K, I, L, Q)) else none) = _
  rw [e1, if_pos (Or.inr rfl)]
  rfl
theorem lgc_s {l : Int64} : lg_cmp l l = 0 := by
  unfold lg_cmp
  simp
