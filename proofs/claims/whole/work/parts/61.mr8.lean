/-! THE REFERENCE'S READER: a mandate -/
theorem mr_noadj {tx : Nat → Nat} {T A : Nat} (h : A = 0 ∨ tx (A - 1) = 59) : ¬ pa_adj tx T A := by
  rintro ⟨h0, ha⟩
  by_cases e : pa_sk tx T A = A
  · rw [e] at h0 ha
    rcases h with h | h
    · omega
    · rw [h] at ha; revert ha; decide
  · have hg := pa_sk_ge (b := tx) (n := T) A
    have hb : pa_bl (tx (A + (pa_sk tx T A - 1 - A))) = true := pa_rn_in (P := fun i => pa_bl (tx i)) (T - A) A (pa_sk tx T A - 1 - A) (by unfold pa_sk at hg e ⊢; omega)
    rw [show A + (pa_sk tx T A - 1 - A) = pa_sk tx T A - 1 by omega] at hb
    generalize tx (pa_sk tx T A - 1) = x at ha hb
    unfold pa_bl at hb
    rcases (Bool.or_eq_true _ _).mp hb with q | q
    · rw [Nat.eq_of_beq_eq_true q] at ha; revert ha; decide
    · rw [Nat.eq_of_beq_eq_true q] at ha; revert ha; decide
theorem tkP_sg {tx : Nat → Nat} {T p : Nat} {sg sa se va : Int32} {w : Int64} (h : tkP tx T p sg sa se va w) : sg = 0 ↔ ¬ pa_sk tx T p < T := by
  obtain ⟨_, _, ⟨h1, _, h3, _⟩ | ⟨h1, _, _, h4, _⟩ | ⟨h1, _, _, h4, _⟩ | ⟨h1, h4⟩⟩ := h
  · rw [h3]; exact ⟨fun q => absurd q (by decide), fun q => absurd h1 q⟩
  · rw [h4]; exact ⟨fun q => absurd q (by decide), fun q => absurd h1 q⟩
  · rw [h4]; exact ⟨fun q => absurd q (by decide), fun q => absurd h1 q⟩
  · rw [h4]; exact ⟨fun _ => h1, fun _ => rfl⟩
theorem pa_lf_sk2 {tx : Nat → Nat} {T A f : Nat} (h : pa_lf tx T A = some f) : pa_sk tx T A < T := by
  unfold pa_lf at h
  simp only at h
  by_cases c : pa_sk tx T A < T
  · exact c
  · rw [if_neg c] at h; cases h
/-- the reference's cells of a mandate from its k-th statement on -/
def cdL (N : Nat) (r83 r84 r85 r86 r87 : Nat → Int32) : Nat → List (Nat × Nat × List Nat) → Prop
  | _, [] => True
  | k, s :: r => (r83 (20 * N + k) = nI (s.1 - 3) ∧ r84 (20 * N + k) = wkI s.1 s.2.1 ∧ (3 ≤ s.1 ∧ s.1 ≤ 5) ∧ ∃ (a : Nat) (rs : List (Nat × Nat)), r85 (20 * N + k) = nI a ∧ r86 (20 * N + k) = nI (a + rs.length) ∧ a + rs.length ≤ 800 ∧ (∀ i, i < rs.length → r87 (800 * N + a + i) = nI (menc (rs.getD i (0, 0)))) ∧ pa_Eq (cond (Nat.beq s.1 5) false true) s.2.2 rs) ∧ cdL N r83 r84 r85 r86 r87 (k + 1) r
theorem cdL_c {N : Nat} {r83 r84 r85 r86 r87 s83 s84 s85 s86 s87 : Nat → Int32} (hq : ∀ j, 20 * N ≤ j → j < 20 * N + 20 → s83 j = r83 j ∧ s84 j = r84 j ∧ s85 j = r85 j ∧ s86 j = r86 j) (hr : ∀ j, 800 * N ≤ j → j < 800 * N + 800 → s87 j = r87 j) : ∀ {l : List (Nat × Nat × List Nat)} {k : Nat}, k + l.length ≤ 20 → cdL N r83 r84 r85 r86 r87 k l → cdL N s83 s84 s85 s86 s87 k l := by
  intro l
  induction l with
  | nil => intro k _ _; trivial
  | cons s r ih =>
    intro k hk h
    have el : (s :: r).length = r.length + 1 := rfl
    rw [el] at hk
    obtain ⟨⟨h1, h2, h3, a, rs, h4, h5, h6, h7, h8⟩, h9⟩ := h
    obtain ⟨q1, q2, q3, q4⟩ := hq (20 * N + k) (by omega) (by omega)
    exact ⟨⟨by rw [q1]; exact h1, by rw [q2]; exact h2, h3, a, rs, by rw [q3]; exact h4, by rw [q4]; exact h5, h6, fun i hi => by rw [hr _ (by omega) (by omega)]; exact h7 i hi, h8⟩, ih (by omega) h9⟩
theorem pa_wr_at {cs : List Nat} : ∀ {c : Nat → Int32} {e i : Nat}, i < cs.length → pa_wr c e cs (e + i) = nI (cs.getD i 0) := by
  induction cs with
  | nil => intro c e i h; exact absurd h (Nat.not_lt_zero _)
  | cons x cs ih =>
    intro c e i h
    show pa_wr (upd c e (nI x)) (e + 1) cs (e + i) = _
    cases i with
    | zero => rw [pa_wr_b (by omega)]; exact upd_e
    | succ i =>
      have h2 := ih (c := upd c e (nI x)) (e := e + 1) (i := i) (by have : (x :: cs).length = cs.length + 1 := rfl; omega)
      rw [show e + (i + 1) = e + 1 + i by omega, h2]
      rfl
theorem menc_at {rs : List (Nat × Nat)} {i : Nat} (h : i < rs.length) : (rs.map menc).getD i 0 = menc (rs.getD i (0, 0)) := by
  unfold List.getD
  rw [List.getElem?_map, List.getElem?_eq_getElem h]
  rfl
/-- the store behind a mandate without a fault -/
def mdN (I : Nat → Nat → Int32) (N k ce0 : Nat) (r82 r83 r84 r85 r86 r87 : Nat → Int32) (l : List (Nat × Nat × List Nat)) (I' : Nat → Nat → Int32) : Prop := ∃ tk co dp op om od s82 s83 s84 s85 s86 s87 s88 s89 s90 s91 s92 s93, I' = mrI (stI I s82 s83 s84 s85 s86) tk 0 (-1) 1 co dp op om od s87 s88 s89 s90 s91 s92 s93 ∧ k + l.length ≤ 20 ∧ s82 N = nI (k + l.length) ∧ (∀ j, j ≠ N → s82 j = r82 j) ∧ (∀ j, j < 20 * N + k → s83 j = r83 j ∧ s84 j = r84 j ∧ s85 j = r85 j ∧ s86 j = r86 j) ∧ (∀ j, j < 800 * N + ce0 → s87 j = r87 j) ∧ cdL N s83 s84 s85 s86 s87 k l
set_option maxHeartbeats 4000000 in
theorem tv_mr_mand {d n sl : Nat} {kk : Nat → Nat × Nat} {I : Nat → Nat → Int32} {L : Nat → Nat → Int64} {q : Nat → Nat → Option Nat} {tx : Nat → Nat} {T : Nat} {y1 y2 : Int32} {Q : Option Value → am_H → Prop} {N : Nat} (hR : mrH tx T I) (hN : I 80 14 = nI N ∧ N ≤ 200) : ∀ (f k A ce0 : Nat) (tk : Nat → Int32) (fk fp dp op om od : Int32) (r87 r88 r89 r90 r91 r92 r93 r82 r83 r84 r85 r86 : Nat → Int32) (w : Int64), k + f = 20 → r82 N = nI k → nxP tx T A 1 (-1) (tk 3) (tk 4) (tk 5) (tk 6) fk fp (tk 12) w → (A = 0 ∨ tx (A - 1) = 59) → A ≤ T → ce0 ≤ A → (∀ kk0 pl I9 w9, pa_stmts tx T f A = .inl (kk0, pl) → (kk0 ≠ 0 ∧ kk0 ≤ 5 ∧ pl ≤ 800) → msF I N r82 r83 r84 r85 r86 r87 kk0 pl I9 → am_T (d + 8) 179 105 [some (.ref 80), some (.int y1), some (.int y2)] [] (n, sl, wKK kk, I9, mwL L w9, wQQ q) Q) → (∀ l I9 w9, pa_stmts tx T f A = .inr l → mdN I N k ce0 r82 r83 r84 r85 r86 r87 l I9 → am_T (d + 8) 179 105 [some (.ref 80), some (.int y1), some (.int y2)] [] (n, sl, wKK kk, I9, mwL L w9, wQQ q) Q) → am_T (d + 8) 179 84 [some (.ref 80), some (.int y1), some (.int y2)] [] (n, sl, wKK kk, (mrI (stI I r82 r83 r84 r85 r86) tk fk fp 1 (nI ce0) dp op om od r87 r88 r89 r90 r91 r92 r93), (mwL L w), wQQ q) Q := by
  have hT8 := hR.2.1
  intro f
  induction f with
  | zero =>
    intro k A ce0 tk fk fp dp op om od r87 r88 r89 r90 r91 r92 r93 r82 r83 r84 r85 r86 w hkf h82 hnx hnaA hA hce hF hN2
    have e1 : pa_stmts tx T 0 A = if pa_sk tx T A < T then .inl (5, pa_sk tx T A) else .inr [] := rfl
    have e1' := e1
    have hna := mr_noadj (T := T) hnaA
    unfold nxP at hnx
    have hcase : fk = 0 ∧ fp = -1 ∧ ((pa_sk tx T A < T ∧ ¬ tk 3 = 0 ∧ tkB tx T A (tk 3) (tk 4) (tk 5) (tk 6) (tk 12) w) ∨ (¬ pa_sk tx T A < T ∧ tk 3 = 0)) := by
      unfold tkB
      cases hl : pa_lf tx T A with
      | some f0 =>
        rw [hl] at hnx
        obtain ⟨h8, ⟨_, _, h0 | h0⟩ | ⟨_, a1, a2, a3, a4, a5⟩⟩ := hnx
        · exact absurd h0 (by decide)
        · exact absurd h0 hna
        · exact ⟨a1, a2, Or.inl ⟨pa_lf_sk2 hl, by rcases a5 with q | q <;> rw [q] <;> decide, a3, h8, a4⟩⟩
      | none =>
        rw [hl] at hnx
        obtain ⟨a1, a2, a3, a4⟩ := hnx
        by_cases hs : pa_sk tx T A < T
        · exact ⟨a1, a2, Or.inl ⟨hs, fun q => (tkP_sg a4).mp q hs, a3, a4⟩⟩
        · exact ⟨a1, a2, Or.inr ⟨hs, (tkP_sg a4).mpr hs⟩⟩
    obtain ⟨rfl, rfl, ⟨hsk, hsg, hB⟩ | ⟨hskn, hsg⟩⟩ := hcase
    · rw [if_pos hsk] at e1
      show am_T _ _ _ [some (.ref 80), some (.int y1), some (.int y2)] _ (n, sl, wKK kk, (mrI (stI I r82 r83 r84 r85 r86) tk 0 (-1) 1 (nI ce0) dp op om od r87 r88 r89 r90 r91 r92 r93), (mwL L w), wQQ q) _
      refine tv_b (pc' := (if (tk 3) = 0 then 105 else 98)) (ls' := [some (.ref 80), some (.int y1), some (.int y2)]) (st' := []) (h' := (n, sl, wKK kk, (mrI (stI I r82 r83 r84 r85 r86) tk 0 (-1) 1 (nI ce0) dp op om od r87 r88 r89 r90 r91 r92 r93), (mwL L w), wQQ q)) 6 rfl ?_
      refine tv_f (hsg) ?_
      refine tv_b (pc' := 99) (ls' := [some (.ref 80), some (.int y1), some (.int y2)]) (st' := [.ref 80]) (h' := (n, sl, wKK kk, (mrI (stI I r82 r83 r84 r85 r86) tk 0 (-1) 1 (nI ce0) dp op om od r87 r88 r89 r90 r91 r92 r93), (mwL L w), wQQ q)) 1 rfl ?_
      refine tv_cv [] [] rfl rfl (by omega) rfl (Nat.le_of_ble_eq_true rfl) (Nat.le_of_ble_eq_true rfl) (Or.inr (Or.inr rfl)) (tv_mr_statement hR hN h82 (by omega) hB hA hce hsk) ?_
      rintro rv9 h9 ⟨rfl, I9, w0, rfl, hP⟩
      rw [if_pos (by omega)] at hP
      obtain ⟨hk0, hmF⟩ := hP
      have hcF := hF 5 (pa_sk tx T A) _ w0 e1 hk0 hmF
      obtain ⟨tk0, be0, co0, dp0, op0, om0, od0, s82, s83, s84, s85, s86, s87, s88, s89, s90, s91, s92, s93, rfl, hm1, hm2, hm3⟩ := hmF
      refine tv_b (pc' := 84) (ls' := [some (.ref 80), some (.int y1), some (.int y2)]) (st' := []) (h' := (n, sl, wKK kk, (mrI (stI I s82 s83 s84 s85 s86) tk0 5 (nI (pa_sk tx T A)) be0 co0 dp0 op0 om0 od0 s87 s88 s89 s90 s91 s92 s93), (mwL L w0), wQQ q)) 1 rfl ?_
      refine tv_b (pc' := 105) (ls' := [some (.ref 80), some (.int y1), some (.int y2)]) (st' := []) (h' := (n, sl, wKK kk, (mrI (stI I s82 s83 s84 s85 s86) tk0 5 (nI (pa_sk tx T A)) be0 co0 dp0 op0 om0 od0 s87 s88 s89 s90 s91 s92 s93), (mwL L w0), wQQ q)) 3 rfl ?_
      exact hcF
    · show am_T _ _ _ [some (.ref 80), some (.int y1), some (.int y2)] _ (n, sl, wKK kk, (mrI (stI I r82 r83 r84 r85 r86) tk 0 (-1) 1 (nI ce0) dp op om od r87 r88 r89 r90 r91 r92 r93), (mwL L w), wQQ q) _
      refine tv_b (pc' := (if (tk 3) = 0 then 105 else 98)) (ls' := [some (.ref 80), some (.int y1), some (.int y2)]) (st' := []) (h' := (n, sl, wKK kk, (mrI (stI I r82 r83 r84 r85 r86) tk 0 (-1) 1 (nI ce0) dp op om od r87 r88 r89 r90 r91 r92 r93), (mwL L w), wQQ q)) 6 rfl ?_
      refine tv_t (hsg) ?_
      exact hN2 [] _ w (by rw [e1, if_neg hskn]) ⟨_, _, _, _, _, _, _, _, _, _, _, _, _, _, _, _, _, _, rfl, by show k + 0 ≤ 20; omega, h82, fun j hj => rfl, fun j hj => ⟨rfl, rfl, rfl, rfl⟩, fun j hj => rfl, trivial⟩
  | succ f ih =>
    intro k A ce0 tk fk fp dp op om od r87 r88 r89 r90 r91 r92 r93 r82 r83 r84 r85 r86 w hkf h82 hnx hnaA hA hce hF hN2
    have e0 : pa_stmts tx T (f + 1) A = if pa_sk tx T A < T then (match pa_stmt tx T A with
      | .inl e => .inl e
      | .inr (p', st) => match pa_stmts tx T f p' with
        | .inl e => .inl e
        | .inr l => .inr (st :: l)) else .inr [] := rfl
    have hna := mr_noadj (T := T) hnaA
    unfold nxP at hnx
    have hcase : fk = 0 ∧ fp = -1 ∧ ((pa_sk tx T A < T ∧ ¬ tk 3 = 0 ∧ tkB tx T A (tk 3) (tk 4) (tk 5) (tk 6) (tk 12) w) ∨ (¬ pa_sk tx T A < T ∧ tk 3 = 0)) := by
      unfold tkB
      cases hl : pa_lf tx T A with
      | some f0 =>
        rw [hl] at hnx
        obtain ⟨h8, ⟨_, _, h0 | h0⟩ | ⟨_, a1, a2, a3, a4, a5⟩⟩ := hnx
        · exact absurd h0 (by decide)
        · exact absurd h0 hna
        · exact ⟨a1, a2, Or.inl ⟨pa_lf_sk2 hl, by rcases a5 with q | q <;> rw [q] <;> decide, a3, h8, a4⟩⟩
      | none =>
        rw [hl] at hnx
        obtain ⟨a1, a2, a3, a4⟩ := hnx
        by_cases hs : pa_sk tx T A < T
        · exact ⟨a1, a2, Or.inl ⟨hs, fun q => (tkP_sg a4).mp q hs, a3, a4⟩⟩
        · exact ⟨a1, a2, Or.inr ⟨hs, (tkP_sg a4).mpr hs⟩⟩
    obtain ⟨rfl, rfl, ⟨hsk, hsg, hB⟩ | ⟨hskn, hsg⟩⟩ := hcase
    · have e1 := e0
      rw [if_pos hsk] at e1
      show am_T _ _ _ [some (.ref 80), some (.int y1), some (.int y2)] _ (n, sl, wKK kk, (mrI (stI I r82 r83 r84 r85 r86) tk 0 (-1) 1 (nI ce0) dp op om od r87 r88 r89 r90 r91 r92 r93), (mwL L w), wQQ q) _
      refine tv_b (pc' := (if (tk 3) = 0 then 105 else 98)) (ls' := [some (.ref 80), some (.int y1), some (.int y2)]) (st' := []) (h' := (n, sl, wKK kk, (mrI (stI I r82 r83 r84 r85 r86) tk 0 (-1) 1 (nI ce0) dp op om od r87 r88 r89 r90 r91 r92 r93), (mwL L w), wQQ q)) 6 rfl ?_
      refine tv_f (hsg) ?_
      refine tv_b (pc' := 99) (ls' := [some (.ref 80), some (.int y1), some (.int y2)]) (st' := [.ref 80]) (h' := (n, sl, wKK kk, (mrI (stI I r82 r83 r84 r85 r86) tk 0 (-1) 1 (nI ce0) dp op om od r87 r88 r89 r90 r91 r92 r93), (mwL L w), wQQ q)) 1 rfl ?_
      refine tv_cv [] [] rfl rfl (by omega) rfl (Nat.le_of_ble_eq_true rfl) (Nat.le_of_ble_eq_true rfl) (Or.inr (Or.inr rfl)) (tv_mr_statement hR hN h82 (by omega) hB hA hce hsk) ?_
      rintro rv9 h9 ⟨rfl, I9, w0, rfl, hP⟩
      rw [if_neg (by omega)] at hP
      unfold mstR at hP
      rcases hs0 : pa_stmt tx T A with ⟨k0, l0⟩ | ⟨p0, kw0, w00, cs0⟩ <;> rw [hs0] at hP
      · obtain ⟨hk0, hmF⟩ := hP
        have hcF := hF k0 l0 _ w0 (by rw [e1, hs0]) hk0 hmF
        have hk0n : ¬ nI k0 = 0 := fun h => hk0.1 ((nI_eq (a := k0) (b := 0) (by omega) (by omega)).mp h)
        obtain ⟨tk0, be0, co0, dp0, op0, om0, od0, s82, s83, s84, s85, s86, s87, s88, s89, s90, s91, s92, s93, rfl, hm1, hm2, hm3⟩ := hmF
        refine tv_b (pc' := 84) (ls' := [some (.ref 80), some (.int y1), some (.int y2)]) (st' := []) (h' := (n, sl, wKK kk, (mrI (stI I s82 s83 s84 s85 s86) tk0 (nI k0) (nI l0) be0 co0 dp0 op0 om0 od0 s87 s88 s89 s90 s91 s92 s93), (mwL L w0), wQQ q)) 1 rfl ?_
        refine tv_b (pc' := (if (nI k0) = 0 then 91 else 105)) (ls' := [some (.ref 80), some (.int y1), some (.int y2)]) (st' := []) (h' := (n, sl, wKK kk, (mrI (stI I s82 s83 s84 s85 s86) tk0 (nI k0) (nI l0) be0 co0 dp0 op0 om0 od0 s87 s88 s89 s90 s91 s92 s93), (mwL L w0), wQQ q)) 3 rfl ?_
        refine tv_f (hk0n) ?_
        exact hcF
      · obtain ⟨rs, tk0, fk0, fp0, dp0, op0, om0, od0, s88, s89, s90, s91, s92, s93, rfl, hE, hpT0, hlt0, hkw0, hnx0, h00, h59⟩ := hP
        refine tv_b (pc' := 84) (ls' := [some (.ref 80), some (.int y1), some (.int y2)]) (st' := []) (h' := (n, sl, wKK kk, (mrI (stI I (upd r82 N (nI (k + 1))) (upd r83 (20 * N + k) (nI (kw0 - 3))) (upd r84 (20 * N + k) (wkI kw0 w00)) (upd r85 (20 * N + k) (nI ce0)) (upd r86 (20 * N + k) (nI (ce0 + rs.length)))) tk0 fk0 fp0 1 (nI (ce0 + rs.length)) dp0 op0 om0 od0 (pa_wr r87 (800 * N + ce0) (rs.map menc)) s88 s89 s90 s91 s92 s93), (mwL L w0), wQQ q)) 1 rfl ?_
        refine ih (k + 1) p0 (ce0 + rs.length) tk0 fk0 fp0 dp0 op0 om0 od0 _ s88 s89 s90 s91 s92 s93 _ _ _ _ _ w0 (by omega) upd_e hnx0 (Or.inr h59) hpT0 (by omega) ?_ ?_
        · intro kk1 pl1 I9 w9 hs1 hk1 hm
          obtain ⟨tk1, be1, co1, dp1, op1, om1, od1, s82, s83, s84, s85, s86, s87, s881, s891, s901, s911, s921, s931, rfl, hm1, hm2, hm3⟩ := hm
          exact hF kk1 pl1 _ w9 (by rw [e1, hs0]; simp only [hs1]) hk1 ⟨_, _, _, _, _, _, _, _, _, _, _, _, _, _, _, _, _, _, _, rfl, (fun j hj => by rw [hm1 j hj, upd_n hj]), (fun j hj => by obtain ⟨q1, q2, q3, q4⟩ := hm2 j hj; rw [q1, q2, q3, q4]; exact ⟨upd_n (by omega), upd_n (by omega), upd_n (by omega), upd_n (by omega)⟩), (fun j hj => by rw [hm3 j hj]; exact pa_wr_b (by omega))⟩
        · intro l1 I9 w9 hs1 hm
          obtain ⟨tk1, co1, dp1, op1, om1, od1, s82, s83, s84, s85, s86, s87, s881, s891, s901, s911, s921, s931, rfl, hml, hm0, hm1, hm2, hm3, hm4⟩ := hm
          have hll : ((kw0, w00, cs0) :: l1).length = l1.length + 1 := rfl
          obtain ⟨g1, g2, g3, g4⟩ := hm2 (20 * N + k) (by omega)
          refine hN2 ((kw0, w00, cs0) :: l1) _ w9 (by rw [e1, hs0]; simp only [hs1]) ⟨_, _, _, _, _, _, _, _, _, _, _, _, _, _, _, _, _, _, rfl, by omega, by rw [hm0, hll]; congr 1; omega, (fun j hj => by rw [hm1 j hj, upd_n hj]), (fun j hj => by obtain ⟨q1, q2, q3, q4⟩ := hm2 j (by omega); rw [q1, q2, q3, q4]; exact ⟨upd_n (by omega), upd_n (by omega), upd_n (by omega), upd_n (by omega)⟩), (fun j hj => by rw [hm3 j (by omega)]; exact pa_wr_b (by omega)), ⟨⟨by rw [g1]; exact upd_e, by rw [g2]; exact upd_e, hkw0, ce0, rs, by rw [g3]; exact upd_e, by rw [g4]; exact upd_e, by omega, fun i hi => ?_, hE⟩, hm4⟩⟩
          rw [hm3 _ (by omega), pa_wr_at (by rw [List.length_map]; exact hi), menc_at hi]
    · have e1 := e0
      show am_T _ _ _ [some (.ref 80), some (.int y1), some (.int y2)] _ (n, sl, wKK kk, (mrI (stI I r82 r83 r84 r85 r86) tk 0 (-1) 1 (nI ce0) dp op om od r87 r88 r89 r90 r91 r92 r93), (mwL L w), wQQ q) _
      refine tv_b (pc' := (if (tk 3) = 0 then 105 else 98)) (ls' := [some (.ref 80), some (.int y1), some (.int y2)]) (st' := []) (h' := (n, sl, wKK kk, (mrI (stI I r82 r83 r84 r85 r86) tk 0 (-1) 1 (nI ce0) dp op om od r87 r88 r89 r90 r91 r92 r93), (mwL L w), wQQ q)) 6 rfl ?_
      refine tv_t (hsg) ?_
      exact hN2 [] _ w (by rw [e1, if_neg hskn]) ⟨_, _, _, _, _, _, _, _, _, _, _, _, _, _, _, _, _, _, rfl, by show k + 0 ≤ 20; omega, h82, fun j hj => rfl, fun j hj => ⟨rfl, rfl, rfl, rfl⟩, fun j hj => rfl, trivial⟩
