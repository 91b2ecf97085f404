/-! THE CLASS'S READER: comparisons and facts; all levels -/
section RQ
variable {tx : Nat → Nat} {T : Nat}
theorem pa_bnd_as {r : pa_E} {f g : Nat → pa_E} : pa_bnd (pa_bnd r f) g = pa_bnd r (fun p => pa_bnd (f p) g) := by
  rcases r with e | ⟨p, cs⟩
  · rfl
  · show pa_bnd (match f p with
      | .inl e => .inl e
      | .inr (p', ds) => .inr (p', cs ++ ds)) g = (match pa_bnd (f p) g with
      | .inl e => .inl e
      | .inr (p', ds) => .inr (p', cs ++ ds))
    rcases f p with e | ⟨p2, c2⟩
    · rfl
    · show (match g p2 with
        | .inl e => .inl e
        | .inr (p', ds) => .inr (p', (cs ++ c2) ++ ds) : pa_E) = (match (match g p2 with
        | .inl e => .inl e
        | .inr (p', ds) => .inr (p', c2 ++ ds) : pa_E) with
        | .inl e => .inl e
        | .inr (p', ds) => .inr (p', cs ++ ds) : pa_E)
      rcases g p2 with e | ⟨p3, c3⟩
      · rfl
      · simp only [List.append_assoc]
theorem pa_ex_c1 {p : Nat} (h : pa_isC (pa_tk tx T p) = true) : pa_ex tx T (pa_isC (pa_tk tx T p)) p = pa_nx tx T p := by rw [h]; rfl
theorem pa_ex_c0 {p : Nat} (h1 : ¬ pa_tk tx T p = 26) (h2 : ¬ pa_tk tx T p = 27) (h3 : ¬ pa_tk tx T p = 28) : pa_ex tx T (pa_isC (pa_tk tx T p)) p = .inl (1, pa_sk tx T p) := by
  unfold pa_isC
  rw [pa_bfalse h1, pa_bfalse h2, pa_bfalse h3]
  rfl
theorem pa_cmp_lf {lev p p' : Nat} {cs : List Nat} (hq : ∀ p p' cs, pa_sum tx T lev p = .inr (p', cs) → pa_lf tx T p' = none ∧ p + cs.length ≤ p') (h : pa_cmp tx T lev p = .inr (p', cs)) : pa_lf tx T p' = none ∧ p + cs.length ≤ p' := by
  unfold pa_cmp at h
  obtain ⟨p1, c1, c2, h1, h2, e⟩ := pa_bnd_r h
  obtain ⟨p3, c3, c4, h3, h4, e2⟩ := pa_bnd_r h2
  obtain ⟨p5, c5, c6, h5, h6, e3⟩ := pa_bnd_r h4
  obtain ⟨a1, a2⟩ := pa_em_r h6
  obtain ⟨b1, b2⟩ := pa_ex_r h3
  obtain ⟨a3, a4⟩ := pa_nx_gt b2 (fun q => by rw [q] at b1; cases b1)
  have i1 := hq _ _ _ h1
  have i2 := hq _ _ _ h5
  rw [a1, e, e2, e3, a4, a2]
  exact ⟨i2.1, by simp only [List.nil_append, List.length_append, List.length_cons, List.length_nil]; omega⟩
def pa_fk (tx : Nat → Nat) (T lev : Nat) (inner : Nat → pa_E) (r : Sum (Nat × Nat) (Nat × Bool)) : pa_E := match r with
  | .inl e => .inl e
  | .inr (p1, z) => pa_bnd (pa_fact1 tx T lev inner p1) (fun p2 => cond z (pa_em 9 p2) (.inr (p2, [])))
theorem pa_nots_r {f p p' : Nat} {z z' : Bool} (h : pa_nots tx T f p z = .inr (p', z')) : p ≤ p' ∧ (z' = z ∨ p < p') := by
  induction f generalizing p z with
  | zero =>
    obtain ⟨rfl, rfl⟩ := Prod.mk.inj (Sum.inr.inj h)
    exact ⟨Nat.le_refl _, Or.inl rfl⟩
  | succ f ih =>
    have e1 : pa_nots tx T (f + 1) p z = if pa_tk tx T p = 9 then (match pa_nx tx T p with
      | .inl e => .inl e
      | .inr (p', _) => pa_nots tx T f p' (!z)) else .inr (p, z) := rfl
    rw [e1] at h
    by_cases c : pa_tk tx T p = 9
    · rw [if_pos c] at h
      cases hn : pa_nx tx T p with
      | inl e => rw [hn] at h; cases h
      | inr w =>
        obtain ⟨p1, c1⟩ := w
        rw [hn] at h
        have g := (pa_nx_gt hn (by omega)).1
        obtain ⟨i2, i3⟩ := ih h
        exact ⟨by omega, Or.inr (by omega)⟩
    · rw [if_neg c] at h
      obtain ⟨rfl, rfl⟩ := Prod.mk.inj (Sum.inr.inj h)
      exact ⟨Nat.le_refl _, Or.inl rfl⟩
theorem pa_fact1_lf {lev p p' : Nat} {inner : Nat → pa_E} {cs : List Nat} (hq : ∀ p p' cs, pa_sum tx T lev p = .inr (p', cs) → pa_lf tx T p' = none ∧ p + cs.length ≤ p') (hin : ∀ p p' cs, inner p = .inr (p', cs) → p + cs.length ≤ p') (h : pa_fact1 tx T lev inner p = .inr (p', cs)) : pa_lf tx T p' = none ∧ p + cs.length ≤ p' := by
  unfold pa_fact1 at h
  split at h
  · split at h
    · cases h
    · obtain ⟨p1, c1, c2, h1, h2, e⟩ := pa_bnd_r h
      obtain ⟨p3, c3, c4, h3, h4, e2⟩ := pa_bnd_r h2
      obtain ⟨a3, a4⟩ := pa_nx_gt h1 (by omega)
      obtain ⟨b1, b2⟩ := pa_ex_r h4
      obtain ⟨a5, a6⟩ := pa_nx_gt b2 (by rw [Nat.eq_of_beq_eq_true b1]; decide)
      have := hin _ _ _ h3
      rw [e, e2, a4, a6]
      exact ⟨pa_ex_lf h4, by simp only [List.nil_append, List.append_nil]; omega⟩
  split at h
  · rename_i ht
    obtain ⟨p1, c1, c2, h1, h2, e⟩ := pa_bnd_r h
    obtain ⟨a1, a2⟩ := pa_em_r h2
    obtain ⟨a3, a4⟩ := pa_nx_gt h1 (by omega)
    rw [a1, e, a2, a4]
    exact ⟨pa_nx_lf h1, a3⟩
  · exact pa_cmp_lf hq h
theorem pa_fact_lf {lev p p' : Nat} {inner : Nat → pa_E} {cs : List Nat} (hq : ∀ p p' cs, pa_sum tx T lev p = .inr (p', cs) → pa_lf tx T p' = none ∧ p + cs.length ≤ p') (hin : ∀ p p' cs, inner p = .inr (p', cs) → p + cs.length ≤ p') (h : pa_fact tx T lev inner p = .inr (p', cs)) : pa_lf tx T p' = none ∧ p + cs.length ≤ p' := by
  unfold pa_fact at h
  cases hn : pa_nots tx T 800 p false with
  | inl e => rw [hn] at h; cases h
  | inr w =>
    obtain ⟨p1, z⟩ := w
    rw [hn] at h
    obtain ⟨n2, n3⟩ := pa_nots_r hn
    obtain ⟨p3, c3, c4, h3, h4, e⟩ := pa_bnd_r h
    obtain ⟨f1, f2⟩ := pa_fact1_lf hq hin h3
    cases z with
    | false =>
      obtain ⟨rfl, rfl⟩ := Prod.mk.inj (Sum.inr.inj h4)
      rw [e]
      exact ⟨f1, by simp only [List.append_nil]; omega⟩
    | true =>
      obtain ⟨rfl, rfl⟩ := pa_em_r h4
      rw [e]
      refine ⟨f1, ?_⟩
      simp only [List.length_append, List.length_cons, List.length_nil]
      rcases n3 with n3 | n3
      · cases n3
      · omega
end RQ
set_option maxHeartbeats 4000000 in
theorem tv_r_comparison {n sl : Nat} {kk : Nat → Nat × Nat} {I : Nat → Nat → Int32} {L : Nat → Nat → Int64} {q : Nat → Nat → Option Nat} {tx : Nat → Nat} {T G : Nat} {lev o dp : Nat} (hH : rdG tx T G I) (hdp : 7 ≤ dp) (hI : rdC tx T G n sl kk I L q 75 4 dp o (pa_sum tx T lev)) (hlq : ∀ p p' cs, pa_sum tx T lev p = .inr (p', cs) → pa_lf tx T p' = none ∧ p + cs.length ≤ p') : rdC tx T G n sl kk I L q 74 3 (dp + 1) o (pa_cmp tx T lev) := by
  intro d p ce cd nm gn hd hp hce hnm hl0
  obtain ⟨d, rfl⟩ : ∃ e, d = e + 8 := ⟨d - 8, by omega⟩
  have hT := hH.2.1
  have ht0 := pa_tk_lt (b := tx) (n := T) p
  have hg0 := pa_edo (tx := tx) (T := T) p
  have hj0 := pa_ed_le (b := tx) (n := T) (p := p) hp
  have hlast : ∀ p' cs, pa_cmp tx T lev p = .inr (p', cs) → pa_lf tx T p' = none ∧ p + cs.length ≤ p' := fun p' cs h => pa_cmp_lf hlq h
  show am_T _ _ _ [some (.ref 57), some (.int (nI o)), none] _ (n, sl, wKK kk, (rdI I (nI (pa_sk tx T p)) (nI (pa_sk tx T p)) (nI (pa_tk tx T p)) nm gn 0 (-1) (nI ce) cd), L, wQQ q) _
  refine tv_b (pc' := 2) (ls' := [some (.ref 57), some (.int (nI o)), none]) (st' := [.int (nI o), .ref 57]) (h' := (n, sl, wKK kk, (rdI I (nI (pa_sk tx T p)) (nI (pa_sk tx T p)) (nI (pa_tk tx T p)) nm gn 0 (-1) (nI ce) cd), L, wQQ q)) 2 rfl ?_
  refine tv_cv [.int (nI o)] [] rfl rfl (by omega) rfl (Nat.le_of_ble_eq_true rfl) (Nat.le_of_ble_eq_true rfl) (Or.inr (Or.inr rfl)) (hI _ p _ _ _ _ (by omega) (by omega) (by omega) hnm hl0) ?_
  rintro rv9 h9 ⟨rfl, I9, rfl, ho, hlx⟩
  rcases rdO_c ho with ⟨k1, l1, s1, w1, m1, g1, f1, y1, c1, d1, hr1, hk1, hc1, rfl⟩ | ⟨p1, cs1, m1, g1, hr1, hp1, hn1, rfl⟩
  · refine tv_b (pc' := 34) (ls' := [some (.ref 57), some (.int (nI o)), some (.int 39)]) (st' := [.int 0, .ref 57]) (h' := (n, sl, wKK kk, (rdI I s1 w1 39 m1 g1 f1 y1 (nI c1) d1), L, wQQ q)) 14 rfl ?_
    refine tv_cvE [.int 0] [] rfl rfl (by omega) rfl (Nat.le_of_ble_eq_true rfl) (Nat.le_of_ble_eq_true rfl) (Or.inr (Or.inr rfl)) (ev_r_expectE hk1) ?_
    refine tv_b (pc' := 39) (ls' := [some (.ref 57), some (.int (nI o)), some (.int 39)]) (st' := [.int (nI o), .ref 57]) (h' := (n, sl, wKK kk, (rdI I s1 w1 39 m1 g1 (nI k1) (nI l1) (nI c1) d1), L, wQQ q)) 2 rfl ?_
    refine tv_cvE [.int (nI o)] [] rfl rfl (by omega) rfl (Nat.le_of_ble_eq_true rfl) (Nat.le_of_ble_eq_true rfl) (Or.inr (Or.inr rfl)) (ev_r_sumE (rd_F hk1)) ?_
    refine tv_b (pc' := 44) (ls' := [some (.ref 57), some (.int (nI o)), some (.int 39)]) (st' := [.int 39, .ref 57]) (h' := (n, sl, wKK kk, (rdI I s1 w1 39 m1 g1 (nI k1) (nI l1) (nI c1) d1), L, wQQ q)) 2 rfl ?_
    refine tv_cvE [.int 39] [] rfl rfl (by omega) rfl (Nat.le_of_ble_eq_true rfl) (Nat.le_of_ble_eq_true rfl) (Or.inr (Or.inr rfl)) (ev_r_emitF (rd_k (rd_F (rd_F hk1)))) ?_
    refine tv_rv rfl ⟨rfl, _, rfl, ?_, hlast⟩
    unfold pa_cmp
    first | exact rdO_bl (hr1) (rdO_F (hr1) ⟨(rd_F (rd_F hk1)), by omega⟩ rfl) | exact rdO_F (hr1) ⟨(rd_F (rd_F hk1)), by omega⟩ rfl
  · have ht1 := pa_tk_lt (b := tx) (n := T) p1
    have hg1 := pa_edo (tx := tx) (T := T) p1
    obtain ⟨hl1, hv1⟩ := hlx _ _ hr1
    have hj1 := pa_ed_le (b := tx) (n := T) (p := p1) hp1.1
    refine tv_b (pc' := (if (nI (pa_tk tx T p1)) = 26 then 29 else 17)) (ls' := [some (.ref 57), some (.int (nI o)), some (.int (nI (pa_tk tx T p1)))]) (st' := [.ref 57]) (h' := (n, sl, wKK kk, (rdI I (nI (pa_sk tx T p1)) (nI (pa_sk tx T p1)) (nI (pa_tk tx T p1)) m1 g1 0 (-1) (nI (ce + cs1.length)) (pa_wr cd ce cs1)), L, wQQ q)) 7 rfl ?_
    refine tv_ifq (nI_eq (a := (pa_tk tx T p1)) (b := 26) (by omega) (by omega)) (fun c14 => ?_) (fun c14 => ?_)
    · refine tv_b (pc' := 34) (ls' := [some (.ref 57), some (.int (nI o)), some (.int (nI (pa_tk tx T p1)))]) (st' := [.int 1, .ref 57]) (h' := (n, sl, wKK kk, (rdI I (nI (pa_sk tx T p1)) (nI (pa_sk tx T p1)) (nI (pa_tk tx T p1)) m1 g1 0 (-1) (nI (ce + cs1.length)) (pa_wr cd ce cs1)), L, wQQ q)) 2 rfl ?_
      refine tv_cv [.int 1] [] rfl rfl (by omega) rfl (Nat.le_of_ble_eq_true rfl) (Nat.le_of_ble_eq_true rfl) (Or.inr (Or.inr rfl)) (tv_r_ex1 hH (by omega) (by omega) hn1) ?_
      rintro rv9 h9 ⟨rfl, I9, rfl, ho, hlx⟩
      rcases rdO_c ho with ⟨k2, l2, s2, w2, m2, g2, f2, y2, c2, d2, hr2, hk2, hc2, rfl⟩ | ⟨p2, cs2, m2, g2, hr2, hp2, hn2, rfl⟩
      · refine tv_b (pc' := 39) (ls' := [some (.ref 57), some (.int (nI o)), some (.int (nI (pa_tk tx T p1)))]) (st' := [.int (nI o), .ref 57]) (h' := (n, sl, wKK kk, (rdI I s2 w2 39 m2 g2 f2 y2 (nI c2) d2), L, wQQ q)) 2 rfl ?_
        refine tv_cvE [.int (nI o)] [] rfl rfl (by omega) rfl (Nat.le_of_ble_eq_true rfl) (Nat.le_of_ble_eq_true rfl) (Or.inr (Or.inr rfl)) (ev_r_sumE hk2) ?_
        refine tv_b (pc' := 44) (ls' := [some (.ref 57), some (.int (nI o)), some (.int (nI (pa_tk tx T p1)))]) (st' := [.int (nI (pa_tk tx T p1)), .ref 57]) (h' := (n, sl, wKK kk, (rdI I s2 w2 39 m2 g2 (nI k2) (nI l2) (nI c2) d2), L, wQQ q)) 2 rfl ?_
        refine tv_cvE [.int (nI (pa_tk tx T p1))] [] rfl rfl (by omega) rfl (Nat.le_of_ble_eq_true rfl) (Nat.le_of_ble_eq_true rfl) (Or.inr (Or.inr rfl)) (ev_r_emitF (rd_k (rd_F hk2))) ?_
        refine tv_rv rfl ⟨rfl, _, rfl, ?_, hlast⟩
        unfold pa_cmp
        refine rdO_b (hr1) ?_
        try dsimp only
        first | exact rdO_bl ((pa_ex_c1 (by rw [c14]; rfl)).trans hr2) (rdO_F ((pa_ex_c1 (by rw [c14]; rfl)).trans hr2) ⟨(rd_F hk2), by omega⟩ rfl) | exact rdO_F ((pa_ex_c1 (by rw [c14]; rfl)).trans hr2) ⟨(rd_F hk2), by omega⟩ rfl
      · have ht2 := pa_tk_lt (b := tx) (n := T) p2
        have hg2 := pa_edo (tx := tx) (T := T) p2
        obtain ⟨hl2, hv2⟩ := hlx _ _ hr2
        have hj2 := pa_ed_le (b := tx) (n := T) (p := p2) hp2.1
        obtain ⟨hq2, hz2⟩ := pa_nx_r hr2
        have hy2 : cs2.length = 0 := by rw [hz2]; rfl
        refine tv_b (pc' := 39) (ls' := [some (.ref 57), some (.int (nI o)), some (.int (nI (pa_tk tx T p1)))]) (st' := [.int (nI o), .ref 57]) (h' := (n, sl, wKK kk, (rdI I (nI (pa_sk tx T p2)) (nI (pa_sk tx T p2)) (nI (pa_tk tx T p2)) m2 g2 0 (-1) (nI (ce + cs1.length + cs2.length)) (pa_wr (pa_wr cd ce cs1) (ce + cs1.length) cs2)), L, wQQ q)) 2 rfl ?_
        refine tv_cv [.int (nI o)] [] rfl rfl (by omega) rfl (Nat.le_of_ble_eq_true rfl) (Nat.le_of_ble_eq_true rfl) (Or.inr (Or.inr rfl)) (hI _ p2 _ _ _ _ (by omega) (by omega) (by omega) hn2 hl2) ?_
        rintro rv9 h9 ⟨rfl, I9, rfl, ho, hlx⟩
        rcases rdO_c ho with ⟨k3, l3, s3, w3, m3, g3, f3, y3, c3, d3, hr3, hk3, hc3, rfl⟩ | ⟨p3, cs3, m3, g3, hr3, hp3, hn3, rfl⟩
        · refine tv_b (pc' := 44) (ls' := [some (.ref 57), some (.int (nI o)), some (.int (nI (pa_tk tx T p1)))]) (st' := [.int (nI (pa_tk tx T p1)), .ref 57]) (h' := (n, sl, wKK kk, (rdI I s3 w3 39 m3 g3 f3 y3 (nI c3) d3), L, wQQ q)) 2 rfl ?_
          refine tv_cv [.int (nI (pa_tk tx T p1))] [] rfl rfl (by omega) rfl (Nat.le_of_ble_eq_true rfl) (Nat.le_of_ble_eq_true rfl) (Or.inr (Or.inr rfl)) (tv_r_emitE hk3 (by omega)) ?_
          rintro rv9 h9 ⟨rfl, e15, b15, hb15, rfl⟩
          refine tv_rv rfl ⟨rfl, _, rfl, ?_, hlast⟩
          unfold pa_cmp
          refine rdO_b (hr1) ?_
          try dsimp only
          refine rdO_b ((pa_ex_c1 (by rw [c14]; rfl)).trans hr2) ?_
          try dsimp only
          first | exact rdO_bl (hr3) (rdO_F (hr3) ⟨hk3, by omega⟩ rfl) | exact rdO_F (hr3) ⟨hk3, by omega⟩ rfl
        · have ht3 := pa_tk_lt (b := tx) (n := T) p3
          have hg3 := pa_edo (tx := tx) (T := T) p3
          obtain ⟨hl3, hv3⟩ := hlx _ _ hr3
          have hj3 := pa_ed_le (b := tx) (n := T) (p := p3) hp3.1
          refine tv_b (pc' := 44) (ls' := [some (.ref 57), some (.int (nI o)), some (.int (nI (pa_tk tx T p1)))]) (st' := [.int (nI (pa_tk tx T p1)), .ref 57]) (h' := (n, sl, wKK kk, (rdI I (nI (pa_sk tx T p3)) (nI (pa_sk tx T p3)) (nI (pa_tk tx T p3)) m3 g3 0 (-1) (nI (ce + cs1.length + cs2.length + cs3.length)) (pa_wr (pa_wr (pa_wr cd ce cs1) (ce + cs1.length) cs2) (ce + cs1.length + cs2.length) cs3)), L, wQQ q)) 2 rfl ?_
          refine tv_cvE [.int (nI (pa_tk tx T p1))] [] rfl rfl (by omega) rfl (Nat.le_of_ble_eq_true rfl) (Nat.le_of_ble_eq_true rfl) (Or.inr (Or.inr rfl)) (ev_r_emit (by omega)) ?_
          refine tv_rv rfl ⟨rfl, _, rfl, ?_, hlast⟩
          unfold pa_cmp
          refine rdO_b (hr1) ?_
          try dsimp only
          refine rdO_b ((pa_ex_c1 (by rw [c14]; rfl)).trans hr2) ?_
          try dsimp only
          refine rdO_b (hr3) ?_
          try dsimp only
          exact rdO_em ⟨by omega, by omega⟩ hn3 rfl
    · refine tv_b (pc' := (if (nI (pa_tk tx T p1)) = 27 then 29 else 23)) (ls' := [some (.ref 57), some (.int (nI o)), some (.int (nI (pa_tk tx T p1)))]) (st' := [.ref 57]) (h' := (n, sl, wKK kk, (rdI I (nI (pa_sk tx T p1)) (nI (pa_sk tx T p1)) (nI (pa_tk tx T p1)) m1 g1 0 (-1) (nI (ce + cs1.length)) (pa_wr cd ce cs1)), L, wQQ q)) 3 rfl ?_
      refine tv_ifq (nI_eq (a := (pa_tk tx T p1)) (b := 27) (by omega) (by omega)) (fun c20 => ?_) (fun c20 => ?_)
      · refine tv_b (pc' := 34) (ls' := [some (.ref 57), some (.int (nI o)), some (.int (nI (pa_tk tx T p1)))]) (st' := [.int 1, .ref 57]) (h' := (n, sl, wKK kk, (rdI I (nI (pa_sk tx T p1)) (nI (pa_sk tx T p1)) (nI (pa_tk tx T p1)) m1 g1 0 (-1) (nI (ce + cs1.length)) (pa_wr cd ce cs1)), L, wQQ q)) 2 rfl ?_
        refine tv_cv [.int 1] [] rfl rfl (by omega) rfl (Nat.le_of_ble_eq_true rfl) (Nat.le_of_ble_eq_true rfl) (Or.inr (Or.inr rfl)) (tv_r_ex1 hH (by omega) (by omega) hn1) ?_
        rintro rv9 h9 ⟨rfl, I9, rfl, ho, hlx⟩
        rcases rdO_c ho with ⟨k4, l4, s4, w4, m4, g4, f4, y4, c4, d4, hr4, hk4, hc4, rfl⟩ | ⟨p4, cs4, m4, g4, hr4, hp4, hn4, rfl⟩
        · refine tv_b (pc' := 39) (ls' := [some (.ref 57), some (.int (nI o)), some (.int (nI (pa_tk tx T p1)))]) (st' := [.int (nI o), .ref 57]) (h' := (n, sl, wKK kk, (rdI I s4 w4 39 m4 g4 f4 y4 (nI c4) d4), L, wQQ q)) 2 rfl ?_
          refine tv_cvE [.int (nI o)] [] rfl rfl (by omega) rfl (Nat.le_of_ble_eq_true rfl) (Nat.le_of_ble_eq_true rfl) (Or.inr (Or.inr rfl)) (ev_r_sumE hk4) ?_
          refine tv_b (pc' := 44) (ls' := [some (.ref 57), some (.int (nI o)), some (.int (nI (pa_tk tx T p1)))]) (st' := [.int (nI (pa_tk tx T p1)), .ref 57]) (h' := (n, sl, wKK kk, (rdI I s4 w4 39 m4 g4 (nI k4) (nI l4) (nI c4) d4), L, wQQ q)) 2 rfl ?_
          refine tv_cvE [.int (nI (pa_tk tx T p1))] [] rfl rfl (by omega) rfl (Nat.le_of_ble_eq_true rfl) (Nat.le_of_ble_eq_true rfl) (Or.inr (Or.inr rfl)) (ev_r_emitF (rd_k (rd_F hk4))) ?_
          refine tv_rv rfl ⟨rfl, _, rfl, ?_, hlast⟩
          unfold pa_cmp
          refine rdO_b (hr1) ?_
          try dsimp only
          first | exact rdO_bl ((pa_ex_c1 (by rw [c20]; rfl)).trans hr4) (rdO_F ((pa_ex_c1 (by rw [c20]; rfl)).trans hr4) ⟨(rd_F hk4), by omega⟩ rfl) | exact rdO_F ((pa_ex_c1 (by rw [c20]; rfl)).trans hr4) ⟨(rd_F hk4), by omega⟩ rfl
        · have ht4 := pa_tk_lt (b := tx) (n := T) p4
          have hg4 := pa_edo (tx := tx) (T := T) p4
          obtain ⟨hl4, hv4⟩ := hlx _ _ hr4
          have hj4 := pa_ed_le (b := tx) (n := T) (p := p4) hp4.1
          obtain ⟨hq4, hz4⟩ := pa_nx_r hr4
          have hy4 : cs4.length = 0 := by rw [hz4]; rfl
          refine tv_b (pc' := 39) (ls' := [some (.ref 57), some (.int (nI o)), some (.int (nI (pa_tk tx T p1)))]) (st' := [.int (nI o), .ref 57]) (h' := (n, sl, wKK kk, (rdI I (nI (pa_sk tx T p4)) (nI (pa_sk tx T p4)) (nI (pa_tk tx T p4)) m4 g4 0 (-1) (nI (ce + cs1.length + cs4.length)) (pa_wr (pa_wr cd ce cs1) (ce + cs1.length) cs4)), L, wQQ q)) 2 rfl ?_
          refine tv_cv [.int (nI o)] [] rfl rfl (by omega) rfl (Nat.le_of_ble_eq_true rfl) (Nat.le_of_ble_eq_true rfl) (Or.inr (Or.inr rfl)) (hI _ p4 _ _ _ _ (by omega) (by omega) (by omega) hn4 hl4) ?_
          rintro rv9 h9 ⟨rfl, I9, rfl, ho, hlx⟩
          rcases rdO_c ho with ⟨k5, l5, s5, w5, m5, g5, f5, y5, c5, d5, hr5, hk5, hc5, rfl⟩ | ⟨p5, cs5, m5, g5, hr5, hp5, hn5, rfl⟩
          · refine tv_b (pc' := 44) (ls' := [some (.ref 57), some (.int (nI o)), some (.int (nI (pa_tk tx T p1)))]) (st' := [.int (nI (pa_tk tx T p1)), .ref 57]) (h' := (n, sl, wKK kk, (rdI I s5 w5 39 m5 g5 f5 y5 (nI c5) d5), L, wQQ q)) 2 rfl ?_
            refine tv_cv [.int (nI (pa_tk tx T p1))] [] rfl rfl (by omega) rfl (Nat.le_of_ble_eq_true rfl) (Nat.le_of_ble_eq_true rfl) (Or.inr (Or.inr rfl)) (tv_r_emitE hk5 (by omega)) ?_
            rintro rv9 h9 ⟨rfl, e16, b16, hb16, rfl⟩
            refine tv_rv rfl ⟨rfl, _, rfl, ?_, hlast⟩
            unfold pa_cmp
            refine rdO_b (hr1) ?_
            try dsimp only
            refine rdO_b ((pa_ex_c1 (by rw [c20]; rfl)).trans hr4) ?_
            try dsimp only
            first | exact rdO_bl (hr5) (rdO_F (hr5) ⟨hk5, by omega⟩ rfl) | exact rdO_F (hr5) ⟨hk5, by omega⟩ rfl
          · have ht5 := pa_tk_lt (b := tx) (n := T) p5
            have hg5 := pa_edo (tx := tx) (T := T) p5
            obtain ⟨hl5, hv5⟩ := hlx _ _ hr5
            have hj5 := pa_ed_le (b := tx) (n := T) (p := p5) hp5.1
            refine tv_b (pc' := 44) (ls' := [some (.ref 57), some (.int (nI o)), some (.int (nI (pa_tk tx T p1)))]) (st' := [.int (nI (pa_tk tx T p1)), .ref 57]) (h' := (n, sl, wKK kk, (rdI I (nI (pa_sk tx T p5)) (nI (pa_sk tx T p5)) (nI (pa_tk tx T p5)) m5 g5 0 (-1) (nI (ce + cs1.length + cs4.length + cs5.length)) (pa_wr (pa_wr (pa_wr cd ce cs1) (ce + cs1.length) cs4) (ce + cs1.length + cs4.length) cs5)), L, wQQ q)) 2 rfl ?_
            refine tv_cvE [.int (nI (pa_tk tx T p1))] [] rfl rfl (by omega) rfl (Nat.le_of_ble_eq_true rfl) (Nat.le_of_ble_eq_true rfl) (Or.inr (Or.inr rfl)) (ev_r_emit (by omega)) ?_
            refine tv_rv rfl ⟨rfl, _, rfl, ?_, hlast⟩
            unfold pa_cmp
            refine rdO_b (hr1) ?_
            try dsimp only
            refine rdO_b ((pa_ex_c1 (by rw [c20]; rfl)).trans hr4) ?_
            try dsimp only
            refine rdO_b (hr5) ?_
            try dsimp only
            exact rdO_em ⟨by omega, by omega⟩ hn5 rfl
      · refine tv_b (pc' := (if (nI (pa_tk tx T p1)) = 28 then 29 else 33)) (ls' := [some (.ref 57), some (.int (nI o)), some (.int (nI (pa_tk tx T p1)))]) (st' := [.ref 57]) (h' := (n, sl, wKK kk, (rdI I (nI (pa_sk tx T p1)) (nI (pa_sk tx T p1)) (nI (pa_tk tx T p1)) m1 g1 0 (-1) (nI (ce + cs1.length)) (pa_wr cd ce cs1)), L, wQQ q)) 3 rfl ?_
        refine tv_ifq (nI_eq (a := (pa_tk tx T p1)) (b := 28) (by omega) (by omega)) (fun c26 => ?_) (fun c26 => ?_)
        · refine tv_b (pc' := 34) (ls' := [some (.ref 57), some (.int (nI o)), some (.int (nI (pa_tk tx T p1)))]) (st' := [.int 1, .ref 57]) (h' := (n, sl, wKK kk, (rdI I (nI (pa_sk tx T p1)) (nI (pa_sk tx T p1)) (nI (pa_tk tx T p1)) m1 g1 0 (-1) (nI (ce + cs1.length)) (pa_wr cd ce cs1)), L, wQQ q)) 2 rfl ?_
          refine tv_cv [.int 1] [] rfl rfl (by omega) rfl (Nat.le_of_ble_eq_true rfl) (Nat.le_of_ble_eq_true rfl) (Or.inr (Or.inr rfl)) (tv_r_ex1 hH (by omega) (by omega) hn1) ?_
          rintro rv9 h9 ⟨rfl, I9, rfl, ho, hlx⟩
          rcases rdO_c ho with ⟨k6, l6, s6, w6, m6, g6, f6, y6, c6, d6, hr6, hk6, hc6, rfl⟩ | ⟨p6, cs6, m6, g6, hr6, hp6, hn6, rfl⟩
          · refine tv_b (pc' := 39) (ls' := [some (.ref 57), some (.int (nI o)), some (.int (nI (pa_tk tx T p1)))]) (st' := [.int (nI o), .ref 57]) (h' := (n, sl, wKK kk, (rdI I s6 w6 39 m6 g6 f6 y6 (nI c6) d6), L, wQQ q)) 2 rfl ?_
            refine tv_cvE [.int (nI o)] [] rfl rfl (by omega) rfl (Nat.le_of_ble_eq_true rfl) (Nat.le_of_ble_eq_true rfl) (Or.inr (Or.inr rfl)) (ev_r_sumE hk6) ?_
            refine tv_b (pc' := 44) (ls' := [some (.ref 57), some (.int (nI o)), some (.int (nI (pa_tk tx T p1)))]) (st' := [.int (nI (pa_tk tx T p1)), .ref 57]) (h' := (n, sl, wKK kk, (rdI I s6 w6 39 m6 g6 (nI k6) (nI l6) (nI c6) d6), L, wQQ q)) 2 rfl ?_
            refine tv_cvE [.int (nI (pa_tk tx T p1))] [] rfl rfl (by omega) rfl (Nat.le_of_ble_eq_true rfl) (Nat.le_of_ble_eq_true rfl) (Or.inr (Or.inr rfl)) (ev_r_emitF (rd_k (rd_F hk6))) ?_
            refine tv_rv rfl ⟨rfl, _, rfl, ?_, hlast⟩
            unfold pa_cmp
            refine rdO_b (hr1) ?_
            try dsimp only
            first | exact rdO_bl ((pa_ex_c1 (by rw [c26]; rfl)).trans hr6) (rdO_F ((pa_ex_c1 (by rw [c26]; rfl)).trans hr6) ⟨(rd_F hk6), by omega⟩ rfl) | exact rdO_F ((pa_ex_c1 (by rw [c26]; rfl)).trans hr6) ⟨(rd_F hk6), by omega⟩ rfl
          · have ht6 := pa_tk_lt (b := tx) (n := T) p6
            have hg6 := pa_edo (tx := tx) (T := T) p6
            obtain ⟨hl6, hv6⟩ := hlx _ _ hr6
            have hj6 := pa_ed_le (b := tx) (n := T) (p := p6) hp6.1
            obtain ⟨hq6, hz6⟩ := pa_nx_r hr6
            have hy6 : cs6.length = 0 := by rw [hz6]; rfl
            refine tv_b (pc' := 39) (ls' := [some (.ref 57), some (.int (nI o)), some (.int (nI (pa_tk tx T p1)))]) (st' := [.int (nI o), .ref 57]) (h' := (n, sl, wKK kk, (rdI I (nI (pa_sk tx T p6)) (nI (pa_sk tx T p6)) (nI (pa_tk tx T p6)) m6 g6 0 (-1) (nI (ce + cs1.length + cs6.length)) (pa_wr (pa_wr cd ce cs1) (ce + cs1.length) cs6)), L, wQQ q)) 2 rfl ?_
            refine tv_cv [.int (nI o)] [] rfl rfl (by omega) rfl (Nat.le_of_ble_eq_true rfl) (Nat.le_of_ble_eq_true rfl) (Or.inr (Or.inr rfl)) (hI _ p6 _ _ _ _ (by omega) (by omega) (by omega) hn6 hl6) ?_
            rintro rv9 h9 ⟨rfl, I9, rfl, ho, hlx⟩
            rcases rdO_c ho with ⟨k7, l7, s7, w7, m7, g7, f7, y7, c7, d7, hr7, hk7, hc7, rfl⟩ | ⟨p7, cs7, m7, g7, hr7, hp7, hn7, rfl⟩
            · refine tv_b (pc' := 44) (ls' := [some (.ref 57), some (.int (nI o)), some (.int (nI (pa_tk tx T p1)))]) (st' := [.int (nI (pa_tk tx T p1)), .ref 57]) (h' := (n, sl, wKK kk, (rdI I s7 w7 39 m7 g7 f7 y7 (nI c7) d7), L, wQQ q)) 2 rfl ?_
              refine tv_cv [.int (nI (pa_tk tx T p1))] [] rfl rfl (by omega) rfl (Nat.le_of_ble_eq_true rfl) (Nat.le_of_ble_eq_true rfl) (Or.inr (Or.inr rfl)) (tv_r_emitE hk7 (by omega)) ?_
              rintro rv9 h9 ⟨rfl, e17, b17, hb17, rfl⟩
              refine tv_rv rfl ⟨rfl, _, rfl, ?_, hlast⟩
              unfold pa_cmp
              refine rdO_b (hr1) ?_
              try dsimp only
              refine rdO_b ((pa_ex_c1 (by rw [c26]; rfl)).trans hr6) ?_
              try dsimp only
              first | exact rdO_bl (hr7) (rdO_F (hr7) ⟨hk7, by omega⟩ rfl) | exact rdO_F (hr7) ⟨hk7, by omega⟩ rfl
            · have ht7 := pa_tk_lt (b := tx) (n := T) p7
              have hg7 := pa_edo (tx := tx) (T := T) p7
              obtain ⟨hl7, hv7⟩ := hlx _ _ hr7
              have hj7 := pa_ed_le (b := tx) (n := T) (p := p7) hp7.1
              refine tv_b (pc' := 44) (ls' := [some (.ref 57), some (.int (nI o)), some (.int (nI (pa_tk tx T p1)))]) (st' := [.int (nI (pa_tk tx T p1)), .ref 57]) (h' := (n, sl, wKK kk, (rdI I (nI (pa_sk tx T p7)) (nI (pa_sk tx T p7)) (nI (pa_tk tx T p7)) m7 g7 0 (-1) (nI (ce + cs1.length + cs6.length + cs7.length)) (pa_wr (pa_wr (pa_wr cd ce cs1) (ce + cs1.length) cs6) (ce + cs1.length + cs6.length) cs7)), L, wQQ q)) 2 rfl ?_
              refine tv_cvE [.int (nI (pa_tk tx T p1))] [] rfl rfl (by omega) rfl (Nat.le_of_ble_eq_true rfl) (Nat.le_of_ble_eq_true rfl) (Or.inr (Or.inr rfl)) (ev_r_emit (by omega)) ?_
              refine tv_rv rfl ⟨rfl, _, rfl, ?_, hlast⟩
              unfold pa_cmp
              refine rdO_b (hr1) ?_
              try dsimp only
              refine rdO_b ((pa_ex_c1 (by rw [c26]; rfl)).trans hr6) ?_
              try dsimp only
              refine rdO_b (hr7) ?_
              try dsimp only
              exact rdO_em ⟨by omega, by omega⟩ hn7 rfl
        · refine tv_b (pc' := 34) (ls' := [some (.ref 57), some (.int (nI o)), some (.int (nI (pa_tk tx T p1)))]) (st' := [.int 0, .ref 57]) (h' := (n, sl, wKK kk, (rdI I (nI (pa_sk tx T p1)) (nI (pa_sk tx T p1)) (nI (pa_tk tx T p1)) m1 g1 0 (-1) (nI (ce + cs1.length)) (pa_wr cd ce cs1)), L, wQQ q)) 1 rfl ?_
          refine tv_cvE [.int 0] [] rfl rfl (by omega) rfl (Nat.le_of_ble_eq_true rfl) (Nat.le_of_ble_eq_true rfl) (Or.inr (Or.inr rfl)) (ev_r_ex0) ?_
          refine tv_b (pc' := 39) (ls' := [some (.ref 57), some (.int (nI o)), some (.int (nI (pa_tk tx T p1)))]) (st' := [.int (nI o), .ref 57]) (h' := (n, sl, wKK kk, (rdI I (nI (pa_sk tx T p1)) (nI (pa_sk tx T p1)) 39 m1 g1 1 (nI (pa_sk tx T p1)) (nI (ce + cs1.length)) (pa_wr cd ce cs1)), L, wQQ q)) 2 rfl ?_
          refine tv_cvE [.int (nI o)] [] rfl rfl (by omega) rfl (Nat.le_of_ble_eq_true rfl) (Nat.le_of_ble_eq_true rfl) (Or.inr (Or.inr rfl)) (ev_r_sumE (rd_L (k := 1) (l := pa_sk tx T p1) (w := nI (pa_sk tx T p1)) (xf := 1) (by decide) rfl)) ?_
          refine tv_b (pc' := 44) (ls' := [some (.ref 57), some (.int (nI o)), some (.int (nI (pa_tk tx T p1)))]) (st' := [.int (nI (pa_tk tx T p1)), .ref 57]) (h' := (n, sl, wKK kk, (rdI I (nI (pa_sk tx T p1)) (nI (pa_sk tx T p1)) 39 m1 g1 (nI 1) (nI (pa_sk tx T p1)) (nI (ce + cs1.length)) (pa_wr cd ce cs1)), L, wQQ q)) 2 rfl ?_
          refine tv_cvE [.int (nI (pa_tk tx T p1))] [] rfl rfl (by omega) rfl (Nat.le_of_ble_eq_true rfl) (Nat.le_of_ble_eq_true rfl) (Or.inr (Or.inr rfl)) (ev_r_emitF (rd_k (rd_F (rd_L (k := 1) (l := pa_sk tx T p1) (w := nI (pa_sk tx T p1)) (xf := 1) (by decide) rfl)))) ?_
          refine tv_rv rfl ⟨rfl, _, rfl, ?_, hlast⟩
          unfold pa_cmp
          refine rdO_b (hr1) ?_
          try dsimp only
          first | exact rdO_F ((pa_ex_c0 c14 c20 c26)) ⟨(rd_F (rd_L (k := 1) (l := pa_sk tx T p1) (w := nI (pa_sk tx T p1)) (xf := 1) (by decide) rfl)), by omega⟩ rfl | exact rdO_bl ((pa_ex_c0 c14 c20 c26)) (rdO_F ((pa_ex_c0 c14 c20 c26)) ⟨(rd_F (rd_L (k := 1) (l := pa_sk tx T p1) (w := nI (pa_sk tx T p1)) (xf := 1) (by decide) rfl)), by omega⟩ rfl)
set_option maxHeartbeats 4000000 in
theorem tv_r_fact {n sl : Nat} {kk : Nat → Nat × Nat} {I : Nat → Nat → Int32} {L : Nat → Nat → Int64} {q : Nat → Nat → Option Nat} {tx : Nat → Nat} {T G : Nat} {lev o dp : Nat} {inner : Nat → pa_E} (hH : rdG tx T G I) (ho : o + lev = 8) (hdp : 8 ≤ dp) (hC : rdC tx T G n sl kk I L q 74 3 dp o (pa_cmp tx T lev)) (hI : 0 < lev → rdC tx T G n sl kk I L q 71 3 dp (o + 1) inner) (hlq : ∀ p p' cs, pa_sum tx T lev p = .inr (p', cs) → pa_lf tx T p' = none ∧ p + cs.length ≤ p') (hin : ∀ p p' cs, inner p = .inr (p', cs) → p + cs.length ≤ p') : rdC tx T G n sl kk I L q 73 4 (dp + 1) o (pa_fact tx T lev inner) := by
  intro d p ce cd nm gn hd hp hce hnm hl0
  obtain ⟨d, rfl⟩ : ∃ e, d = e + 9 := ⟨d - 9, by omega⟩
  have hT := hH.2.1
  have ht0 := pa_tk_lt (b := tx) (n := T) p
  have hg0 := pa_edo (tx := tx) (T := T) p
  have hj0 := pa_ed_le (b := tx) (n := T) (p := p) hp
  have hlast : ∀ p' cs, pa_fact tx T lev inner p = .inr (p', cs) → pa_lf tx T p' = none ∧ p + cs.length ≤ p' := fun p' cs h => pa_fact_lf hlq hin h
  have tailfalse : ∀ (p ce : Nat) (cd : Nat → Int32) (nm gn x3 : Int32), p ≤ T → ce + 0 ≤ p → rdQ tx T G p nm gn → pa_lf tx T p = none → am_T (d + 9) 73 40 [some (.ref 57), some (.int (nI o)), some (.int 0), some (.int x3)] [] (n, sl, wKK kk, rdT tx T I p nm gn ce cd, L, wQQ q) (fun rv h' => rv = none ∧ ∃ I', h' = (n, sl, wKK kk, I', L, wQQ q) ∧ rdO tx T G (pa_bnd (pa_fact1 tx T lev inner p) (fun p2 => cond false (pa_em 9 p2) (.inr (p2, [])))) ce cd I I') := by
    intro p ce cd nm gn x3 hp hce hnm hl0
    have ht0 := pa_tk_lt (b := tx) (n := T) p
    have hg0 := pa_edo (tx := tx) (T := T) p
    have hj0 := pa_ed_le (b := tx) (n := T) (p := p) hp
    by_cases hz : lev = 0
    · show am_T _ _ _ [some (.ref 57), some (.int (nI o)), some (.int 0), some (.int x3)] _ (n, sl, wKK kk, (rdI I (nI (pa_sk tx T p)) (nI (pa_sk tx T p)) (nI (pa_tk tx T p)) nm gn 0 (-1) (nI ce) cd), L, wQQ q) _
      refine tv_b (pc' := (if (nI (pa_tk tx T p)) = 34 then 49 else 87)) (ls' := [some (.ref 57), some (.int (nI o)), some (.int 0), some (.int x3)]) (st' := []) (h' := (n, sl, wKK kk, (rdI I (nI (pa_sk tx T p)) (nI (pa_sk tx T p)) (nI (pa_tk tx T p)) nm gn 0 (-1) (nI ce) cd), L, wQQ q)) 4 rfl ?_
      refine tv_ifq (nI_eq (a := (pa_tk tx T p)) (b := 34) (by omega) (by omega)) (fun c46 => ?_) (fun c46 => ?_)
      · refine tv_b (pc' := 53) (ls' := [some (.ref 57), some (.int (nI o)), some (.int 0), some (.int x3)]) (st' := [.int (nI o), .int 34, .ref 57]) (h' := (n, sl, wKK kk, (rdI I (nI (pa_sk tx T p)) (nI (pa_sk tx T p)) (nI (pa_tk tx T p)) nm gn 0 (-1) (nI ce) cd), L, wQQ q)) 3 rfl ?_
        refine tv_cvE [.int 34, .int (nI o)] [] rfl rfl (by omega) rfl (Nat.le_of_ble_eq_true rfl) (Nat.le_of_ble_eq_true rfl) (Or.inr (Or.inr rfl)) (ev_r_op5_34 c46 (by omega) (by omega)) ?_
        refine tv_b (pc' := 124) (ls' := [some (.ref 57), some (.int (nI o)), some (.int 0), some (.int x3)]) (st' := []) (h' := (n, sl, wKK kk, (rdI I (nI (pa_sk tx T p)) (nI (pa_sk tx T p)) 39 nm gn 5 (nI (pa_sk tx T p)) (nI ce) cd), L, wQQ q)) 3 rfl ?_
        refine tv_rv rfl ⟨rfl, _, rfl, ?_⟩
        unfold pa_fact1
        rw [if_pos c46, if_pos hz]
        exact rdO_bl rfl (rdO_F rfl ⟨(rd_L (k := 5) (l := pa_sk tx T p) (w := nI (pa_sk tx T p)) (xf := 5) (by decide) rfl), by omega⟩ rfl)
      · refine tv_b (pc' := (if (nI (pa_tk tx T p)) = 10 then 96 else 109)) (ls' := [some (.ref 57), some (.int (nI o)), some (.int 0), some (.int x3)]) (st' := []) (h' := (n, sl, wKK kk, (rdI I (nI (pa_sk tx T p)) (nI (pa_sk tx T p)) (nI (pa_tk tx T p)) nm gn 0 (-1) (nI ce) cd), L, wQQ q)) 4 rfl ?_
        refine tv_ifq (nI_eq (a := (pa_tk tx T p)) (b := 10) (by omega) (by omega)) (fun c93 => ?_) (fun c93 => ?_)
        · refine tv_b (pc' := 99) (ls' := [some (.ref 57), some (.int (nI o)), some (.int 0), some (.int x3)]) (st' := [.int 10, .ref 57]) (h' := (n, sl, wKK kk, (rdI I (nI (pa_sk tx T p)) (nI (pa_sk tx T p)) (nI (pa_tk tx T p)) nm gn 0 (-1) (nI ce) cd), L, wQQ q)) 2 rfl ?_
          refine tv_cvE [.int 10] [] rfl rfl (by omega) rfl (Nat.le_of_ble_eq_true rfl) (Nat.le_of_ble_eq_true rfl) (Or.inr (Or.inr rfl)) (ev_r_emit (by omega)) ?_
          refine tv_b (pc' := 103) (ls' := [some (.ref 57), some (.int (nI o)), some (.int 0), some (.int x3)]) (st' := [.ref 57]) (h' := (n, sl, wKK kk, (rdI I (nI (pa_sk tx T p)) (nI (pa_sk tx T p)) (nI (pa_tk tx T p)) nm gn 0 (-1) (nI (ce + 1)) (upd cd ce 10)), L, wQQ q)) 1 rfl ?_
          refine tv_cv [] [] rfl rfl (by omega) rfl (Nat.le_of_ble_eq_true rfl) (Nat.le_of_ble_eq_true rfl) (Or.inr (Or.inr rfl)) (tv_r_nx hH (by omega) (by omega) hnm) ?_
          rintro rv9 h9 ⟨rfl, I9, rfl, ho, hlx⟩
          rcases rdO_c ho with ⟨k1, l1, s1, w1, m1, g1, f1, y1, c1, d1, hr1, hk1, hc1, rfl⟩ | ⟨p1, cs1, m1, g1, hr1, hp1, hn1, rfl⟩
          · refine tv_b (pc' := 124) (ls' := [some (.ref 57), some (.int (nI o)), some (.int 0), some (.int x3)]) (st' := []) (h' := (n, sl, wKK kk, (rdI I s1 w1 39 m1 g1 f1 y1 (nI c1) d1), L, wQQ q)) 3 rfl ?_
            refine tv_rv rfl ⟨rfl, _, rfl, ?_⟩
            unfold pa_fact1
            rw [if_neg (by omega), if_pos c93, pa_bnd_as]
            exact rdO_bl (hr1) (rdO_F (hr1) ⟨hk1, by omega⟩ rfl)
          · have ht1 := pa_tk_lt (b := tx) (n := T) p1
            have hg1 := pa_edo (tx := tx) (T := T) p1
            obtain ⟨hl1, hv1⟩ := hlx _ _ hr1
            have hj1 := pa_ed_le (b := tx) (n := T) (p := p1) hp1.1
            obtain ⟨hq1, hz1⟩ := pa_nx_r hr1
            have hy1 : cs1.length = 0 := by rw [hz1]; rfl
            refine tv_b (pc' := 124) (ls' := [some (.ref 57), some (.int (nI o)), some (.int 0), some (.int x3)]) (st' := []) (h' := (n, sl, wKK kk, (rdI I (nI (pa_sk tx T p1)) (nI (pa_sk tx T p1)) (nI (pa_tk tx T p1)) m1 g1 0 (-1) (nI (ce + 1 + cs1.length)) (pa_wr (upd cd ce 10) (ce + 1) cs1)), L, wQQ q)) 3 rfl ?_
            refine tv_rv rfl ⟨rfl, _, rfl, ?_⟩
            unfold pa_fact1
            rw [if_neg (by omega), if_pos c93, pa_bnd_as]
            subst hz1
            refine rdO_b hr1 ?_
            try dsimp only
            refine rdO_b (cs := [10]) (p := p1) rfl ?_
            exact rdO_N (cs := []) rfl ⟨by omega, by simp only [List.length_cons, List.length_nil]; omega⟩ hn1 rfl
        · refine tv_b (pc' := 111) (ls' := [some (.ref 57), some (.int (nI o)), some (.int 0), some (.int x3)]) (st' := [.int (nI o), .ref 57]) (h' := (n, sl, wKK kk, (rdI I (nI (pa_sk tx T p)) (nI (pa_sk tx T p)) (nI (pa_tk tx T p)) nm gn 0 (-1) (nI ce) cd), L, wQQ q)) 2 rfl ?_
          refine tv_cv [.int (nI o)] [] rfl rfl (by omega) rfl (Nat.le_of_ble_eq_true rfl) (Nat.le_of_ble_eq_true rfl) (Or.inr (Or.inr rfl)) (hC _ p _ _ _ _ (by omega) (by omega) (by omega) hnm hl0) ?_
          rintro rv9 h9 ⟨rfl, I9, rfl, ho, hlx⟩
          rcases rdO_c ho with ⟨k2, l2, s2, w2, m2, g2, f2, y2, c2, d2, hr2, hk2, hc2, rfl⟩ | ⟨p2, cs2, m2, g2, hr2, hp2, hn2, rfl⟩
          · refine tv_b (pc' := 124) (ls' := [some (.ref 57), some (.int (nI o)), some (.int 0), some (.int x3)]) (st' := []) (h' := (n, sl, wKK kk, (rdI I s2 w2 39 m2 g2 f2 y2 (nI c2) d2), L, wQQ q)) 2 rfl ?_
            refine tv_rv rfl ⟨rfl, _, rfl, ?_⟩
            unfold pa_fact1
            rw [if_neg (by omega), if_neg (by omega)]
            exact rdO_bl (hr2) (rdO_F (hr2) ⟨hk2, by omega⟩ rfl)
          · have ht2 := pa_tk_lt (b := tx) (n := T) p2
            have hg2 := pa_edo (tx := tx) (T := T) p2
            obtain ⟨hl2, hv2⟩ := hlx _ _ hr2
            have hj2 := pa_ed_le (b := tx) (n := T) (p := p2) hp2.1
            refine tv_b (pc' := 124) (ls' := [some (.ref 57), some (.int (nI o)), some (.int 0), some (.int x3)]) (st' := []) (h' := (n, sl, wKK kk, (rdI I (nI (pa_sk tx T p2)) (nI (pa_sk tx T p2)) (nI (pa_tk tx T p2)) m2 g2 0 (-1) (nI (ce + cs2.length)) (pa_wr cd ce cs2)), L, wQQ q)) 2 rfl ?_
            refine tv_rv rfl ⟨rfl, _, rfl, ?_⟩
            unfold pa_fact1
            rw [if_neg (by omega), if_neg (by omega)]
            refine rdO_b hr2 ?_
            try dsimp only
            exact rdO_N (cs := []) rfl hp2 hn2 rfl
    · have hz0 : 0 < lev := by omega
      show am_T _ _ _ [some (.ref 57), some (.int (nI o)), some (.int 0), some (.int x3)] _ (n, sl, wKK kk, (rdI I (nI (pa_sk tx T p)) (nI (pa_sk tx T p)) (nI (pa_tk tx T p)) nm gn 0 (-1) (nI ce) cd), L, wQQ q) _
      refine tv_b (pc' := (if (nI (pa_tk tx T p)) = 34 then 49 else 87)) (ls' := [some (.ref 57), some (.int (nI o)), some (.int 0), some (.int x3)]) (st' := []) (h' := (n, sl, wKK kk, (rdI I (nI (pa_sk tx T p)) (nI (pa_sk tx T p)) (nI (pa_tk tx T p)) nm gn 0 (-1) (nI ce) cd), L, wQQ q)) 4 rfl ?_
      refine tv_ifq (nI_eq (a := (pa_tk tx T p)) (b := 34) (by omega) (by omega)) (fun c46 => ?_) (fun c46 => ?_)
      · refine tv_b (pc' := 53) (ls' := [some (.ref 57), some (.int (nI o)), some (.int 0), some (.int x3)]) (st' := [.int (nI o), .int 34, .ref 57]) (h' := (n, sl, wKK kk, (rdI I (nI (pa_sk tx T p)) (nI (pa_sk tx T p)) (nI (pa_tk tx T p)) nm gn 0 (-1) (nI ce) cd), L, wQQ q)) 3 rfl ?_
        refine tv_cv [.int 34, .int (nI o)] [] rfl rfl (by omega) rfl (Nat.le_of_ble_eq_true rfl) (Nat.le_of_ble_eq_true rfl) (Or.inr (Or.inr rfl)) (tv_r_op_34 hH (by omega) (by omega) c46 (by omega) hnm) ?_
        rintro rv9 h9 ⟨hv1, hv2, I9, rfl, ho, hlx⟩
        rcases rdO_d hv1 hv2 ho with ⟨k1, l1, s1, w1, m1, g1, f1, y1, c1, d1, hr1, hk1, hc1, rfl, rfl⟩ | ⟨k1, l1, s1, w1, m1, g1, f1, y1, c1, d1, hr1, hk1, hc1, rfl, rfl⟩ | ⟨p1, cs1, m1, g1, hr1, hp1, hn1, rfl, rfl⟩
        · refine tv_b (pc' := 62) (ls' := [some (.ref 57), some (.int (nI o)), some (.int 0), some (.int x3)]) (st' := [.int 1, .int (nI o), .ref 57]) (h' := (n, sl, wKK kk, (rdI I s1 w1 39 m1 g1 f1 y1 (nI c1) d1), L, wQQ q)) 4 rfl ?_
          refine tv_b (pc' := 63) (ls' := [some (.ref 57), some (.int (nI o)), some (.int 0), some (.int x3)]) (st' := [.int ((nI o) + 1), .ref 57]) (h' := (n, sl, wKK kk, (rdI I s1 w1 39 m1 g1 f1 y1 (nI c1) d1), L, wQQ q)) 1 rfl ?_
          refine tv_top (show (nI o) + 1 = nI (o + 1) from nI_add o 1) ?_
          refine tv_cvE [.int (nI (o + 1))] [] rfl rfl (by omega) rfl (Nat.le_of_ble_eq_true rfl) (Nat.le_of_ble_eq_true rfl) (Or.inr (Or.inr rfl)) (ev_r_testE hk1) ?_
          refine tv_b (pc' := 81) (ls' := [some (.ref 57), some (.int (nI o)), some (.int 0), some (.int x3)]) (st' := [.int 0, .ref 57]) (h' := (n, sl, wKK kk, (rdI I s1 w1 39 m1 g1 (nI k1) (nI l1) (nI c1) d1), L, wQQ q)) 6 rfl ?_
          refine tv_cvE [.int 0] [] rfl rfl (by omega) rfl (Nat.le_of_ble_eq_true rfl) (Nat.le_of_ble_eq_true rfl) (Or.inr (Or.inr rfl)) (ev_r_expectE (rd_F hk1)) ?_
          refine tv_b (pc' := 124) (ls' := [some (.ref 57), some (.int (nI o)), some (.int 0), some (.int x3)]) (st' := []) (h' := (n, sl, wKK kk, (rdI I s1 w1 39 m1 g1 (nI k1) (nI l1) (nI c1) d1), L, wQQ q)) 3 rfl ?_
          refine tv_rv rfl ⟨rfl, _, rfl, ?_⟩
          unfold pa_fact1
          rw [if_pos c46, if_neg hz]
          try rw [pa_bnd_as]
          exact rdO_bl (hr1) (rdO_F (hr1) ⟨(rd_F (rd_F hk1)), by omega⟩ rfl)
        · refine tv_b (pc' := 124) (ls' := [some (.ref 57), some (.int (nI o)), some (.int 0), some (.int x3)]) (st' := []) (h' := (n, sl, wKK kk, (rdI I s1 w1 39 m1 g1 f1 y1 (nI c1) d1), L, wQQ q)) 3 rfl ?_
          refine tv_rv rfl ⟨rfl, _, rfl, ?_⟩
          unfold pa_fact1
          rw [if_pos c46, if_neg hz]
          try rw [pa_bnd_as]
          exact rdO_bl (hr1) (rdO_F (hr1) ⟨hk1, by omega⟩ rfl)
        · have ht1 := pa_tk_lt (b := tx) (n := T) p1
          have hg1 := pa_edo (tx := tx) (T := T) p1
          obtain ⟨hl1, hv1⟩ := hlx _ _ hr1
          have hj1 := pa_ed_le (b := tx) (n := T) (p := p1) hp1.1
          obtain ⟨hq1, hz1⟩ := pa_nx_r hr1
          have hy1 : cs1.length = 0 := by rw [hz1]; rfl
          refine tv_b (pc' := 62) (ls' := [some (.ref 57), some (.int (nI o)), some (.int 0), some (.int x3)]) (st' := [.int 1, .int (nI o), .ref 57]) (h' := (n, sl, wKK kk, (rdI I (nI (pa_sk tx T p1)) (nI (pa_sk tx T p1)) (nI (pa_tk tx T p1)) m1 g1 0 (-1) (nI (ce + cs1.length)) (pa_wr cd ce cs1)), L, wQQ q)) 4 rfl ?_
          refine tv_b (pc' := 63) (ls' := [some (.ref 57), some (.int (nI o)), some (.int 0), some (.int x3)]) (st' := [.int ((nI o) + 1), .ref 57]) (h' := (n, sl, wKK kk, (rdI I (nI (pa_sk tx T p1)) (nI (pa_sk tx T p1)) (nI (pa_tk tx T p1)) m1 g1 0 (-1) (nI (ce + cs1.length)) (pa_wr cd ce cs1)), L, wQQ q)) 1 rfl ?_
          refine tv_top (show (nI o) + 1 = nI (o + 1) from nI_add o 1) ?_
          refine tv_cv [.int (nI (o + 1))] [] rfl rfl (by omega) rfl (Nat.le_of_ble_eq_true rfl) (Nat.le_of_ble_eq_true rfl) (Or.inr (Or.inr rfl)) ((hI hz0) _ p1 _ _ _ _ (by omega) (by omega) (by omega) hn1 hl1) ?_
          rintro rv9 h9 ⟨rfl, I9, rfl, ho, hlx⟩
          rcases rdO_c ho with ⟨k2, l2, s2, w2, m2, g2, f2, y2, c2, d2, hr2, hk2, hc2, rfl⟩ | ⟨p2, cs2, m2, g2, hr2, hp2, hn2, rfl⟩
          · refine tv_b (pc' := 81) (ls' := [some (.ref 57), some (.int (nI o)), some (.int 0), some (.int x3)]) (st' := [.int 0, .ref 57]) (h' := (n, sl, wKK kk, (rdI I s2 w2 39 m2 g2 f2 y2 (nI c2) d2), L, wQQ q)) 6 rfl ?_
            refine tv_cvE [.int 0] [] rfl rfl (by omega) rfl (Nat.le_of_ble_eq_true rfl) (Nat.le_of_ble_eq_true rfl) (Or.inr (Or.inr rfl)) (ev_r_expectE hk2) ?_
            refine tv_b (pc' := 124) (ls' := [some (.ref 57), some (.int (nI o)), some (.int 0), some (.int x3)]) (st' := []) (h' := (n, sl, wKK kk, (rdI I s2 w2 39 m2 g2 (nI k2) (nI l2) (nI c2) d2), L, wQQ q)) 3 rfl ?_
            refine tv_rv rfl ⟨rfl, _, rfl, ?_⟩
            unfold pa_fact1
            rw [if_pos c46, if_neg hz]
            try rw [pa_bnd_as]
            refine rdO_b (hr1) ?_
            try dsimp only
            try rw [pa_bnd_as]
            exact rdO_bl (hr2) (rdO_F (hr2) ⟨(rd_F hk2), by omega⟩ rfl)
          · have ht2 := pa_tk_lt (b := tx) (n := T) p2
            have hg2 := pa_edo (tx := tx) (T := T) p2
            obtain ⟨hl2, hv2⟩ := hlx _ _ hr2
            have hj2 := pa_ed_le (b := tx) (n := T) (p := p2) hp2.1
            refine tv_b (pc' := (if (nI (pa_tk tx T p2)) = 35 then 76 else 80)) (ls' := [some (.ref 57), some (.int (nI o)), some (.int 0), some (.int x3)]) (st' := [.ref 57]) (h' := (n, sl, wKK kk, (rdI I (nI (pa_sk tx T p2)) (nI (pa_sk tx T p2)) (nI (pa_tk tx T p2)) m2 g2 0 (-1) (nI (ce + cs1.length + cs2.length)) (pa_wr (pa_wr cd ce cs1) (ce + cs1.length) cs2)), L, wQQ q)) 5 rfl ?_
            refine tv_ifq (nI_eq (a := (pa_tk tx T p2)) (b := 35) (by omega) (by omega)) (fun c73 => ?_) (fun c73 => ?_)
            · refine tv_b (pc' := 81) (ls' := [some (.ref 57), some (.int (nI o)), some (.int 0), some (.int x3)]) (st' := [.int 1, .ref 57]) (h' := (n, sl, wKK kk, (rdI I (nI (pa_sk tx T p2)) (nI (pa_sk tx T p2)) (nI (pa_tk tx T p2)) m2 g2 0 (-1) (nI (ce + cs1.length + cs2.length)) (pa_wr (pa_wr cd ce cs1) (ce + cs1.length) cs2)), L, wQQ q)) 2 rfl ?_
              refine tv_cv [.int 1] [] rfl rfl (by omega) rfl (Nat.le_of_ble_eq_true rfl) (Nat.le_of_ble_eq_true rfl) (Or.inr (Or.inr rfl)) (tv_r_ex1 hH (by omega) (by omega) hn2) ?_
              rintro rv9 h9 ⟨rfl, I9, rfl, ho, hlx⟩
              rcases rdO_c ho with ⟨k3, l3, s3, w3, m3, g3, f3, y3, c3, d3, hr3, hk3, hc3, rfl⟩ | ⟨p3, cs3, m3, g3, hr3, hp3, hn3, rfl⟩
              · refine tv_b (pc' := 124) (ls' := [some (.ref 57), some (.int (nI o)), some (.int 0), some (.int x3)]) (st' := []) (h' := (n, sl, wKK kk, (rdI I s3 w3 39 m3 g3 f3 y3 (nI c3) d3), L, wQQ q)) 3 rfl ?_
                refine tv_rv rfl ⟨rfl, _, rfl, ?_⟩
                unfold pa_fact1
                rw [if_pos c46, if_neg hz]
                try rw [pa_bnd_as]
                refine rdO_b (hr1) ?_
                try dsimp only
                try rw [pa_bnd_as]
                refine rdO_b (hr2) ?_
                try dsimp only
                try rw [pa_bnd_as]
                exact rdO_bl ((pa_ex_t c73).trans hr3) (rdO_F ((pa_ex_t c73).trans hr3) ⟨hk3, by omega⟩ rfl)
              · have ht3 := pa_tk_lt (b := tx) (n := T) p3
                have hg3 := pa_edo (tx := tx) (T := T) p3
                obtain ⟨hl3, hv3⟩ := hlx _ _ hr3
                have hj3 := pa_ed_le (b := tx) (n := T) (p := p3) hp3.1
                obtain ⟨hq3, hz3⟩ := pa_nx_r hr3
                have hy3 : cs3.length = 0 := by rw [hz3]; rfl
                refine tv_b (pc' := 124) (ls' := [some (.ref 57), some (.int (nI o)), some (.int 0), some (.int x3)]) (st' := []) (h' := (n, sl, wKK kk, (rdI I (nI (pa_sk tx T p3)) (nI (pa_sk tx T p3)) (nI (pa_tk tx T p3)) m3 g3 0 (-1) (nI (ce + cs1.length + cs2.length + cs3.length)) (pa_wr (pa_wr (pa_wr cd ce cs1) (ce + cs1.length) cs2) (ce + cs1.length + cs2.length) cs3)), L, wQQ q)) 3 rfl ?_
                refine tv_rv rfl ⟨rfl, _, rfl, ?_⟩
                unfold pa_fact1
                rw [if_pos c46, if_neg hz]
                try rw [pa_bnd_as]
                refine rdO_b (hr1) ?_
                try dsimp only
                try rw [pa_bnd_as]
                refine rdO_b (hr2) ?_
                try dsimp only
                try rw [pa_bnd_as]
                refine rdO_b ((pa_ex_t c73).trans hr3) ?_
                try dsimp only
                exact rdO_N (cs := []) rfl hp3 hn3 rfl
            · refine tv_b (pc' := 81) (ls' := [some (.ref 57), some (.int (nI o)), some (.int 0), some (.int x3)]) (st' := [.int 0, .ref 57]) (h' := (n, sl, wKK kk, (rdI I (nI (pa_sk tx T p2)) (nI (pa_sk tx T p2)) (nI (pa_tk tx T p2)) m2 g2 0 (-1) (nI (ce + cs1.length + cs2.length)) (pa_wr (pa_wr cd ce cs1) (ce + cs1.length) cs2)), L, wQQ q)) 1 rfl ?_
              refine tv_cvE [.int 0] [] rfl rfl (by omega) rfl (Nat.le_of_ble_eq_true rfl) (Nat.le_of_ble_eq_true rfl) (Or.inr (Or.inr rfl)) (ev_r_ex0) ?_
              refine tv_b (pc' := 124) (ls' := [some (.ref 57), some (.int (nI o)), some (.int 0), some (.int x3)]) (st' := []) (h' := (n, sl, wKK kk, (rdI I (nI (pa_sk tx T p2)) (nI (pa_sk tx T p2)) 39 m2 g2 1 (nI (pa_sk tx T p2)) (nI (ce + cs1.length + cs2.length)) (pa_wr (pa_wr cd ce cs1) (ce + cs1.length) cs2)), L, wQQ q)) 3 rfl ?_
              refine tv_rv rfl ⟨rfl, _, rfl, ?_⟩
              unfold pa_fact1
              rw [if_pos c46, if_neg hz]
              try rw [pa_bnd_as]
              refine rdO_b (hr1) ?_
              try dsimp only
              try rw [pa_bnd_as]
              refine rdO_b (hr2) ?_
              try dsimp only
              exact rdO_bl ((pa_ex_f c73)) (rdO_F ((pa_ex_f c73)) ⟨(rd_L (k := 1) (l := pa_sk tx T p2) (w := nI (pa_sk tx T p2)) (xf := 1) (by decide) rfl), by omega⟩ rfl)
      · refine tv_b (pc' := (if (nI (pa_tk tx T p)) = 10 then 96 else 109)) (ls' := [some (.ref 57), some (.int (nI o)), some (.int 0), some (.int x3)]) (st' := []) (h' := (n, sl, wKK kk, (rdI I (nI (pa_sk tx T p)) (nI (pa_sk tx T p)) (nI (pa_tk tx T p)) nm gn 0 (-1) (nI ce) cd), L, wQQ q)) 4 rfl ?_
        refine tv_ifq (nI_eq (a := (pa_tk tx T p)) (b := 10) (by omega) (by omega)) (fun c93 => ?_) (fun c93 => ?_)
        · refine tv_b (pc' := 99) (ls' := [some (.ref 57), some (.int (nI o)), some (.int 0), some (.int x3)]) (st' := [.int 10, .ref 57]) (h' := (n, sl, wKK kk, (rdI I (nI (pa_sk tx T p)) (nI (pa_sk tx T p)) (nI (pa_tk tx T p)) nm gn 0 (-1) (nI ce) cd), L, wQQ q)) 2 rfl ?_
          refine tv_cvE [.int 10] [] rfl rfl (by omega) rfl (Nat.le_of_ble_eq_true rfl) (Nat.le_of_ble_eq_true rfl) (Or.inr (Or.inr rfl)) (ev_r_emit (by omega)) ?_
          refine tv_b (pc' := 103) (ls' := [some (.ref 57), some (.int (nI o)), some (.int 0), some (.int x3)]) (st' := [.ref 57]) (h' := (n, sl, wKK kk, (rdI I (nI (pa_sk tx T p)) (nI (pa_sk tx T p)) (nI (pa_tk tx T p)) nm gn 0 (-1) (nI (ce + 1)) (upd cd ce 10)), L, wQQ q)) 1 rfl ?_
          refine tv_cv [] [] rfl rfl (by omega) rfl (Nat.le_of_ble_eq_true rfl) (Nat.le_of_ble_eq_true rfl) (Or.inr (Or.inr rfl)) (tv_r_nx hH (by omega) (by omega) hnm) ?_
          rintro rv9 h9 ⟨rfl, I9, rfl, ho, hlx⟩
          rcases rdO_c ho with ⟨k4, l4, s4, w4, m4, g4, f4, y4, c4, d4, hr4, hk4, hc4, rfl⟩ | ⟨p4, cs4, m4, g4, hr4, hp4, hn4, rfl⟩
          · refine tv_b (pc' := 124) (ls' := [some (.ref 57), some (.int (nI o)), some (.int 0), some (.int x3)]) (st' := []) (h' := (n, sl, wKK kk, (rdI I s4 w4 39 m4 g4 f4 y4 (nI c4) d4), L, wQQ q)) 3 rfl ?_
            refine tv_rv rfl ⟨rfl, _, rfl, ?_⟩
            unfold pa_fact1
            rw [if_neg (by omega), if_pos c93, pa_bnd_as]
            exact rdO_bl (hr4) (rdO_F (hr4) ⟨hk4, by omega⟩ rfl)
          · have ht4 := pa_tk_lt (b := tx) (n := T) p4
            have hg4 := pa_edo (tx := tx) (T := T) p4
            obtain ⟨hl4, hv4⟩ := hlx _ _ hr4
            have hj4 := pa_ed_le (b := tx) (n := T) (p := p4) hp4.1
            obtain ⟨hq4, hz4⟩ := pa_nx_r hr4
            have hy4 : cs4.length = 0 := by rw [hz4]; rfl
            refine tv_b (pc' := 124) (ls' := [some (.ref 57), some (.int (nI o)), some (.int 0), some (.int x3)]) (st' := []) (h' := (n, sl, wKK kk, (rdI I (nI (pa_sk tx T p4)) (nI (pa_sk tx T p4)) (nI (pa_tk tx T p4)) m4 g4 0 (-1) (nI (ce + 1 + cs4.length)) (pa_wr (upd cd ce 10) (ce + 1) cs4)), L, wQQ q)) 3 rfl ?_
            refine tv_rv rfl ⟨rfl, _, rfl, ?_⟩
            unfold pa_fact1
            rw [if_neg (by omega), if_pos c93, pa_bnd_as]
            subst hz4
            refine rdO_b hr4 ?_
            try dsimp only
            refine rdO_b (cs := [10]) (p := p4) rfl ?_
            exact rdO_N (cs := []) rfl ⟨by omega, by simp only [List.length_cons, List.length_nil]; omega⟩ hn4 rfl
        · refine tv_b (pc' := 111) (ls' := [some (.ref 57), some (.int (nI o)), some (.int 0), some (.int x3)]) (st' := [.int (nI o), .ref 57]) (h' := (n, sl, wKK kk, (rdI I (nI (pa_sk tx T p)) (nI (pa_sk tx T p)) (nI (pa_tk tx T p)) nm gn 0 (-1) (nI ce) cd), L, wQQ q)) 2 rfl ?_
          refine tv_cv [.int (nI o)] [] rfl rfl (by omega) rfl (Nat.le_of_ble_eq_true rfl) (Nat.le_of_ble_eq_true rfl) (Or.inr (Or.inr rfl)) (hC _ p _ _ _ _ (by omega) (by omega) (by omega) hnm hl0) ?_
          rintro rv9 h9 ⟨rfl, I9, rfl, ho, hlx⟩
          rcases rdO_c ho with ⟨k5, l5, s5, w5, m5, g5, f5, y5, c5, d5, hr5, hk5, hc5, rfl⟩ | ⟨p5, cs5, m5, g5, hr5, hp5, hn5, rfl⟩
          · refine tv_b (pc' := 124) (ls' := [some (.ref 57), some (.int (nI o)), some (.int 0), some (.int x3)]) (st' := []) (h' := (n, sl, wKK kk, (rdI I s5 w5 39 m5 g5 f5 y5 (nI c5) d5), L, wQQ q)) 2 rfl ?_
            refine tv_rv rfl ⟨rfl, _, rfl, ?_⟩
            unfold pa_fact1
            rw [if_neg (by omega), if_neg (by omega)]
            exact rdO_bl (hr5) (rdO_F (hr5) ⟨hk5, by omega⟩ rfl)
          · have ht5 := pa_tk_lt (b := tx) (n := T) p5
            have hg5 := pa_edo (tx := tx) (T := T) p5
            obtain ⟨hl5, hv5⟩ := hlx _ _ hr5
            have hj5 := pa_ed_le (b := tx) (n := T) (p := p5) hp5.1
            refine tv_b (pc' := 124) (ls' := [some (.ref 57), some (.int (nI o)), some (.int 0), some (.int x3)]) (st' := []) (h' := (n, sl, wKK kk, (rdI I (nI (pa_sk tx T p5)) (nI (pa_sk tx T p5)) (nI (pa_tk tx T p5)) m5 g5 0 (-1) (nI (ce + cs5.length)) (pa_wr cd ce cs5)), L, wQQ q)) 2 rfl ?_
            refine tv_rv rfl ⟨rfl, _, rfl, ?_⟩
            unfold pa_fact1
            rw [if_neg (by omega), if_neg (by omega)]
            refine rdO_b hr5 ?_
            try dsimp only
            exact rdO_N (cs := []) rfl hp5 hn5 rfl
  have tailtrue : ∀ (p ce : Nat) (cd : Nat → Int32) (nm gn x3 : Int32), p ≤ T → ce + 1 ≤ p → rdQ tx T G p nm gn → pa_lf tx T p = none → am_T (d + 9) 73 40 [some (.ref 57), some (.int (nI o)), some (.int 1), some (.int x3)] [] (n, sl, wKK kk, rdT tx T I p nm gn ce cd, L, wQQ q) (fun rv h' => rv = none ∧ ∃ I', h' = (n, sl, wKK kk, I', L, wQQ q) ∧ rdO tx T G (pa_bnd (pa_fact1 tx T lev inner p) (fun p2 => cond true (pa_em 9 p2) (.inr (p2, [])))) ce cd I I') := by
    intro p ce cd nm gn x3 hp hce hnm hl0
    have ht0 := pa_tk_lt (b := tx) (n := T) p
    have hg0 := pa_edo (tx := tx) (T := T) p
    have hj0 := pa_ed_le (b := tx) (n := T) (p := p) hp
    by_cases hz : lev = 0
    · show am_T _ _ _ [some (.ref 57), some (.int (nI o)), some (.int 1), some (.int x3)] _ (n, sl, wKK kk, (rdI I (nI (pa_sk tx T p)) (nI (pa_sk tx T p)) (nI (pa_tk tx T p)) nm gn 0 (-1) (nI ce) cd), L, wQQ q) _
      refine tv_b (pc' := (if (nI (pa_tk tx T p)) = 34 then 49 else 87)) (ls' := [some (.ref 57), some (.int (nI o)), some (.int 1), some (.int x3)]) (st' := []) (h' := (n, sl, wKK kk, (rdI I (nI (pa_sk tx T p)) (nI (pa_sk tx T p)) (nI (pa_tk tx T p)) nm gn 0 (-1) (nI ce) cd), L, wQQ q)) 4 rfl ?_
      refine tv_ifq (nI_eq (a := (pa_tk tx T p)) (b := 34) (by omega) (by omega)) (fun c46 => ?_) (fun c46 => ?_)
      · refine tv_b (pc' := 53) (ls' := [some (.ref 57), some (.int (nI o)), some (.int 1), some (.int x3)]) (st' := [.int (nI o), .int 34, .ref 57]) (h' := (n, sl, wKK kk, (rdI I (nI (pa_sk tx T p)) (nI (pa_sk tx T p)) (nI (pa_tk tx T p)) nm gn 0 (-1) (nI ce) cd), L, wQQ q)) 3 rfl ?_
        refine tv_cvE [.int 34, .int (nI o)] [] rfl rfl (by omega) rfl (Nat.le_of_ble_eq_true rfl) (Nat.le_of_ble_eq_true rfl) (Or.inr (Or.inr rfl)) (ev_r_op5_34 c46 (by omega) (by omega)) ?_
        refine tv_b (pc' := 121) (ls' := [some (.ref 57), some (.int (nI o)), some (.int 1), some (.int x3)]) (st' := [.int 9, .ref 57]) (h' := (n, sl, wKK kk, (rdI I (nI (pa_sk tx T p)) (nI (pa_sk tx T p)) 39 nm gn 5 (nI (pa_sk tx T p)) (nI ce) cd), L, wQQ q)) 5 rfl ?_
        refine tv_cvE [.int 9] [] rfl rfl (by omega) rfl (Nat.le_of_ble_eq_true rfl) (Nat.le_of_ble_eq_true rfl) (Or.inr (Or.inr rfl)) (ev_r_emitF (rd_k (rd_L (k := 5) (l := pa_sk tx T p) (w := nI (pa_sk tx T p)) (xf := 5) (by decide) rfl))) ?_
        refine tv_rv rfl ⟨rfl, _, rfl, ?_⟩
        unfold pa_fact1
        rw [if_pos c46, if_pos hz]
        exact rdO_bl rfl (rdO_F rfl ⟨(rd_L (k := 5) (l := pa_sk tx T p) (w := nI (pa_sk tx T p)) (xf := 5) (by decide) rfl), by omega⟩ rfl)
      · refine tv_b (pc' := (if (nI (pa_tk tx T p)) = 10 then 96 else 109)) (ls' := [some (.ref 57), some (.int (nI o)), some (.int 1), some (.int x3)]) (st' := []) (h' := (n, sl, wKK kk, (rdI I (nI (pa_sk tx T p)) (nI (pa_sk tx T p)) (nI (pa_tk tx T p)) nm gn 0 (-1) (nI ce) cd), L, wQQ q)) 4 rfl ?_
        refine tv_ifq (nI_eq (a := (pa_tk tx T p)) (b := 10) (by omega) (by omega)) (fun c93 => ?_) (fun c93 => ?_)
        · refine tv_b (pc' := 99) (ls' := [some (.ref 57), some (.int (nI o)), some (.int 1), some (.int x3)]) (st' := [.int 10, .ref 57]) (h' := (n, sl, wKK kk, (rdI I (nI (pa_sk tx T p)) (nI (pa_sk tx T p)) (nI (pa_tk tx T p)) nm gn 0 (-1) (nI ce) cd), L, wQQ q)) 2 rfl ?_
          refine tv_cvE [.int 10] [] rfl rfl (by omega) rfl (Nat.le_of_ble_eq_true rfl) (Nat.le_of_ble_eq_true rfl) (Or.inr (Or.inr rfl)) (ev_r_emit (by omega)) ?_
          refine tv_b (pc' := 103) (ls' := [some (.ref 57), some (.int (nI o)), some (.int 1), some (.int x3)]) (st' := [.ref 57]) (h' := (n, sl, wKK kk, (rdI I (nI (pa_sk tx T p)) (nI (pa_sk tx T p)) (nI (pa_tk tx T p)) nm gn 0 (-1) (nI (ce + 1)) (upd cd ce 10)), L, wQQ q)) 1 rfl ?_
          refine tv_cv [] [] rfl rfl (by omega) rfl (Nat.le_of_ble_eq_true rfl) (Nat.le_of_ble_eq_true rfl) (Or.inr (Or.inr rfl)) (tv_r_nx hH (by omega) (by omega) hnm) ?_
          rintro rv9 h9 ⟨rfl, I9, rfl, ho, hlx⟩
          rcases rdO_c ho with ⟨k1, l1, s1, w1, m1, g1, f1, y1, c1, d1, hr1, hk1, hc1, rfl⟩ | ⟨p1, cs1, m1, g1, hr1, hp1, hn1, rfl⟩
          · refine tv_b (pc' := 121) (ls' := [some (.ref 57), some (.int (nI o)), some (.int 1), some (.int x3)]) (st' := [.int 9, .ref 57]) (h' := (n, sl, wKK kk, (rdI I s1 w1 39 m1 g1 f1 y1 (nI c1) d1), L, wQQ q)) 5 rfl ?_
            refine tv_cv [.int 9] [] rfl rfl (by omega) rfl (Nat.le_of_ble_eq_true rfl) (Nat.le_of_ble_eq_true rfl) (Or.inr (Or.inr rfl)) (tv_r_emitE hk1 (by omega)) ?_
            rintro rv9 h9 ⟨rfl, e18, b18, hb18, rfl⟩
            refine tv_rv rfl ⟨rfl, _, rfl, ?_⟩
            unfold pa_fact1
            rw [if_neg (by omega), if_pos c93, pa_bnd_as]
            exact rdO_bl (hr1) (rdO_F (hr1) ⟨hk1, by omega⟩ rfl)
          · have ht1 := pa_tk_lt (b := tx) (n := T) p1
            have hg1 := pa_edo (tx := tx) (T := T) p1
            obtain ⟨hl1, hv1⟩ := hlx _ _ hr1
            have hj1 := pa_ed_le (b := tx) (n := T) (p := p1) hp1.1
            obtain ⟨hq1, hz1⟩ := pa_nx_r hr1
            have hy1 : cs1.length = 0 := by rw [hz1]; rfl
            refine tv_b (pc' := 121) (ls' := [some (.ref 57), some (.int (nI o)), some (.int 1), some (.int x3)]) (st' := [.int 9, .ref 57]) (h' := (n, sl, wKK kk, (rdI I (nI (pa_sk tx T p1)) (nI (pa_sk tx T p1)) (nI (pa_tk tx T p1)) m1 g1 0 (-1) (nI (ce + 1 + cs1.length)) (pa_wr (upd cd ce 10) (ce + 1) cs1)), L, wQQ q)) 5 rfl ?_
            refine tv_cvE [.int 9] [] rfl rfl (by omega) rfl (Nat.le_of_ble_eq_true rfl) (Nat.le_of_ble_eq_true rfl) (Or.inr (Or.inr rfl)) (ev_r_emit (by omega)) ?_
            refine tv_rv rfl ⟨rfl, _, rfl, ?_⟩
            unfold pa_fact1
            rw [if_neg (by omega), if_pos c93, pa_bnd_as]
            subst hz1
            refine rdO_b hr1 ?_
            try dsimp only
            refine rdO_b (cs := [10]) (p := p1) rfl ?_
            exact rdO_em ⟨by omega, by simp only [List.length_cons, List.length_nil]; omega⟩ hn1 rfl
        · refine tv_b (pc' := 111) (ls' := [some (.ref 57), some (.int (nI o)), some (.int 1), some (.int x3)]) (st' := [.int (nI o), .ref 57]) (h' := (n, sl, wKK kk, (rdI I (nI (pa_sk tx T p)) (nI (pa_sk tx T p)) (nI (pa_tk tx T p)) nm gn 0 (-1) (nI ce) cd), L, wQQ q)) 2 rfl ?_
          refine tv_cv [.int (nI o)] [] rfl rfl (by omega) rfl (Nat.le_of_ble_eq_true rfl) (Nat.le_of_ble_eq_true rfl) (Or.inr (Or.inr rfl)) (hC _ p _ _ _ _ (by omega) (by omega) (by omega) hnm hl0) ?_
          rintro rv9 h9 ⟨rfl, I9, rfl, ho, hlx⟩
          rcases rdO_c ho with ⟨k2, l2, s2, w2, m2, g2, f2, y2, c2, d2, hr2, hk2, hc2, rfl⟩ | ⟨p2, cs2, m2, g2, hr2, hp2, hn2, rfl⟩
          · refine tv_b (pc' := 121) (ls' := [some (.ref 57), some (.int (nI o)), some (.int 1), some (.int x3)]) (st' := [.int 9, .ref 57]) (h' := (n, sl, wKK kk, (rdI I s2 w2 39 m2 g2 f2 y2 (nI c2) d2), L, wQQ q)) 4 rfl ?_
            refine tv_cv [.int 9] [] rfl rfl (by omega) rfl (Nat.le_of_ble_eq_true rfl) (Nat.le_of_ble_eq_true rfl) (Or.inr (Or.inr rfl)) (tv_r_emitE hk2 (by omega)) ?_
            rintro rv9 h9 ⟨rfl, e19, b19, hb19, rfl⟩
            refine tv_rv rfl ⟨rfl, _, rfl, ?_⟩
            unfold pa_fact1
            rw [if_neg (by omega), if_neg (by omega)]
            exact rdO_bl (hr2) (rdO_F (hr2) ⟨hk2, by omega⟩ rfl)
          · have ht2 := pa_tk_lt (b := tx) (n := T) p2
            have hg2 := pa_edo (tx := tx) (T := T) p2
            obtain ⟨hl2, hv2⟩ := hlx _ _ hr2
            have hj2 := pa_ed_le (b := tx) (n := T) (p := p2) hp2.1
            refine tv_b (pc' := 121) (ls' := [some (.ref 57), some (.int (nI o)), some (.int 1), some (.int x3)]) (st' := [.int 9, .ref 57]) (h' := (n, sl, wKK kk, (rdI I (nI (pa_sk tx T p2)) (nI (pa_sk tx T p2)) (nI (pa_tk tx T p2)) m2 g2 0 (-1) (nI (ce + cs2.length)) (pa_wr cd ce cs2)), L, wQQ q)) 4 rfl ?_
            refine tv_cvE [.int 9] [] rfl rfl (by omega) rfl (Nat.le_of_ble_eq_true rfl) (Nat.le_of_ble_eq_true rfl) (Or.inr (Or.inr rfl)) (ev_r_emit (by omega)) ?_
            refine tv_rv rfl ⟨rfl, _, rfl, ?_⟩
            unfold pa_fact1
            rw [if_neg (by omega), if_neg (by omega)]
            refine rdO_b hr2 ?_
            try dsimp only
            exact rdO_em ⟨by omega, by omega⟩ hn2 rfl
    · have hz0 : 0 < lev := by omega
      show am_T _ _ _ [some (.ref 57), some (.int (nI o)), some (.int 1), some (.int x3)] _ (n, sl, wKK kk, (rdI I (nI (pa_sk tx T p)) (nI (pa_sk tx T p)) (nI (pa_tk tx T p)) nm gn 0 (-1) (nI ce) cd), L, wQQ q) _
      refine tv_b (pc' := (if (nI (pa_tk tx T p)) = 34 then 49 else 87)) (ls' := [some (.ref 57), some (.int (nI o)), some (.int 1), some (.int x3)]) (st' := []) (h' := (n, sl, wKK kk, (rdI I (nI (pa_sk tx T p)) (nI (pa_sk tx T p)) (nI (pa_tk tx T p)) nm gn 0 (-1) (nI ce) cd), L, wQQ q)) 4 rfl ?_
      refine tv_ifq (nI_eq (a := (pa_tk tx T p)) (b := 34) (by omega) (by omega)) (fun c46 => ?_) (fun c46 => ?_)
      · refine tv_b (pc' := 53) (ls' := [some (.ref 57), some (.int (nI o)), some (.int 1), some (.int x3)]) (st' := [.int (nI o), .int 34, .ref 57]) (h' := (n, sl, wKK kk, (rdI I (nI (pa_sk tx T p)) (nI (pa_sk tx T p)) (nI (pa_tk tx T p)) nm gn 0 (-1) (nI ce) cd), L, wQQ q)) 3 rfl ?_
        refine tv_cv [.int 34, .int (nI o)] [] rfl rfl (by omega) rfl (Nat.le_of_ble_eq_true rfl) (Nat.le_of_ble_eq_true rfl) (Or.inr (Or.inr rfl)) (tv_r_op_34 hH (by omega) (by omega) c46 (by omega) hnm) ?_
        rintro rv9 h9 ⟨hv1, hv2, I9, rfl, ho, hlx⟩
        rcases rdO_d hv1 hv2 ho with ⟨k1, l1, s1, w1, m1, g1, f1, y1, c1, d1, hr1, hk1, hc1, rfl, rfl⟩ | ⟨k1, l1, s1, w1, m1, g1, f1, y1, c1, d1, hr1, hk1, hc1, rfl, rfl⟩ | ⟨p1, cs1, m1, g1, hr1, hp1, hn1, rfl, rfl⟩
        · refine tv_b (pc' := 62) (ls' := [some (.ref 57), some (.int (nI o)), some (.int 1), some (.int x3)]) (st' := [.int 1, .int (nI o), .ref 57]) (h' := (n, sl, wKK kk, (rdI I s1 w1 39 m1 g1 f1 y1 (nI c1) d1), L, wQQ q)) 4 rfl ?_
          refine tv_b (pc' := 63) (ls' := [some (.ref 57), some (.int (nI o)), some (.int 1), some (.int x3)]) (st' := [.int ((nI o) + 1), .ref 57]) (h' := (n, sl, wKK kk, (rdI I s1 w1 39 m1 g1 f1 y1 (nI c1) d1), L, wQQ q)) 1 rfl ?_
          refine tv_top (show (nI o) + 1 = nI (o + 1) from nI_add o 1) ?_
          refine tv_cvE [.int (nI (o + 1))] [] rfl rfl (by omega) rfl (Nat.le_of_ble_eq_true rfl) (Nat.le_of_ble_eq_true rfl) (Or.inr (Or.inr rfl)) (ev_r_testE hk1) ?_
          refine tv_b (pc' := 81) (ls' := [some (.ref 57), some (.int (nI o)), some (.int 1), some (.int x3)]) (st' := [.int 0, .ref 57]) (h' := (n, sl, wKK kk, (rdI I s1 w1 39 m1 g1 (nI k1) (nI l1) (nI c1) d1), L, wQQ q)) 6 rfl ?_
          refine tv_cvE [.int 0] [] rfl rfl (by omega) rfl (Nat.le_of_ble_eq_true rfl) (Nat.le_of_ble_eq_true rfl) (Or.inr (Or.inr rfl)) (ev_r_expectE (rd_F hk1)) ?_
          refine tv_b (pc' := 121) (ls' := [some (.ref 57), some (.int (nI o)), some (.int 1), some (.int x3)]) (st' := [.int 9, .ref 57]) (h' := (n, sl, wKK kk, (rdI I s1 w1 39 m1 g1 (nI k1) (nI l1) (nI c1) d1), L, wQQ q)) 5 rfl ?_
          refine tv_cvE [.int 9] [] rfl rfl (by omega) rfl (Nat.le_of_ble_eq_true rfl) (Nat.le_of_ble_eq_true rfl) (Or.inr (Or.inr rfl)) (ev_r_emitF (rd_k (rd_F (rd_F hk1)))) ?_
          refine tv_rv rfl ⟨rfl, _, rfl, ?_⟩
          unfold pa_fact1
          rw [if_pos c46, if_neg hz]
          try rw [pa_bnd_as]
          exact rdO_bl (hr1) (rdO_F (hr1) ⟨(rd_F (rd_F hk1)), by omega⟩ rfl)
        · refine tv_b (pc' := 121) (ls' := [some (.ref 57), some (.int (nI o)), some (.int 1), some (.int x3)]) (st' := [.int 9, .ref 57]) (h' := (n, sl, wKK kk, (rdI I s1 w1 39 m1 g1 f1 y1 (nI c1) d1), L, wQQ q)) 5 rfl ?_
          refine tv_cv [.int 9] [] rfl rfl (by omega) rfl (Nat.le_of_ble_eq_true rfl) (Nat.le_of_ble_eq_true rfl) (Or.inr (Or.inr rfl)) (tv_r_emitE hk1 (by omega)) ?_
          rintro rv9 h9 ⟨rfl, e20, b20, hb20, rfl⟩
          refine tv_rv rfl ⟨rfl, _, rfl, ?_⟩
          unfold pa_fact1
          rw [if_pos c46, if_neg hz]
          try rw [pa_bnd_as]
          exact rdO_bl (hr1) (rdO_F (hr1) ⟨hk1, by omega⟩ rfl)
        · have ht1 := pa_tk_lt (b := tx) (n := T) p1
          have hg1 := pa_edo (tx := tx) (T := T) p1
          obtain ⟨hl1, hv1⟩ := hlx _ _ hr1
          have hj1 := pa_ed_le (b := tx) (n := T) (p := p1) hp1.1
          obtain ⟨hq1, hz1⟩ := pa_nx_r hr1
          have hy1 : cs1.length = 0 := by rw [hz1]; rfl
          refine tv_b (pc' := 62) (ls' := [some (.ref 57), some (.int (nI o)), some (.int 1), some (.int x3)]) (st' := [.int 1, .int (nI o), .ref 57]) (h' := (n, sl, wKK kk, (rdI I (nI (pa_sk tx T p1)) (nI (pa_sk tx T p1)) (nI (pa_tk tx T p1)) m1 g1 0 (-1) (nI (ce + cs1.length)) (pa_wr cd ce cs1)), L, wQQ q)) 4 rfl ?_
          refine tv_b (pc' := 63) (ls' := [some (.ref 57), some (.int (nI o)), some (.int 1), some (.int x3)]) (st' := [.int ((nI o) + 1), .ref 57]) (h' := (n, sl, wKK kk, (rdI I (nI (pa_sk tx T p1)) (nI (pa_sk tx T p1)) (nI (pa_tk tx T p1)) m1 g1 0 (-1) (nI (ce + cs1.length)) (pa_wr cd ce cs1)), L, wQQ q)) 1 rfl ?_
          refine tv_top (show (nI o) + 1 = nI (o + 1) from nI_add o 1) ?_
          refine tv_cv [.int (nI (o + 1))] [] rfl rfl (by omega) rfl (Nat.le_of_ble_eq_true rfl) (Nat.le_of_ble_eq_true rfl) (Or.inr (Or.inr rfl)) ((hI hz0) _ p1 _ _ _ _ (by omega) (by omega) (by omega) hn1 hl1) ?_
          rintro rv9 h9 ⟨rfl, I9, rfl, ho, hlx⟩
          rcases rdO_c ho with ⟨k2, l2, s2, w2, m2, g2, f2, y2, c2, d2, hr2, hk2, hc2, rfl⟩ | ⟨p2, cs2, m2, g2, hr2, hp2, hn2, rfl⟩
          · refine tv_b (pc' := 81) (ls' := [some (.ref 57), some (.int (nI o)), some (.int 1), some (.int x3)]) (st' := [.int 0, .ref 57]) (h' := (n, sl, wKK kk, (rdI I s2 w2 39 m2 g2 f2 y2 (nI c2) d2), L, wQQ q)) 6 rfl ?_
            refine tv_cvE [.int 0] [] rfl rfl (by omega) rfl (Nat.le_of_ble_eq_true rfl) (Nat.le_of_ble_eq_true rfl) (Or.inr (Or.inr rfl)) (ev_r_expectE hk2) ?_
            refine tv_b (pc' := 121) (ls' := [some (.ref 57), some (.int (nI o)), some (.int 1), some (.int x3)]) (st' := [.int 9, .ref 57]) (h' := (n, sl, wKK kk, (rdI I s2 w2 39 m2 g2 (nI k2) (nI l2) (nI c2) d2), L, wQQ q)) 5 rfl ?_
            refine tv_cvE [.int 9] [] rfl rfl (by omega) rfl (Nat.le_of_ble_eq_true rfl) (Nat.le_of_ble_eq_true rfl) (Or.inr (Or.inr rfl)) (ev_r_emitF (rd_k (rd_F hk2))) ?_
            refine tv_rv rfl ⟨rfl, _, rfl, ?_⟩
            unfold pa_fact1
            rw [if_pos c46, if_neg hz]
            try rw [pa_bnd_as]
            refine rdO_b (hr1) ?_
            try dsimp only
            try rw [pa_bnd_as]
            exact rdO_bl (hr2) (rdO_F (hr2) ⟨(rd_F hk2), by omega⟩ rfl)
          · have ht2 := pa_tk_lt (b := tx) (n := T) p2
            have hg2 := pa_edo (tx := tx) (T := T) p2
            obtain ⟨hl2, hv2⟩ := hlx _ _ hr2
            have hj2 := pa_ed_le (b := tx) (n := T) (p := p2) hp2.1
            refine tv_b (pc' := (if (nI (pa_tk tx T p2)) = 35 then 76 else 80)) (ls' := [some (.ref 57), some (.int (nI o)), some (.int 1), some (.int x3)]) (st' := [.ref 57]) (h' := (n, sl, wKK kk, (rdI I (nI (pa_sk tx T p2)) (nI (pa_sk tx T p2)) (nI (pa_tk tx T p2)) m2 g2 0 (-1) (nI (ce + cs1.length + cs2.length)) (pa_wr (pa_wr cd ce cs1) (ce + cs1.length) cs2)), L, wQQ q)) 5 rfl ?_
            refine tv_ifq (nI_eq (a := (pa_tk tx T p2)) (b := 35) (by omega) (by omega)) (fun c73 => ?_) (fun c73 => ?_)
            · refine tv_b (pc' := 81) (ls' := [some (.ref 57), some (.int (nI o)), some (.int 1), some (.int x3)]) (st' := [.int 1, .ref 57]) (h' := (n, sl, wKK kk, (rdI I (nI (pa_sk tx T p2)) (nI (pa_sk tx T p2)) (nI (pa_tk tx T p2)) m2 g2 0 (-1) (nI (ce + cs1.length + cs2.length)) (pa_wr (pa_wr cd ce cs1) (ce + cs1.length) cs2)), L, wQQ q)) 2 rfl ?_
              refine tv_cv [.int 1] [] rfl rfl (by omega) rfl (Nat.le_of_ble_eq_true rfl) (Nat.le_of_ble_eq_true rfl) (Or.inr (Or.inr rfl)) (tv_r_ex1 hH (by omega) (by omega) hn2) ?_
              rintro rv9 h9 ⟨rfl, I9, rfl, ho, hlx⟩
              rcases rdO_c ho with ⟨k3, l3, s3, w3, m3, g3, f3, y3, c3, d3, hr3, hk3, hc3, rfl⟩ | ⟨p3, cs3, m3, g3, hr3, hp3, hn3, rfl⟩
              · refine tv_b (pc' := 121) (ls' := [some (.ref 57), some (.int (nI o)), some (.int 1), some (.int x3)]) (st' := [.int 9, .ref 57]) (h' := (n, sl, wKK kk, (rdI I s3 w3 39 m3 g3 f3 y3 (nI c3) d3), L, wQQ q)) 5 rfl ?_
                refine tv_cv [.int 9] [] rfl rfl (by omega) rfl (Nat.le_of_ble_eq_true rfl) (Nat.le_of_ble_eq_true rfl) (Or.inr (Or.inr rfl)) (tv_r_emitE hk3 (by omega)) ?_
                rintro rv9 h9 ⟨rfl, e21, b21, hb21, rfl⟩
                refine tv_rv rfl ⟨rfl, _, rfl, ?_⟩
                unfold pa_fact1
                rw [if_pos c46, if_neg hz]
                try rw [pa_bnd_as]
                refine rdO_b (hr1) ?_
                try dsimp only
                try rw [pa_bnd_as]
                refine rdO_b (hr2) ?_
                try dsimp only
                try rw [pa_bnd_as]
                exact rdO_bl ((pa_ex_t c73).trans hr3) (rdO_F ((pa_ex_t c73).trans hr3) ⟨hk3, by omega⟩ rfl)
              · have ht3 := pa_tk_lt (b := tx) (n := T) p3
                have hg3 := pa_edo (tx := tx) (T := T) p3
                obtain ⟨hl3, hv3⟩ := hlx _ _ hr3
                have hj3 := pa_ed_le (b := tx) (n := T) (p := p3) hp3.1
                obtain ⟨hq3, hz3⟩ := pa_nx_r hr3
                have hy3 : cs3.length = 0 := by rw [hz3]; rfl
                refine tv_b (pc' := 121) (ls' := [some (.ref 57), some (.int (nI o)), some (.int 1), some (.int x3)]) (st' := [.int 9, .ref 57]) (h' := (n, sl, wKK kk, (rdI I (nI (pa_sk tx T p3)) (nI (pa_sk tx T p3)) (nI (pa_tk tx T p3)) m3 g3 0 (-1) (nI (ce + cs1.length + cs2.length + cs3.length)) (pa_wr (pa_wr (pa_wr cd ce cs1) (ce + cs1.length) cs2) (ce + cs1.length + cs2.length) cs3)), L, wQQ q)) 5 rfl ?_
                refine tv_cvE [.int 9] [] rfl rfl (by omega) rfl (Nat.le_of_ble_eq_true rfl) (Nat.le_of_ble_eq_true rfl) (Or.inr (Or.inr rfl)) (ev_r_emit (by omega)) ?_
                refine tv_rv rfl ⟨rfl, _, rfl, ?_⟩
                unfold pa_fact1
                rw [if_pos c46, if_neg hz]
                try rw [pa_bnd_as]
                refine rdO_b (hr1) ?_
                try dsimp only
                try rw [pa_bnd_as]
                refine rdO_b (hr2) ?_
                try dsimp only
                try rw [pa_bnd_as]
                refine rdO_b ((pa_ex_t c73).trans hr3) ?_
                try dsimp only
                exact rdO_em ⟨by omega, by omega⟩ hn3 rfl
            · refine tv_b (pc' := 81) (ls' := [some (.ref 57), some (.int (nI o)), some (.int 1), some (.int x3)]) (st' := [.int 0, .ref 57]) (h' := (n, sl, wKK kk, (rdI I (nI (pa_sk tx T p2)) (nI (pa_sk tx T p2)) (nI (pa_tk tx T p2)) m2 g2 0 (-1) (nI (ce + cs1.length + cs2.length)) (pa_wr (pa_wr cd ce cs1) (ce + cs1.length) cs2)), L, wQQ q)) 1 rfl ?_
              refine tv_cvE [.int 0] [] rfl rfl (by omega) rfl (Nat.le_of_ble_eq_true rfl) (Nat.le_of_ble_eq_true rfl) (Or.inr (Or.inr rfl)) (ev_r_ex0) ?_
              refine tv_b (pc' := 121) (ls' := [some (.ref 57), some (.int (nI o)), some (.int 1), some (.int x3)]) (st' := [.int 9, .ref 57]) (h' := (n, sl, wKK kk, (rdI I (nI (pa_sk tx T p2)) (nI (pa_sk tx T p2)) 39 m2 g2 1 (nI (pa_sk tx T p2)) (nI (ce + cs1.length + cs2.length)) (pa_wr (pa_wr cd ce cs1) (ce + cs1.length) cs2)), L, wQQ q)) 5 rfl ?_
              refine tv_cvE [.int 9] [] rfl rfl (by omega) rfl (Nat.le_of_ble_eq_true rfl) (Nat.le_of_ble_eq_true rfl) (Or.inr (Or.inr rfl)) (ev_r_emitF (rd_k (rd_L (k := 1) (l := pa_sk tx T p2) (w := nI (pa_sk tx T p2)) (xf := 1) (by decide) rfl))) ?_
              refine tv_rv rfl ⟨rfl, _, rfl, ?_⟩
              unfold pa_fact1
              rw [if_pos c46, if_neg hz]
              try rw [pa_bnd_as]
              refine rdO_b (hr1) ?_
              try dsimp only
              try rw [pa_bnd_as]
              refine rdO_b (hr2) ?_
              try dsimp only
              exact rdO_bl ((pa_ex_f c73)) (rdO_F ((pa_ex_f c73)) ⟨(rd_L (k := 1) (l := pa_sk tx T p2) (w := nI (pa_sk tx T p2)) (xf := 1) (by decide) rfl), by omega⟩ rfl)
      · refine tv_b (pc' := (if (nI (pa_tk tx T p)) = 10 then 96 else 109)) (ls' := [some (.ref 57), some (.int (nI o)), some (.int 1), some (.int x3)]) (st' := []) (h' := (n, sl, wKK kk, (rdI I (nI (pa_sk tx T p)) (nI (pa_sk tx T p)) (nI (pa_tk tx T p)) nm gn 0 (-1) (nI ce) cd), L, wQQ q)) 4 rfl ?_
        refine tv_ifq (nI_eq (a := (pa_tk tx T p)) (b := 10) (by omega) (by omega)) (fun c93 => ?_) (fun c93 => ?_)
        · refine tv_b (pc' := 99) (ls' := [some (.ref 57), some (.int (nI o)), some (.int 1), some (.int x3)]) (st' := [.int 10, .ref 57]) (h' := (n, sl, wKK kk, (rdI I (nI (pa_sk tx T p)) (nI (pa_sk tx T p)) (nI (pa_tk tx T p)) nm gn 0 (-1) (nI ce) cd), L, wQQ q)) 2 rfl ?_
          refine tv_cvE [.int 10] [] rfl rfl (by omega) rfl (Nat.le_of_ble_eq_true rfl) (Nat.le_of_ble_eq_true rfl) (Or.inr (Or.inr rfl)) (ev_r_emit (by omega)) ?_
          refine tv_b (pc' := 103) (ls' := [some (.ref 57), some (.int (nI o)), some (.int 1), some (.int x3)]) (st' := [.ref 57]) (h' := (n, sl, wKK kk, (rdI I (nI (pa_sk tx T p)) (nI (pa_sk tx T p)) (nI (pa_tk tx T p)) nm gn 0 (-1) (nI (ce + 1)) (upd cd ce 10)), L, wQQ q)) 1 rfl ?_
          refine tv_cv [] [] rfl rfl (by omega) rfl (Nat.le_of_ble_eq_true rfl) (Nat.le_of_ble_eq_true rfl) (Or.inr (Or.inr rfl)) (tv_r_nx hH (by omega) (by omega) hnm) ?_
          rintro rv9 h9 ⟨rfl, I9, rfl, ho, hlx⟩
          rcases rdO_c ho with ⟨k4, l4, s4, w4, m4, g4, f4, y4, c4, d4, hr4, hk4, hc4, rfl⟩ | ⟨p4, cs4, m4, g4, hr4, hp4, hn4, rfl⟩
          · refine tv_b (pc' := 121) (ls' := [some (.ref 57), some (.int (nI o)), some (.int 1), some (.int x3)]) (st' := [.int 9, .ref 57]) (h' := (n, sl, wKK kk, (rdI I s4 w4 39 m4 g4 f4 y4 (nI c4) d4), L, wQQ q)) 5 rfl ?_
            refine tv_cv [.int 9] [] rfl rfl (by omega) rfl (Nat.le_of_ble_eq_true rfl) (Nat.le_of_ble_eq_true rfl) (Or.inr (Or.inr rfl)) (tv_r_emitE hk4 (by omega)) ?_
            rintro rv9 h9 ⟨rfl, e22, b22, hb22, rfl⟩
            refine tv_rv rfl ⟨rfl, _, rfl, ?_⟩
            unfold pa_fact1
            rw [if_neg (by omega), if_pos c93, pa_bnd_as]
            exact rdO_bl (hr4) (rdO_F (hr4) ⟨hk4, by omega⟩ rfl)
          · have ht4 := pa_tk_lt (b := tx) (n := T) p4
            have hg4 := pa_edo (tx := tx) (T := T) p4
            obtain ⟨hl4, hv4⟩ := hlx _ _ hr4
            have hj4 := pa_ed_le (b := tx) (n := T) (p := p4) hp4.1
            obtain ⟨hq4, hz4⟩ := pa_nx_r hr4
            have hy4 : cs4.length = 0 := by rw [hz4]; rfl
            refine tv_b (pc' := 121) (ls' := [some (.ref 57), some (.int (nI o)), some (.int 1), some (.int x3)]) (st' := [.int 9, .ref 57]) (h' := (n, sl, wKK kk, (rdI I (nI (pa_sk tx T p4)) (nI (pa_sk tx T p4)) (nI (pa_tk tx T p4)) m4 g4 0 (-1) (nI (ce + 1 + cs4.length)) (pa_wr (upd cd ce 10) (ce + 1) cs4)), L, wQQ q)) 5 rfl ?_
            refine tv_cvE [.int 9] [] rfl rfl (by omega) rfl (Nat.le_of_ble_eq_true rfl) (Nat.le_of_ble_eq_true rfl) (Or.inr (Or.inr rfl)) (ev_r_emit (by omega)) ?_
            refine tv_rv rfl ⟨rfl, _, rfl, ?_⟩
            unfold pa_fact1
            rw [if_neg (by omega), if_pos c93, pa_bnd_as]
            subst hz4
            refine rdO_b hr4 ?_
            try dsimp only
            refine rdO_b (cs := [10]) (p := p4) rfl ?_
            exact rdO_em ⟨by omega, by simp only [List.length_cons, List.length_nil]; omega⟩ hn4 rfl
        · refine tv_b (pc' := 111) (ls' := [some (.ref 57), some (.int (nI o)), some (.int 1), some (.int x3)]) (st' := [.int (nI o), .ref 57]) (h' := (n, sl, wKK kk, (rdI I (nI (pa_sk tx T p)) (nI (pa_sk tx T p)) (nI (pa_tk tx T p)) nm gn 0 (-1) (nI ce) cd), L, wQQ q)) 2 rfl ?_
          refine tv_cv [.int (nI o)] [] rfl rfl (by omega) rfl (Nat.le_of_ble_eq_true rfl) (Nat.le_of_ble_eq_true rfl) (Or.inr (Or.inr rfl)) (hC _ p _ _ _ _ (by omega) (by omega) (by omega) hnm hl0) ?_
          rintro rv9 h9 ⟨rfl, I9, rfl, ho, hlx⟩
          rcases rdO_c ho with ⟨k5, l5, s5, w5, m5, g5, f5, y5, c5, d5, hr5, hk5, hc5, rfl⟩ | ⟨p5, cs5, m5, g5, hr5, hp5, hn5, rfl⟩
          · refine tv_b (pc' := 121) (ls' := [some (.ref 57), some (.int (nI o)), some (.int 1), some (.int x3)]) (st' := [.int 9, .ref 57]) (h' := (n, sl, wKK kk, (rdI I s5 w5 39 m5 g5 f5 y5 (nI c5) d5), L, wQQ q)) 4 rfl ?_
            refine tv_cv [.int 9] [] rfl rfl (by omega) rfl (Nat.le_of_ble_eq_true rfl) (Nat.le_of_ble_eq_true rfl) (Or.inr (Or.inr rfl)) (tv_r_emitE hk5 (by omega)) ?_
            rintro rv9 h9 ⟨rfl, e23, b23, hb23, rfl⟩
            refine tv_rv rfl ⟨rfl, _, rfl, ?_⟩
            unfold pa_fact1
            rw [if_neg (by omega), if_neg (by omega)]
            exact rdO_bl (hr5) (rdO_F (hr5) ⟨hk5, by omega⟩ rfl)
          · have ht5 := pa_tk_lt (b := tx) (n := T) p5
            have hg5 := pa_edo (tx := tx) (T := T) p5
            obtain ⟨hl5, hv5⟩ := hlx _ _ hr5
            have hj5 := pa_ed_le (b := tx) (n := T) (p := p5) hp5.1
            refine tv_b (pc' := 121) (ls' := [some (.ref 57), some (.int (nI o)), some (.int 1), some (.int x3)]) (st' := [.int 9, .ref 57]) (h' := (n, sl, wKK kk, (rdI I (nI (pa_sk tx T p5)) (nI (pa_sk tx T p5)) (nI (pa_tk tx T p5)) m5 g5 0 (-1) (nI (ce + cs5.length)) (pa_wr cd ce cs5)), L, wQQ q)) 4 rfl ?_
            refine tv_cvE [.int 9] [] rfl rfl (by omega) rfl (Nat.le_of_ble_eq_true rfl) (Nat.le_of_ble_eq_true rfl) (Or.inr (Or.inr rfl)) (ev_r_emit (by omega)) ?_
            refine tv_rv rfl ⟨rfl, _, rfl, ?_⟩
            unfold pa_fact1
            rw [if_neg (by omega), if_neg (by omega)]
            refine rdO_b hr5 ?_
            try dsimp only
            exact rdO_em ⟨by omega, by omega⟩ hn5 rfl
  have loop : ∀ (f i p ce : Nat) (z : Bool) (cd : Nat → Int32) (nm gn : Int32), i + f = 800 → p ≤ T → ce + cond z 1 0 ≤ p → rdQ tx T G p nm gn → pa_lf tx T p = none → am_T (d + 9) 73 4 [some (.ref 57), some (.int (nI o)), some (.int (cond z 1 0)), some (.int (nI i))] [] (n, sl, wKK kk, rdT tx T I p nm gn ce cd, L, wQQ q) (fun rv h' => rv = none ∧ ∃ I', h' = (n, sl, wKK kk, I', L, wQQ q) ∧ rdO tx T G (pa_fk tx T lev inner (pa_nots tx T f p z)) ce cd I I') := by
    intro f
    induction f with
    | zero =>
      intro i p ce z cd nm gn hi hp hce hnm hl0
      cases z
      · show am_T _ _ _ [some (.ref 57), some (.int (nI o)), some (.int 0), some (.int (nI i))] _ (n, sl, wKK kk, (rdI I (nI (pa_sk tx T p)) (nI (pa_sk tx T p)) (nI (pa_tk tx T p)) nm gn 0 (-1) (nI ce) cd), L, wQQ q) _
        refine tv_b (pc' := (if 800 ≤ (nI i) then 40 else 11)) (ls' := [some (.ref 57), some (.int (nI o)), some (.int 0), some (.int (nI i))]) (st' := []) (h' := (n, sl, wKK kk, (rdI I (nI (pa_sk tx T p)) (nI (pa_sk tx T p)) (nI (pa_tk tx T p)) nm gn 0 (-1) (nI ce) cd), L, wQQ q)) 3 rfl ?_
        refine tv_t ((nI_leI (a := 800) (b := i) (by omega) (by omega)).mpr (by omega)) ?_
        exact tailfalse p ce cd nm gn _ hp hce hnm hl0
      · show am_T _ _ _ [some (.ref 57), some (.int (nI o)), some (.int 1), some (.int (nI i))] _ (n, sl, wKK kk, (rdI I (nI (pa_sk tx T p)) (nI (pa_sk tx T p)) (nI (pa_tk tx T p)) nm gn 0 (-1) (nI ce) cd), L, wQQ q) _
        refine tv_b (pc' := (if 800 ≤ (nI i) then 40 else 11)) (ls' := [some (.ref 57), some (.int (nI o)), some (.int 1), some (.int (nI i))]) (st' := []) (h' := (n, sl, wKK kk, (rdI I (nI (pa_sk tx T p)) (nI (pa_sk tx T p)) (nI (pa_tk tx T p)) nm gn 0 (-1) (nI ce) cd), L, wQQ q)) 3 rfl ?_
        refine tv_t ((nI_leI (a := 800) (b := i) (by omega) (by omega)).mpr (by omega)) ?_
        exact tailtrue p ce cd nm gn _ hp hce hnm hl0
    | succ f ih =>
      intro i p ce z cd nm gn hi hp hce hnm hl0
      have ht0 := pa_tk_lt (b := tx) (n := T) p
      have hg0 := pa_edo (tx := tx) (T := T) p
      have hj0 := pa_ed_le (b := tx) (n := T) (p := p) hp
      have e1 : pa_nots tx T (f + 1) p z = if pa_tk tx T p = 9 then (match pa_nx tx T p with
        | .inl e => .inl e
        | .inr (p', _) => pa_nots tx T f p' (!z)) else .inr (p, z) := rfl
      cases z
      · show am_T _ _ _ [some (.ref 57), some (.int (nI o)), some (.int 0), some (.int (nI i))] _ (n, sl, wKK kk, (rdI I (nI (pa_sk tx T p)) (nI (pa_sk tx T p)) (nI (pa_tk tx T p)) nm gn 0 (-1) (nI ce) cd), L, wQQ q) _
        refine tv_b (pc' := (if 800 ≤ (nI i) then 40 else 11)) (ls' := [some (.ref 57), some (.int (nI o)), some (.int 0), some (.int (nI i))]) (st' := []) (h' := (n, sl, wKK kk, (rdI I (nI (pa_sk tx T p)) (nI (pa_sk tx T p)) (nI (pa_tk tx T p)) nm gn 0 (-1) (nI ce) cd), L, wQQ q)) 3 rfl ?_
        refine tv_f (fun hq => absurd ((nI_leI (a := 800) (b := i) (by omega) (by omega)).mp hq) (by omega)) ?_
        refine tv_b (pc' := (if (nI (pa_tk tx T p)) = 9 then 20 else 40)) (ls' := [some (.ref 57), some (.int (nI o)), some (.int 0), some (.int (nI i))]) (st' := []) (h' := (n, sl, wKK kk, (rdI I (nI (pa_sk tx T p)) (nI (pa_sk tx T p)) (nI (pa_tk tx T p)) nm gn 0 (-1) (nI ce) cd), L, wQQ q)) 4 rfl ?_
        refine tv_ifq (nI_eq (a := (pa_tk tx T p)) (b := 9) (by omega) (by omega)) (fun c17 => ?_) (fun c17 => ?_)
        · refine tv_b (pc' := 21) (ls' := [some (.ref 57), some (.int (nI o)), some (.int 0), some (.int (nI i))]) (st' := [.ref 57]) (h' := (n, sl, wKK kk, (rdI I (nI (pa_sk tx T p)) (nI (pa_sk tx T p)) (nI (pa_tk tx T p)) nm gn 0 (-1) (nI ce) cd), L, wQQ q)) 1 rfl ?_
          refine tv_cv [] [] rfl rfl (by omega) rfl (Nat.le_of_ble_eq_true rfl) (Nat.le_of_ble_eq_true rfl) (Or.inr (Or.inr rfl)) (tv_r_nx hH (by omega) (by omega) hnm) ?_
          rintro rv9 h9 ⟨rfl, I9, rfl, ho, hlx⟩
          rcases rdO_c ho with ⟨k1, l1, s1, w1, m1, g1, f1, y1, c1, d1, hr1, hk1, hc1, rfl⟩ | ⟨p1, cs1, m1, g1, hr1, hp1, hn1, rfl⟩
          · refine tv_b (pc' := 34) (ls' := [some (.ref 57), some (.int (nI o)), some (.int 1), some (.int (nI i))]) (st' := []) (h' := (n, sl, wKK kk, (rdI I s1 w1 39 m1 g1 f1 y1 (nI c1) d1), L, wQQ q)) 5 rfl ?_
            refine tv_iincN (k := i) (ls' := [some (.ref 57), some (.int (nI o)), some (.int 1), some (.int (nI (i + 1)))]) rfl rfl rfl ?_
            refine tv_b (pc' := 4) (ls' := [some (.ref 57), some (.int (nI o)), some (.int 1), some (.int (nI (i + 1)))]) (st' := []) (h' := (n, sl, wKK kk, (rdI I s1 w1 39 m1 g1 f1 y1 (nI c1) d1), L, wQQ q)) 1 rfl ?_
            refine tv_b (pc' := (if 800 ≤ (nI (i + 1)) then 40 else 11)) (ls' := [some (.ref 57), some (.int (nI o)), some (.int 1), some (.int (nI (i + 1)))]) (st' := []) (h' := (n, sl, wKK kk, (rdI I s1 w1 39 m1 g1 f1 y1 (nI c1) d1), L, wQQ q)) 3 rfl ?_
            refine tv_ifq (nI_leI (a := 800) (b := i + 1) (by omega) (by omega)) (fun c8 => ?_) (fun c8 => ?_)
            · refine tv_b (pc' := 111) (ls' := [some (.ref 57), some (.int (nI o)), some (.int 1), some (.int (nI (i + 1)))]) (st' := [.int (nI o), .ref 57]) (h' := (n, sl, wKK kk, (rdI I s1 w1 39 m1 g1 f1 y1 (nI c1) d1), L, wQQ q)) 10 rfl ?_
              refine tv_cvE [.int (nI o)] [] rfl rfl (by omega) rfl (Nat.le_of_ble_eq_true rfl) (Nat.le_of_ble_eq_true rfl) (Or.inr (Or.inr rfl)) (ev_r_comparisonE hk1) ?_
              refine tv_b (pc' := 121) (ls' := [some (.ref 57), some (.int (nI o)), some (.int 1), some (.int (nI (i + 1)))]) (st' := [.int 9, .ref 57]) (h' := (n, sl, wKK kk, (rdI I s1 w1 39 m1 g1 (nI k1) (nI l1) (nI c1) d1), L, wQQ q)) 4 rfl ?_
              refine tv_cvE [.int 9] [] rfl rfl (by omega) rfl (Nat.le_of_ble_eq_true rfl) (Nat.le_of_ble_eq_true rfl) (Or.inr (Or.inr rfl)) (ev_r_emitF (rd_k (rd_F hk1))) ?_
              refine tv_rv rfl ⟨rfl, _, rfl, ?_⟩
              rw [e1, if_pos c17, hr1]
              exact rdO_F rfl ⟨(rd_F hk1), by omega⟩ rfl
            · refine tv_b (pc' := 40) (ls' := [some (.ref 57), some (.int (nI o)), some (.int 1), some (.int (nI (i + 1)))]) (st' := []) (h' := (n, sl, wKK kk, (rdI I s1 w1 39 m1 g1 f1 y1 (nI c1) d1), L, wQQ q)) 4 rfl ?_
              refine tv_b (pc' := 111) (ls' := [some (.ref 57), some (.int (nI o)), some (.int 1), some (.int (nI (i + 1)))]) (st' := [.int (nI o), .ref 57]) (h' := (n, sl, wKK kk, (rdI I s1 w1 39 m1 g1 f1 y1 (nI c1) d1), L, wQQ q)) 10 rfl ?_
              refine tv_cvE [.int (nI o)] [] rfl rfl (by omega) rfl (Nat.le_of_ble_eq_true rfl) (Nat.le_of_ble_eq_true rfl) (Or.inr (Or.inr rfl)) (ev_r_comparisonE hk1) ?_
              refine tv_b (pc' := 121) (ls' := [some (.ref 57), some (.int (nI o)), some (.int 1), some (.int (nI (i + 1)))]) (st' := [.int 9, .ref 57]) (h' := (n, sl, wKK kk, (rdI I s1 w1 39 m1 g1 (nI k1) (nI l1) (nI c1) d1), L, wQQ q)) 4 rfl ?_
              refine tv_cvE [.int 9] [] rfl rfl (by omega) rfl (Nat.le_of_ble_eq_true rfl) (Nat.le_of_ble_eq_true rfl) (Or.inr (Or.inr rfl)) (ev_r_emitF (rd_k (rd_F hk1))) ?_
              refine tv_rv rfl ⟨rfl, _, rfl, ?_⟩
              rw [e1, if_pos c17, hr1]
              exact rdO_F rfl ⟨(rd_F hk1), by omega⟩ rfl
          · have ht1 := pa_tk_lt (b := tx) (n := T) p1
            have hg1 := pa_edo (tx := tx) (T := T) p1
            obtain ⟨hl1, hv1⟩ := hlx _ _ hr1
            have hj1 := pa_ed_le (b := tx) (n := T) (p := p1) hp1.1
            obtain ⟨hq1, hz1⟩ := pa_nx_r hr1
            have hy1 : cs1.length = 0 := by rw [hz1]; rfl
            refine tv_b (pc' := 34) (ls' := [some (.ref 57), some (.int (nI o)), some (.int 1), some (.int (nI i))]) (st' := []) (h' := (n, sl, wKK kk, (rdI I (nI (pa_sk tx T p1)) (nI (pa_sk tx T p1)) (nI (pa_tk tx T p1)) m1 g1 0 (-1) (nI (ce + cs1.length)) (pa_wr cd ce cs1)), L, wQQ q)) 5 rfl ?_
            refine tv_iincN (k := i) (ls' := [some (.ref 57), some (.int (nI o)), some (.int 1), some (.int (nI (i + 1)))]) rfl rfl rfl ?_
            refine tv_b (pc' := 4) (ls' := [some (.ref 57), some (.int (nI o)), some (.int 1), some (.int (nI (i + 1)))]) (st' := []) (h' := (n, sl, wKK kk, (rdI I (nI (pa_sk tx T p1)) (nI (pa_sk tx T p1)) (nI (pa_tk tx T p1)) m1 g1 0 (-1) (nI (ce + cs1.length)) (pa_wr cd ce cs1)), L, wQQ q)) 1 rfl ?_
            subst hz1
            rw [e1, if_pos c17, hr1]
            exact ih (i + 1) p1 ce true cd m1 g1 (by omega) (by omega) (by simp only [cond_true, cond_false] at hce ⊢; omega) hn1 hl1
        · rw [e1, if_neg c17]
          exact tailfalse p ce cd nm gn _ hp hce hnm hl0
      · show am_T _ _ _ [some (.ref 57), some (.int (nI o)), some (.int 1), some (.int (nI i))] _ (n, sl, wKK kk, (rdI I (nI (pa_sk tx T p)) (nI (pa_sk tx T p)) (nI (pa_tk tx T p)) nm gn 0 (-1) (nI ce) cd), L, wQQ q) _
        refine tv_b (pc' := (if 800 ≤ (nI i) then 40 else 11)) (ls' := [some (.ref 57), some (.int (nI o)), some (.int 1), some (.int (nI i))]) (st' := []) (h' := (n, sl, wKK kk, (rdI I (nI (pa_sk tx T p)) (nI (pa_sk tx T p)) (nI (pa_tk tx T p)) nm gn 0 (-1) (nI ce) cd), L, wQQ q)) 3 rfl ?_
        refine tv_f (fun hq => absurd ((nI_leI (a := 800) (b := i) (by omega) (by omega)).mp hq) (by omega)) ?_
        refine tv_b (pc' := (if (nI (pa_tk tx T p)) = 9 then 20 else 40)) (ls' := [some (.ref 57), some (.int (nI o)), some (.int 1), some (.int (nI i))]) (st' := []) (h' := (n, sl, wKK kk, (rdI I (nI (pa_sk tx T p)) (nI (pa_sk tx T p)) (nI (pa_tk tx T p)) nm gn 0 (-1) (nI ce) cd), L, wQQ q)) 4 rfl ?_
        refine tv_ifq (nI_eq (a := (pa_tk tx T p)) (b := 9) (by omega) (by omega)) (fun c17 => ?_) (fun c17 => ?_)
        · refine tv_b (pc' := 21) (ls' := [some (.ref 57), some (.int (nI o)), some (.int 1), some (.int (nI i))]) (st' := [.ref 57]) (h' := (n, sl, wKK kk, (rdI I (nI (pa_sk tx T p)) (nI (pa_sk tx T p)) (nI (pa_tk tx T p)) nm gn 0 (-1) (nI ce) cd), L, wQQ q)) 1 rfl ?_
          refine tv_cv [] [] rfl rfl (by omega) rfl (Nat.le_of_ble_eq_true rfl) (Nat.le_of_ble_eq_true rfl) (Or.inr (Or.inr rfl)) (tv_r_nx hH (by omega) (by omega) hnm) ?_
          rintro rv9 h9 ⟨rfl, I9, rfl, ho, hlx⟩
          rcases rdO_c ho with ⟨k1, l1, s1, w1, m1, g1, f1, y1, c1, d1, hr1, hk1, hc1, rfl⟩ | ⟨p1, cs1, m1, g1, hr1, hp1, hn1, rfl⟩
          · refine tv_b (pc' := 34) (ls' := [some (.ref 57), some (.int (nI o)), some (.int 0), some (.int (nI i))]) (st' := []) (h' := (n, sl, wKK kk, (rdI I s1 w1 39 m1 g1 f1 y1 (nI c1) d1), L, wQQ q)) 4 rfl ?_
            refine tv_iincN (k := i) (ls' := [some (.ref 57), some (.int (nI o)), some (.int 0), some (.int (nI (i + 1)))]) rfl rfl rfl ?_
            refine tv_b (pc' := 4) (ls' := [some (.ref 57), some (.int (nI o)), some (.int 0), some (.int (nI (i + 1)))]) (st' := []) (h' := (n, sl, wKK kk, (rdI I s1 w1 39 m1 g1 f1 y1 (nI c1) d1), L, wQQ q)) 1 rfl ?_
            refine tv_b (pc' := (if 800 ≤ (nI (i + 1)) then 40 else 11)) (ls' := [some (.ref 57), some (.int (nI o)), some (.int 0), some (.int (nI (i + 1)))]) (st' := []) (h' := (n, sl, wKK kk, (rdI I s1 w1 39 m1 g1 f1 y1 (nI c1) d1), L, wQQ q)) 3 rfl ?_
            refine tv_ifq (nI_leI (a := 800) (b := i + 1) (by omega) (by omega)) (fun c8 => ?_) (fun c8 => ?_)
            · refine tv_b (pc' := 111) (ls' := [some (.ref 57), some (.int (nI o)), some (.int 0), some (.int (nI (i + 1)))]) (st' := [.int (nI o), .ref 57]) (h' := (n, sl, wKK kk, (rdI I s1 w1 39 m1 g1 f1 y1 (nI c1) d1), L, wQQ q)) 10 rfl ?_
              refine tv_cvE [.int (nI o)] [] rfl rfl (by omega) rfl (Nat.le_of_ble_eq_true rfl) (Nat.le_of_ble_eq_true rfl) (Or.inr (Or.inr rfl)) (ev_r_comparisonE hk1) ?_
              refine tv_b (pc' := 124) (ls' := [some (.ref 57), some (.int (nI o)), some (.int 0), some (.int (nI (i + 1)))]) (st' := []) (h' := (n, sl, wKK kk, (rdI I s1 w1 39 m1 g1 (nI k1) (nI l1) (nI c1) d1), L, wQQ q)) 2 rfl ?_
              refine tv_rv rfl ⟨rfl, _, rfl, ?_⟩
              rw [e1, if_pos c17, hr1]
              exact rdO_F rfl ⟨(rd_F hk1), by omega⟩ rfl
            · refine tv_b (pc' := 40) (ls' := [some (.ref 57), some (.int (nI o)), some (.int 0), some (.int (nI (i + 1)))]) (st' := []) (h' := (n, sl, wKK kk, (rdI I s1 w1 39 m1 g1 f1 y1 (nI c1) d1), L, wQQ q)) 4 rfl ?_
              refine tv_b (pc' := 111) (ls' := [some (.ref 57), some (.int (nI o)), some (.int 0), some (.int (nI (i + 1)))]) (st' := [.int (nI o), .ref 57]) (h' := (n, sl, wKK kk, (rdI I s1 w1 39 m1 g1 f1 y1 (nI c1) d1), L, wQQ q)) 10 rfl ?_
              refine tv_cvE [.int (nI o)] [] rfl rfl (by omega) rfl (Nat.le_of_ble_eq_true rfl) (Nat.le_of_ble_eq_true rfl) (Or.inr (Or.inr rfl)) (ev_r_comparisonE hk1) ?_
              refine tv_b (pc' := 124) (ls' := [some (.ref 57), some (.int (nI o)), some (.int 0), some (.int (nI (i + 1)))]) (st' := []) (h' := (n, sl, wKK kk, (rdI I s1 w1 39 m1 g1 (nI k1) (nI l1) (nI c1) d1), L, wQQ q)) 2 rfl ?_
              refine tv_rv rfl ⟨rfl, _, rfl, ?_⟩
              rw [e1, if_pos c17, hr1]
              exact rdO_F rfl ⟨(rd_F hk1), by omega⟩ rfl
          · have ht1 := pa_tk_lt (b := tx) (n := T) p1
            have hg1 := pa_edo (tx := tx) (T := T) p1
            obtain ⟨hl1, hv1⟩ := hlx _ _ hr1
            have hj1 := pa_ed_le (b := tx) (n := T) (p := p1) hp1.1
            obtain ⟨hq1, hz1⟩ := pa_nx_r hr1
            have hy1 : cs1.length = 0 := by rw [hz1]; rfl
            refine tv_b (pc' := 34) (ls' := [some (.ref 57), some (.int (nI o)), some (.int 0), some (.int (nI i))]) (st' := []) (h' := (n, sl, wKK kk, (rdI I (nI (pa_sk tx T p1)) (nI (pa_sk tx T p1)) (nI (pa_tk tx T p1)) m1 g1 0 (-1) (nI (ce + cs1.length)) (pa_wr cd ce cs1)), L, wQQ q)) 4 rfl ?_
            refine tv_iincN (k := i) (ls' := [some (.ref 57), some (.int (nI o)), some (.int 0), some (.int (nI (i + 1)))]) rfl rfl rfl ?_
            refine tv_b (pc' := 4) (ls' := [some (.ref 57), some (.int (nI o)), some (.int 0), some (.int (nI (i + 1)))]) (st' := []) (h' := (n, sl, wKK kk, (rdI I (nI (pa_sk tx T p1)) (nI (pa_sk tx T p1)) (nI (pa_tk tx T p1)) m1 g1 0 (-1) (nI (ce + cs1.length)) (pa_wr cd ce cs1)), L, wQQ q)) 1 rfl ?_
            subst hz1
            rw [e1, if_pos c17, hr1]
            exact ih (i + 1) p1 ce false cd m1 g1 (by omega) (by omega) (by simp only [cond_true, cond_false] at hce ⊢; omega) hn1 hl1
        · rw [e1, if_neg c17]
          exact tailtrue p ce cd nm gn _ hp hce hnm hl0
  show am_T _ _ _ [some (.ref 57), some (.int (nI o)), none, none] _ (n, sl, wKK kk, (rdI I (nI (pa_sk tx T p)) (nI (pa_sk tx T p)) (nI (pa_tk tx T p)) nm gn 0 (-1) (nI ce) cd), L, wQQ q) _
  refine tv_b (pc' := 4) (ls' := [some (.ref 57), some (.int (nI o)), some (.int 0), some (.int 0)]) (st' := []) (h' := (n, sl, wKK kk, (rdI I (nI (pa_sk tx T p)) (nI (pa_sk tx T p)) (nI (pa_tk tx T p)) nm gn 0 (-1) (nI ce) cd), L, wQQ q)) 4 rfl ?_
  refine tv_w (loop 800 0 p ce false cd nm gn (by omega) hp hce hnm hl0) ?_
  rintro rv h' ⟨rfl, I2, rfl, ho2⟩
  exact ⟨rfl, _, rfl, ho2, hlast⟩
