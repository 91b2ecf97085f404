/-! THE CLASS'S READER: the part, the product, the sum -/
section RL
variable {tx : Nat → Nat} {T : Nat}
theorem pa_ex_lf {c : Bool} {p p' : Nat} {cs : List Nat} (h : pa_ex tx T c p = .inr (p', cs)) : pa_lf tx T p' = none := pa_nx_lf (pa_ex_r h).2
theorem pa_nx_gt {p p' : Nat} {cs : List Nat} (h : pa_nx tx T p = .inr (p', cs)) (ht : pa_tk tx T p ≠ 38) : p < p' ∧ cs = [] := by
  obtain ⟨h1, h2⟩ := pa_nx_r h
  rw [h1]
  exact ⟨(pa_ed_gt ht).1, h2⟩
theorem pa_part_lf {lev p p' : Nat} {cs : List Nat} {inner : Nat → pa_E} (hin : ∀ p p' cs, inner p = .inr (p', cs) → p + cs.length ≤ p') (h : pa_part tx T lev inner p = .inr (p', cs)) : pa_lf tx T p' = none ∧ p + cs.length ≤ p' := by
  unfold pa_part at h
  dsimp only at h
  split at h
  · rename_i ht
    obtain ⟨p1, c1, c2, h1, h2, e⟩ := pa_bnd_r h
    obtain ⟨a1, a2⟩ := pa_em_r h2
    obtain ⟨a3, a4⟩ := pa_nx_gt h1 (by omega)
    rw [a1, e, a2, a4]
    exact ⟨pa_nx_lf h1, a3⟩
  split at h
  · rename_i ht _
    obtain ⟨p1, c1, c2, h1, h2, e⟩ := pa_bnd_r h
    obtain ⟨a1, a2⟩ := pa_em_r h2
    obtain ⟨a3, a4⟩ := pa_nx_gt h1 (by omega)
    rw [a1, e, a2, a4]
    exact ⟨pa_nx_lf h1, a3⟩
  split at h
  · obtain ⟨p1, c1, c2, h1, h2, e⟩ := pa_bnd_r h
    split at h2
    · split at h2
      · cases h2
      · obtain ⟨p3, c3, c4, h3, h4, e2⟩ := pa_bnd_r h2
        obtain ⟨a1, a2⟩ := pa_em_r h4
        obtain ⟨a3, a4⟩ := pa_nx_gt h1 (by omega)
        obtain ⟨a5, a6⟩ := pa_nx_gt h3 (by omega)
        rw [a1, e, e2, a2, a4, a6]
        exact ⟨pa_nx_lf h3, by simp only [List.nil_append, List.length_cons, List.length_nil]; omega⟩
    · cases h2
  split at h
  · split at h
    · cases h
    · obtain ⟨p1, c1, c2, h1, h2, e⟩ := pa_bnd_r h
      obtain ⟨p3, c3, c4, h3, h4, e2⟩ := pa_bnd_r h2
      obtain ⟨a3, a4⟩ := pa_nx_gt h1 (by omega)
      obtain ⟨b1, b2⟩ := pa_ex_r h4
      obtain ⟨a5, a6⟩ := pa_nx_gt b2 (by rw [Nat.eq_of_beq_eq_true b1]; decide)
      have := hin _ _ _ h3
      rw [e, e2, a4, a6]
      exact ⟨pa_ex_lf h4, by simp only [List.nil_append, List.append_nil]; omega⟩
  split at h
  · obtain ⟨p1, c1, c2, h1, h2, e⟩ := pa_bnd_r h
    split at h2
    · split at h2
      · cases h2
      · obtain ⟨p3, c3, c4, h3, h4, e2⟩ := pa_bnd_r h2
        obtain ⟨p5, c5, c6, h5, h6, e3⟩ := pa_bnd_r h4
        obtain ⟨p7, c7, c8, h7, h8, e4⟩ := pa_bnd_r h6
        obtain ⟨p9, c9, c10, h9, h10, e5⟩ := pa_bnd_r h8
        obtain ⟨p11, c11, c12, h11, h12, e6⟩ := pa_bnd_r h10
        obtain ⟨a1, a2⟩ := pa_em_r h12
        obtain ⟨a3, a4⟩ := pa_nx_gt h1 (by omega)
        obtain ⟨a5, a6⟩ := pa_nx_gt h3 (by omega)
        obtain ⟨b1, b2⟩ := pa_ex_r h7
        obtain ⟨a7, a8⟩ := pa_nx_gt b2 (by rw [Nat.eq_of_beq_eq_true b1]; decide)
        obtain ⟨b3, b4⟩ := pa_ex_r h11
        obtain ⟨a9, a10⟩ := pa_nx_gt b4 (by rw [Nat.eq_of_beq_eq_true b3]; decide)
        have i1 := hin _ _ _ h5
        have i2 := hin _ _ _ h9
        rw [a1, e, e2, e3, e4, e5, e6, a4, a6, a8, a10, a2]
        exact ⟨pa_ex_lf h11, by simp only [List.nil_append, List.length_append, List.length_cons, List.length_nil]; omega⟩
    · cases h2
  · cases h
theorem pa_lp_lf {op : Nat → Bool} {q : Nat → pa_E} (ho : op 38 = false) (hq : ∀ p p' cs, q p = .inr (p', cs) → pa_lf tx T p' = none ∧ p + cs.length ≤ p') : ∀ (f p p' : Nat) (cs : List Nat), pa_lf tx T p = none → pa_lp tx T op q f p = .inr (p', cs) → pa_lf tx T p' = none ∧ p + cs.length ≤ p' := by
  intro f
  induction f with
  | zero =>
    intro p p' cs h0 h
    have h3 := Sum.inr.inj h
    rw [← (Prod.mk.inj h3).1, ← (Prod.mk.inj h3).2]
    exact ⟨h0, Nat.le_refl _⟩
  | succ f ih =>
    intro p p' cs h0 h
    have e1 : pa_lp tx T op q (f + 1) p = cond (op (pa_tk tx T p)) (pa_bnd (pa_nx tx T p) (fun p1 => pa_bnd (q p1) (fun p2 => pa_bnd (pa_em (pa_tk tx T p) p2) (pa_lp tx T op q f)))) (.inr (p, [])) := rfl
    rw [e1] at h
    cases hc : op (pa_tk tx T p) with
    | false =>
      rw [hc] at h
      have h3 := Sum.inr.inj h
      rw [← (Prod.mk.inj h3).1, ← (Prod.mk.inj h3).2]
      exact ⟨h0, Nat.le_refl _⟩
    | true =>
      rw [hc] at h
      obtain ⟨p1, c1, c2, h1, h2, e⟩ := pa_bnd_r h
      obtain ⟨p3, c3, c4, h3, h4, e2⟩ := pa_bnd_r h2
      obtain ⟨p5, c5, c6, h5, h6, e3⟩ := pa_bnd_r h4
      obtain ⟨a1, a2⟩ := pa_em_r h5
      obtain ⟨a3, a4⟩ := pa_nx_gt h1 (fun q => by rw [q, ho] at hc; cases hc)
      obtain ⟨q1, q2⟩ := hq _ _ _ h3
      obtain ⟨i1, i2⟩ := ih _ _ _ (by rw [a1]; exact q1) h6
      rw [e, e2, e3, a4, a2]
      exact ⟨i1, by simp only [List.nil_append, List.length_append, List.length_cons, List.length_nil]; omega⟩
theorem pa_row_lf {op : Nat → Bool} {q : Nat → pa_E} (ho : op 38 = false) (hq : ∀ p p' cs, q p = .inr (p', cs) → pa_lf tx T p' = none ∧ p + cs.length ≤ p') {f p p' : Nat} {cs : List Nat} (h : pa_bnd (q p) (pa_lp tx T op q f) = .inr (p', cs)) : pa_lf tx T p' = none ∧ p + cs.length ≤ p' := by
  obtain ⟨p1, c1, c2, h1, h2, e⟩ := pa_bnd_r h
  obtain ⟨a1, a2⟩ := hq _ _ _ h1
  obtain ⟨i1, i2⟩ := pa_lp_lf ho hq _ _ _ _ a1 h2
  rw [e]
  exact ⟨i1, by rw [List.length_append]; omega⟩
end RL
set_option maxHeartbeats 4000000 in
theorem tv_r_part {n sl : Nat} {kk : Nat → Nat × Nat} {I : Nat → Nat → Int32} {L : Nat → Nat → Int64} {q : Nat → Nat → Option Nat} {tx : Nat → Nat} {T G : Nat} {lev o dp : Nat} {inner : Nat → pa_E} (hH : rdG tx T G I) (ho : o + lev = 8) (hdp : 5 ≤ dp) (hin : ∀ p p' cs, inner p = .inr (p', cs) → p + cs.length ≤ p') (hI : 0 < lev → rdC tx T G n sl kk I L q 75 4 (dp - 1) (o + 1) inner) : rdC tx T G n sl kk I L q 77 4 dp o (pa_part tx T lev inner) := by
  intro d p ce cd nm gn hd hp hce hnm hl0
  obtain ⟨d, rfl⟩ : ∃ e, d = e + 5 := ⟨d - 5, by omega⟩
  have hT := hH.2.1
  have ht0 := pa_tk_lt (b := tx) (n := T) p
  have hg0 := pa_edo (tx := tx) (T := T) p
  have hj0 := pa_ed_le (b := tx) (n := T) (p := p) hp
  have hlast : ∀ p' cs, pa_part tx T lev inner p = .inr (p', cs) → pa_lf tx T p' = none ∧ p + cs.length ≤ p' := fun p' cs h => pa_part_lf hin h
  by_cases hz : lev = 0
  · show am_T _ _ 0 [some (.ref 57), some (.int (nI o)), none, none] _ (n, sl, wKK kk, (rdI I (nI (pa_sk tx T p)) (nI (pa_sk tx T p)) (nI (pa_tk tx T p)) nm gn 0 (-1) (nI ce) cd), L, wQQ q) _
    refine tv_b (pc' := (if (nI (pa_tk tx T p)) = 21 then 11 else 32)) (ls' := [some (.ref 57), some (.int (nI o)), some (.int (nI (pa_tk tx T p))), none]) (st' := []) (h' := (n, sl, wKK kk, (rdI I (nI (pa_sk tx T p)) (nI (pa_sk tx T p)) (nI (pa_tk tx T p)) nm gn 0 (-1) (nI ce) cd), L, wQQ q)) 6 rfl ?_
    refine tv_ifq (nI_eq (a := (pa_tk tx T p)) (b := 21) (by omega) (by omega)) (fun c8 => ?_) (fun c8 => ?_)
    · have hsub := hnm.1 c8
      subst hsub
      refine tv_b (pc' := 18) (ls' := [some (.ref 57), some (.int (nI o)), some (.int (nI (pa_tk tx T p))), none]) (st' := [.int 32, .int (nI (pa_nm tx T p)), .ref 57]) (h' := (n, sl, wKK kk, (rdI I (nI (pa_sk tx T p)) (nI (pa_sk tx T p)) (nI (pa_tk tx T p)) (nI (pa_nm tx T p)) gn 0 (-1) (nI ce) cd), L, wQQ q)) 4 rfl ?_
      refine tv_b (pc' := 19) (ls' := [some (.ref 57), some (.int (nI o)), some (.int (nI (pa_tk tx T p))), none]) (st' := [.int ((nI (pa_nm tx T p)) * 32), .ref 57]) (h' := (n, sl, wKK kk, (rdI I (nI (pa_sk tx T p)) (nI (pa_sk tx T p)) (nI (pa_tk tx T p)) (nI (pa_nm tx T p)) gn 0 (-1) (nI ce) cd), L, wQQ q)) 1 rfl ?_
      refine tv_top (show (nI (pa_nm tx T p)) * 32 = nI ((pa_nm tx T p) * 32) from nI_mul (pa_nm tx T p) 32) ?_
      refine tv_b (pc' := 21) (ls' := [some (.ref 57), some (.int (nI o)), some (.int (nI (pa_tk tx T p))), none]) (st' := [.int 21, .int (nI ((pa_nm tx T p) * 32)), .ref 57]) (h' := (n, sl, wKK kk, (rdI I (nI (pa_sk tx T p)) (nI (pa_sk tx T p)) (nI (pa_tk tx T p)) (nI (pa_nm tx T p)) gn 0 (-1) (nI ce) cd), L, wQQ q)) 1 rfl ?_
      refine tv_b (pc' := 22) (ls' := [some (.ref 57), some (.int (nI o)), some (.int (nI (pa_tk tx T p))), none]) (st' := [.int ((nI ((pa_nm tx T p) * 32)) + 21), .ref 57]) (h' := (n, sl, wKK kk, (rdI I (nI (pa_sk tx T p)) (nI (pa_sk tx T p)) (nI (pa_tk tx T p)) (nI (pa_nm tx T p)) gn 0 (-1) (nI ce) cd), L, wQQ q)) 1 rfl ?_
      refine tv_top (show (nI ((pa_nm tx T p) * 32)) + 21 = nI (((pa_nm tx T p) * 32) + 21) from nI_add ((pa_nm tx T p) * 32) 21) ?_
      refine tv_cvE [.int (nI (((pa_nm tx T p) * 32) + 21))] [] rfl rfl (by omega) rfl (Nat.le_of_ble_eq_true rfl) (Nat.le_of_ble_eq_true rfl) (Or.inr (Or.inr rfl)) (ev_r_emit (by omega)) ?_
      refine tv_b (pc' := 26) (ls' := [some (.ref 57), some (.int (nI o)), some (.int (nI (pa_tk tx T p))), none]) (st' := [.ref 57]) (h' := (n, sl, wKK kk, (rdI I (nI (pa_sk tx T p)) (nI (pa_sk tx T p)) (nI (pa_tk tx T p)) (nI (pa_nm tx T p)) gn 0 (-1) (nI (ce + 1)) (upd cd ce (nI (((pa_nm tx T p) * 32) + 21)))), L, wQQ q)) 1 rfl ?_
      refine tv_cv [] [] rfl rfl (by omega) rfl (Nat.le_of_ble_eq_true rfl) (Nat.le_of_ble_eq_true rfl) (Or.inr (Or.inr rfl)) (tv_r_nx hH (by omega) (by omega) hnm) ?_
      rintro rv9 h9 ⟨rfl, I9, rfl, ho, hlx⟩
      rcases rdO_c ho with ⟨k1, l1, s1, w1, m1, g1, f1, y1, c1, d1, hr1, hk1, hc1, rfl⟩ | ⟨p1, cs1, m1, g1, hr1, hp1, hn1, rfl⟩
      · refine tv_b (pc' := 268) (ls' := [some (.ref 57), some (.int (nI o)), some (.int (nI (pa_tk tx T p))), none]) (st' := []) (h' := (n, sl, wKK kk, (rdI I s1 w1 39 m1 g1 f1 y1 (nI c1) d1), L, wQQ q)) 1 rfl ?_
        refine tv_rv rfl ⟨rfl, _, rfl, ?_, hlast⟩
        unfold pa_part
        try dsimp only
        rw [if_pos c8]
        first | exact rdO_bl (hr1) (rdO_F (hr1) ⟨hk1, by omega⟩ rfl) | exact rdO_F (hr1) ⟨hk1, by omega⟩ rfl
      · have ht1 := pa_tk_lt (b := tx) (n := T) p1
        have hg1 := pa_edo (tx := tx) (T := T) p1
        obtain ⟨hl1, hv1⟩ := hlx _ _ hr1
        have hj1 := pa_ed_le (b := tx) (n := T) (p := p1) hp1.1
        obtain ⟨hq1, hz1⟩ := pa_nx_r hr1
        have hy1 : cs1.length = 0 := by rw [hz1]; rfl
        refine tv_b (pc' := 268) (ls' := [some (.ref 57), some (.int (nI o)), some (.int (nI (pa_tk tx T p))), none]) (st' := []) (h' := (n, sl, wKK kk, (rdI I (nI (pa_sk tx T p1)) (nI (pa_sk tx T p1)) (nI (pa_tk tx T p1)) m1 g1 0 (-1) (nI (ce + 1 + cs1.length)) (pa_wr (upd cd ce (nI (((pa_nm tx T p) * 32) + 21))) (ce + 1) cs1)), L, wQQ q)) 1 rfl ?_
        subst hz1
        refine tv_rv rfl ⟨rfl, _, rfl, ?_, hlast⟩
        unfold pa_part
        try dsimp only
        rw [if_pos c8]
        refine rdO_b hr1 ?_
        exact rdO_N (cs := [_]) rfl ⟨by omega, by simp only [List.length_cons, List.length_nil]; omega⟩ hn1 rfl
    · refine tv_b (pc' := (if (nI (pa_tk tx T p)) < 11 then 56 else 38)) (ls' := [some (.ref 57), some (.int (nI o)), some (.int (nI (pa_tk tx T p))), none]) (st' := []) (h' := (n, sl, wKK kk, (rdI I (nI (pa_sk tx T p)) (nI (pa_sk tx T p)) (nI (pa_tk tx T p)) nm gn 0 (-1) (nI ce) cd), L, wQQ q)) 3 rfl ?_
      refine tv_ifq (nI_ltI (a := (pa_tk tx T p)) (b := 11) (by omega) (by omega)) (fun c35 => ?_) (fun c35 => ?_)
      · refine tv_b (pc' := (if (nI (pa_tk tx T p)) = 18 then 62 else 131)) (ls' := [some (.ref 57), some (.int (nI o)), some (.int (nI (pa_tk tx T p))), none]) (st' := []) (h' := (n, sl, wKK kk, (rdI I (nI (pa_sk tx T p)) (nI (pa_sk tx T p)) (nI (pa_tk tx T p)) nm gn 0 (-1) (nI ce) cd), L, wQQ q)) 3 rfl ?_
        refine tv_ifq (nI_eq (a := (pa_tk tx T p)) (b := 18) (by omega) (by omega)) (fun c59 => ?_) (fun c59 => ?_)
        · refine tv_b (pc' := 63) (ls' := [some (.ref 57), some (.int (nI o)), some (.int (nI (pa_tk tx T p))), none]) (st' := [.ref 57]) (h' := (n, sl, wKK kk, (rdI I (nI (pa_sk tx T p)) (nI (pa_sk tx T p)) (nI (pa_tk tx T p)) nm gn 0 (-1) (nI ce) cd), L, wQQ q)) 1 rfl ?_
          refine tv_cv [] [] rfl rfl (by omega) rfl (Nat.le_of_ble_eq_true rfl) (Nat.le_of_ble_eq_true rfl) (Or.inr (Or.inr rfl)) (tv_r_nx hH (by omega) (by omega) hnm) ?_
          rintro rv9 h9 ⟨rfl, I9, rfl, ho, hlx⟩
          rcases rdO_c ho with ⟨k2, l2, s2, w2, m2, g2, f2, y2, c2, d2, hr2, hk2, hc2, rfl⟩ | ⟨p2, cs2, m2, g2, hr2, hp2, hn2, rfl⟩
          · refine tv_b (pc' := 114) (ls' := [some (.ref 57), some (.int (nI o)), some (.int (nI (pa_tk tx T p))), some (.int m2)]) (st' := [.int 0, .ref 57]) (h' := (n, sl, wKK kk, (rdI I s2 w2 39 m2 g2 f2 y2 (nI c2) d2), L, wQQ q)) 13 rfl ?_
            refine tv_cvE [.int 0] [] rfl rfl (by omega) rfl (Nat.le_of_ble_eq_true rfl) (Nat.le_of_ble_eq_true rfl) (Or.inr (Or.inr rfl)) (ev_r_expectE hk2) ?_
            refine tv_b (pc' := 125) (ls' := [some (.ref 57), some (.int (nI o)), some (.int (nI (pa_tk tx T p))), some (.int m2)]) (st' := [.int ((m2 * 32) + 18), .ref 57]) (h' := (n, sl, wKK kk, (rdI I s2 w2 39 m2 g2 (nI k2) (nI l2) (nI c2) d2), L, wQQ q)) 6 rfl ?_
            refine tv_cvE [.int ((m2 * 32) + 18)] [] rfl rfl (by omega) rfl (Nat.le_of_ble_eq_true rfl) (Nat.le_of_ble_eq_true rfl) (Or.inr (Or.inr rfl)) (ev_r_emitF (rd_k (rd_F hk2))) ?_
            refine tv_b (pc' := 268) (ls' := [some (.ref 57), some (.int (nI o)), some (.int (nI (pa_tk tx T p))), some (.int m2)]) (st' := []) (h' := (n, sl, wKK kk, (rdI I s2 w2 39 m2 g2 (nI k2) (nI l2) (nI c2) d2), L, wQQ q)) 1 rfl ?_
            refine tv_rv rfl ⟨rfl, _, rfl, ?_, hlast⟩
            unfold pa_part
            try dsimp only
            rw [if_neg (by omega), if_neg (by omega), if_pos (by omega)]
            first | exact rdO_bl (hr2) (rdO_F (hr2) ⟨(rd_F hk2), by omega⟩ rfl) | exact rdO_F (hr2) ⟨(rd_F hk2), by omega⟩ rfl
          · have ht2 := pa_tk_lt (b := tx) (n := T) p2
            have hg2 := pa_edo (tx := tx) (T := T) p2
            obtain ⟨hl2, hv2⟩ := hlx _ _ hr2
            have hj2 := pa_ed_le (b := tx) (n := T) (p := p2) hp2.1
            obtain ⟨hq2, hz2⟩ := pa_nx_r hr2
            have hy2 : cs2.length = 0 := by rw [hz2]; rfl
            refine tv_b (pc' := (if (nI (pa_tk tx T p2)) = 21 then 75 else 94)) (ls' := [some (.ref 57), some (.int (nI o)), some (.int (nI (pa_tk tx T p))), none]) (st' := []) (h' := (n, sl, wKK kk, (rdI I (nI (pa_sk tx T p2)) (nI (pa_sk tx T p2)) (nI (pa_tk tx T p2)) m2 g2 0 (-1) (nI (ce + cs2.length)) (pa_wr cd ce cs2)), L, wQQ q)) 4 rfl ?_
            refine tv_ifq (nI_eq (a := (pa_tk tx T p2)) (b := 21) (by omega) (by omega)) (fun c72 => ?_) (fun c72 => ?_)
            · have hsub := hn2.1 c72
              subst hsub
              refine tv_b (pc' := 79) (ls' := [some (.ref 57), some (.int (nI o)), some (.int (nI (pa_tk tx T p))), none]) (st' := [.int (nI (pa_nm tx T p2))]) (h' := (n, sl, wKK kk, (rdI I (nI (pa_sk tx T p2)) (nI (pa_sk tx T p2)) (nI (pa_tk tx T p2)) (nI (pa_nm tx T p2)) g2 0 (-1) (nI (ce + cs2.length)) (pa_wr cd ce cs2)), L, wQQ q)) 2 rfl ?_
              have hnl := pa_nm_lt hl2 c72
              refine tv_csE [.int (nI (pa_nm tx T p2))] [] rfl rfl (by omega) rfl (Nat.le_of_ble_eq_true rfl) (Nat.le_of_ble_eq_true rfl) (ev_r_isCol (by omega)) ?_
              refine tv_b (pc' := (if (if pa_nm tx T p2 < 16 then 1 else 0) = 0 then 85 else 94)) (ls' := [some (.ref 57), some (.int (nI o)), some (.int (nI (pa_tk tx T p))), none]) (st' := []) (h' := (n, sl, wKK kk, (rdI I (nI (pa_sk tx T p2)) (nI (pa_sk tx T p2)) (nI (pa_tk tx T p2)) (nI (pa_nm tx T p2)) g2 0 (-1) (nI (ce + cs2.length)) (pa_wr cd ce cs2)), L, wQQ q)) 1 rfl ?_
              refine tv_b0 (fun c82 => ?_) (fun c82 => ?_)
              · refine tv_b (pc' := 91) (ls' := [some (.ref 57), some (.int (nI o)), some (.int (nI (pa_tk tx T p))), none]) (st' := [.int (nI (pa_sk tx T p2)), .int 4, .ref 57]) (h' := (n, sl, wKK kk, (rdI I (nI (pa_sk tx T p2)) (nI (pa_sk tx T p2)) (nI (pa_tk tx T p2)) (nI (pa_nm tx T p2)) g2 0 (-1) (nI (ce + cs2.length)) (pa_wr cd ce cs2)), L, wQQ q)) 4 rfl ?_
                refine tv_cvE [.int 4, .int (nI (pa_sk tx T p2))] [] rfl rfl (by omega) rfl (Nat.le_of_ble_eq_true rfl) (Nat.le_of_ble_eq_true rfl) (Or.inr (Or.inr rfl)) (ev_r_fail0) ?_
                refine tv_b (pc' := 114) (ls' := [some (.ref 57), some (.int (nI o)), some (.int (nI (pa_tk tx T p))), some (.int (nI (pa_nm tx T p2)))]) (st' := [.int 0, .ref 57]) (h' := (n, sl, wKK kk, (rdI I (nI (pa_sk tx T p2)) (nI (pa_sk tx T p2)) 39 (nI (pa_nm tx T p2)) g2 4 (nI (pa_sk tx T p2)) (nI (ce + cs2.length)) (pa_wr cd ce cs2)), L, wQQ q)) 9 rfl ?_
                refine tv_cvE [.int 0] [] rfl rfl (by omega) rfl (Nat.le_of_ble_eq_true rfl) (Nat.le_of_ble_eq_true rfl) (Or.inr (Or.inr rfl)) (ev_r_expectE (rd_L (k := 4) (l := pa_sk tx T p2) (w := nI (pa_sk tx T p2)) (xf := 4) (by decide) rfl)) ?_
                refine tv_b (pc' := 121) (ls' := [some (.ref 57), some (.int (nI o)), some (.int (nI (pa_tk tx T p))), some (.int (nI (pa_nm tx T p2)))]) (st' := [.int 32, .int (nI (pa_nm tx T p2)), .ref 57]) (h' := (n, sl, wKK kk, (rdI I (nI (pa_sk tx T p2)) (nI (pa_sk tx T p2)) 39 (nI (pa_nm tx T p2)) g2 (nI 4) (nI (pa_sk tx T p2)) (nI (ce + cs2.length)) (pa_wr cd ce cs2)), L, wQQ q)) 3 rfl ?_
                refine tv_b (pc' := 122) (ls' := [some (.ref 57), some (.int (nI o)), some (.int (nI (pa_tk tx T p))), some (.int (nI (pa_nm tx T p2)))]) (st' := [.int ((nI (pa_nm tx T p2)) * 32), .ref 57]) (h' := (n, sl, wKK kk, (rdI I (nI (pa_sk tx T p2)) (nI (pa_sk tx T p2)) 39 (nI (pa_nm tx T p2)) g2 (nI 4) (nI (pa_sk tx T p2)) (nI (ce + cs2.length)) (pa_wr cd ce cs2)), L, wQQ q)) 1 rfl ?_
                refine tv_top (show (nI (pa_nm tx T p2)) * 32 = nI ((pa_nm tx T p2) * 32) from nI_mul (pa_nm tx T p2) 32) ?_
                refine tv_b (pc' := 124) (ls' := [some (.ref 57), some (.int (nI o)), some (.int (nI (pa_tk tx T p))), some (.int (nI (pa_nm tx T p2)))]) (st' := [.int 18, .int (nI ((pa_nm tx T p2) * 32)), .ref 57]) (h' := (n, sl, wKK kk, (rdI I (nI (pa_sk tx T p2)) (nI (pa_sk tx T p2)) 39 (nI (pa_nm tx T p2)) g2 (nI 4) (nI (pa_sk tx T p2)) (nI (ce + cs2.length)) (pa_wr cd ce cs2)), L, wQQ q)) 1 rfl ?_
                refine tv_b (pc' := 125) (ls' := [some (.ref 57), some (.int (nI o)), some (.int (nI (pa_tk tx T p))), some (.int (nI (pa_nm tx T p2)))]) (st' := [.int ((nI ((pa_nm tx T p2) * 32)) + 18), .ref 57]) (h' := (n, sl, wKK kk, (rdI I (nI (pa_sk tx T p2)) (nI (pa_sk tx T p2)) 39 (nI (pa_nm tx T p2)) g2 (nI 4) (nI (pa_sk tx T p2)) (nI (ce + cs2.length)) (pa_wr cd ce cs2)), L, wQQ q)) 1 rfl ?_
                refine tv_top (show (nI ((pa_nm tx T p2) * 32)) + 18 = nI (((pa_nm tx T p2) * 32) + 18) from nI_add ((pa_nm tx T p2) * 32) 18) ?_
                refine tv_cvE [.int (nI (((pa_nm tx T p2) * 32) + 18))] [] rfl rfl (by omega) rfl (Nat.le_of_ble_eq_true rfl) (Nat.le_of_ble_eq_true rfl) (Or.inr (Or.inr rfl)) (ev_r_emitF (rd_k (rd_F (rd_L (k := 4) (l := pa_sk tx T p2) (w := nI (pa_sk tx T p2)) (xf := 4) (by decide) rfl)))) ?_
                refine tv_b (pc' := 268) (ls' := [some (.ref 57), some (.int (nI o)), some (.int (nI (pa_tk tx T p))), some (.int (nI (pa_nm tx T p2)))]) (st' := []) (h' := (n, sl, wKK kk, (rdI I (nI (pa_sk tx T p2)) (nI (pa_sk tx T p2)) 39 (nI (pa_nm tx T p2)) g2 (nI 4) (nI (pa_sk tx T p2)) (nI (ce + cs2.length)) (pa_wr cd ce cs2)), L, wQQ q)) 1 rfl ?_
                refine tv_rv rfl ⟨rfl, _, rfl, ?_, hlast⟩
                unfold pa_part
                try dsimp only
                rw [if_neg (by omega), if_neg (by omega), if_pos (by omega)]
                refine rdO_b (hr2) ?_
                try dsimp only
                rw [if_pos c72]
                rw [if_pos (by omega)]
                first | exact rdO_F (rfl) ⟨(rd_F (rd_L (k := 4) (l := pa_sk tx T p2) (w := nI (pa_sk tx T p2)) (xf := 4) (by decide) rfl)), by omega⟩ rfl | exact rdO_bl (rfl) (rdO_F (rfl) ⟨(rd_F (rd_L (k := 4) (l := pa_sk tx T p2) (w := nI (pa_sk tx T p2)) (xf := 4) (by decide) rfl)), by omega⟩ rfl)
              · refine tv_b (pc' := (if (nI (pa_tk tx T p2)) = 21 then 109 else 113)) (ls' := [some (.ref 57), some (.int (nI o)), some (.int (nI (pa_tk tx T p))), some (.int (nI (pa_nm tx T p2)))]) (st' := [.ref 57]) (h' := (n, sl, wKK kk, (rdI I (nI (pa_sk tx T p2)) (nI (pa_sk tx T p2)) (nI (pa_tk tx T p2)) (nI (pa_nm tx T p2)) g2 0 (-1) (nI (ce + cs2.length)) (pa_wr cd ce cs2)), L, wQQ q)) 8 rfl ?_
                refine tv_t ((nI_eq (a := (pa_tk tx T p2)) (b := 21) (by omega) (by omega)).mpr (by omega)) ?_
                refine tv_b (pc' := 114) (ls' := [some (.ref 57), some (.int (nI o)), some (.int (nI (pa_tk tx T p))), some (.int (nI (pa_nm tx T p2)))]) (st' := [.int 1, .ref 57]) (h' := (n, sl, wKK kk, (rdI I (nI (pa_sk tx T p2)) (nI (pa_sk tx T p2)) (nI (pa_tk tx T p2)) (nI (pa_nm tx T p2)) g2 0 (-1) (nI (ce + cs2.length)) (pa_wr cd ce cs2)), L, wQQ q)) 2 rfl ?_
                refine tv_cv [.int 1] [] rfl rfl (by omega) rfl (Nat.le_of_ble_eq_true rfl) (Nat.le_of_ble_eq_true rfl) (Or.inr (Or.inr rfl)) (tv_r_ex1 hH (by omega) (by omega) hn2) ?_
                rintro rv9 h9 ⟨rfl, I9, rfl, ho, hlx⟩
                rcases rdO_c ho with ⟨k3, l3, s3, w3, m3, g3, f3, y3, c3, d3, hr3, hk3, hc3, rfl⟩ | ⟨p3, cs3, m3, g3, hr3, hp3, hn3, rfl⟩
                · refine tv_b (pc' := 121) (ls' := [some (.ref 57), some (.int (nI o)), some (.int (nI (pa_tk tx T p))), some (.int (nI (pa_nm tx T p2)))]) (st' := [.int 32, .int (nI (pa_nm tx T p2)), .ref 57]) (h' := (n, sl, wKK kk, (rdI I s3 w3 39 m3 g3 f3 y3 (nI c3) d3), L, wQQ q)) 3 rfl ?_
                  refine tv_b (pc' := 122) (ls' := [some (.ref 57), some (.int (nI o)), some (.int (nI (pa_tk tx T p))), some (.int (nI (pa_nm tx T p2)))]) (st' := [.int ((nI (pa_nm tx T p2)) * 32), .ref 57]) (h' := (n, sl, wKK kk, (rdI I s3 w3 39 m3 g3 f3 y3 (nI c3) d3), L, wQQ q)) 1 rfl ?_
                  refine tv_top (show (nI (pa_nm tx T p2)) * 32 = nI ((pa_nm tx T p2) * 32) from nI_mul (pa_nm tx T p2) 32) ?_
                  refine tv_b (pc' := 124) (ls' := [some (.ref 57), some (.int (nI o)), some (.int (nI (pa_tk tx T p))), some (.int (nI (pa_nm tx T p2)))]) (st' := [.int 18, .int (nI ((pa_nm tx T p2) * 32)), .ref 57]) (h' := (n, sl, wKK kk, (rdI I s3 w3 39 m3 g3 f3 y3 (nI c3) d3), L, wQQ q)) 1 rfl ?_
                  refine tv_b (pc' := 125) (ls' := [some (.ref 57), some (.int (nI o)), some (.int (nI (pa_tk tx T p))), some (.int (nI (pa_nm tx T p2)))]) (st' := [.int ((nI ((pa_nm tx T p2) * 32)) + 18), .ref 57]) (h' := (n, sl, wKK kk, (rdI I s3 w3 39 m3 g3 f3 y3 (nI c3) d3), L, wQQ q)) 1 rfl ?_
                  refine tv_top (show (nI ((pa_nm tx T p2) * 32)) + 18 = nI (((pa_nm tx T p2) * 32) + 18) from nI_add ((pa_nm tx T p2) * 32) 18) ?_
                  refine tv_cv [.int (nI (((pa_nm tx T p2) * 32) + 18))] [] rfl rfl (by omega) rfl (Nat.le_of_ble_eq_true rfl) (Nat.le_of_ble_eq_true rfl) (Or.inr (Or.inr rfl)) (tv_r_emitE hk3 (by omega)) ?_
                  rintro rv9 h9 ⟨rfl, e1, b1, hb1, rfl⟩
                  refine tv_b (pc' := 268) (ls' := [some (.ref 57), some (.int (nI o)), some (.int (nI (pa_tk tx T p))), some (.int (nI (pa_nm tx T p2)))]) (st' := []) (h' := (n, sl, wKK kk, (rdI I s3 w3 39 m3 g3 f3 y3 (nI e1) b1), L, wQQ q)) 1 rfl ?_
                  refine tv_rv rfl ⟨rfl, _, rfl, ?_, hlast⟩
                  unfold pa_part
                  try dsimp only
                  rw [if_neg (by omega), if_neg (by omega), if_pos (by omega)]
                  refine rdO_b (hr2) ?_
                  try dsimp only
                  rw [if_pos c72]
                  rw [if_neg (by omega)]
                  first | exact rdO_bl (hr3) (rdO_F (hr3) ⟨hk3, by omega⟩ rfl) | exact rdO_F (hr3) ⟨hk3, by omega⟩ rfl
                · have ht3 := pa_tk_lt (b := tx) (n := T) p3
                  have hg3 := pa_edo (tx := tx) (T := T) p3
                  obtain ⟨hl3, hv3⟩ := hlx _ _ hr3
                  have hj3 := pa_ed_le (b := tx) (n := T) (p := p3) hp3.1
                  obtain ⟨hq3, hz3⟩ := pa_nx_r hr3
                  have hy3 : cs3.length = 0 := by rw [hz3]; rfl
                  refine tv_b (pc' := 121) (ls' := [some (.ref 57), some (.int (nI o)), some (.int (nI (pa_tk tx T p))), some (.int (nI (pa_nm tx T p2)))]) (st' := [.int 32, .int (nI (pa_nm tx T p2)), .ref 57]) (h' := (n, sl, wKK kk, (rdI I (nI (pa_sk tx T p3)) (nI (pa_sk tx T p3)) (nI (pa_tk tx T p3)) m3 g3 0 (-1) (nI (ce + cs2.length + cs3.length)) (pa_wr (pa_wr cd ce cs2) (ce + cs2.length) cs3)), L, wQQ q)) 3 rfl ?_
                  refine tv_b (pc' := 122) (ls' := [some (.ref 57), some (.int (nI o)), some (.int (nI (pa_tk tx T p))), some (.int (nI (pa_nm tx T p2)))]) (st' := [.int ((nI (pa_nm tx T p2)) * 32), .ref 57]) (h' := (n, sl, wKK kk, (rdI I (nI (pa_sk tx T p3)) (nI (pa_sk tx T p3)) (nI (pa_tk tx T p3)) m3 g3 0 (-1) (nI (ce + cs2.length + cs3.length)) (pa_wr (pa_wr cd ce cs2) (ce + cs2.length) cs3)), L, wQQ q)) 1 rfl ?_
                  refine tv_top (show (nI (pa_nm tx T p2)) * 32 = nI ((pa_nm tx T p2) * 32) from nI_mul (pa_nm tx T p2) 32) ?_
                  refine tv_b (pc' := 124) (ls' := [some (.ref 57), some (.int (nI o)), some (.int (nI (pa_tk tx T p))), some (.int (nI (pa_nm tx T p2)))]) (st' := [.int 18, .int (nI ((pa_nm tx T p2) * 32)), .ref 57]) (h' := (n, sl, wKK kk, (rdI I (nI (pa_sk tx T p3)) (nI (pa_sk tx T p3)) (nI (pa_tk tx T p3)) m3 g3 0 (-1) (nI (ce + cs2.length + cs3.length)) (pa_wr (pa_wr cd ce cs2) (ce + cs2.length) cs3)), L, wQQ q)) 1 rfl ?_
                  refine tv_b (pc' := 125) (ls' := [some (.ref 57), some (.int (nI o)), some (.int (nI (pa_tk tx T p))), some (.int (nI (pa_nm tx T p2)))]) (st' := [.int ((nI ((pa_nm tx T p2) * 32)) + 18), .ref 57]) (h' := (n, sl, wKK kk, (rdI I (nI (pa_sk tx T p3)) (nI (pa_sk tx T p3)) (nI (pa_tk tx T p3)) m3 g3 0 (-1) (nI (ce + cs2.length + cs3.length)) (pa_wr (pa_wr cd ce cs2) (ce + cs2.length) cs3)), L, wQQ q)) 1 rfl ?_
                  refine tv_top (show (nI ((pa_nm tx T p2) * 32)) + 18 = nI (((pa_nm tx T p2) * 32) + 18) from nI_add ((pa_nm tx T p2) * 32) 18) ?_
                  refine tv_cvE [.int (nI (((pa_nm tx T p2) * 32) + 18))] [] rfl rfl (by omega) rfl (Nat.le_of_ble_eq_true rfl) (Nat.le_of_ble_eq_true rfl) (Or.inr (Or.inr rfl)) (ev_r_emit (by omega)) ?_
                  refine tv_b (pc' := 268) (ls' := [some (.ref 57), some (.int (nI o)), some (.int (nI (pa_tk tx T p))), some (.int (nI (pa_nm tx T p2)))]) (st' := []) (h' := (n, sl, wKK kk, (rdI I (nI (pa_sk tx T p3)) (nI (pa_sk tx T p3)) (nI (pa_tk tx T p3)) m3 g3 0 (-1) (nI (ce + cs2.length + cs3.length + 1)) (upd (pa_wr (pa_wr cd ce cs2) (ce + cs2.length) cs3) (ce + cs2.length + cs3.length) (nI (((pa_nm tx T p2) * 32) + 18)))), L, wQQ q)) 1 rfl ?_
                  refine tv_rv rfl ⟨rfl, _, rfl, ?_, hlast⟩
                  unfold pa_part
                  try dsimp only
                  rw [if_neg (by omega), if_neg (by omega), if_pos (by omega)]
                  refine rdO_b (hr2) ?_
                  try dsimp only
                  rw [if_pos c72]
                  rw [if_neg (by omega)]
                  refine rdO_b (hr3) ?_
                  try dsimp only
                  exact rdO_em ⟨by omega, by omega⟩ hn3 rfl
            · refine tv_b (pc' := (if (nI (pa_tk tx T p2)) = 21 then 109 else 113)) (ls' := [some (.ref 57), some (.int (nI o)), some (.int (nI (pa_tk tx T p))), some (.int m2)]) (st' := [.ref 57]) (h' := (n, sl, wKK kk, (rdI I (nI (pa_sk tx T p2)) (nI (pa_sk tx T p2)) (nI (pa_tk tx T p2)) m2 g2 0 (-1) (nI (ce + cs2.length)) (pa_wr cd ce cs2)), L, wQQ q)) 8 rfl ?_
              refine tv_f (fun hq => absurd ((nI_eq (a := (pa_tk tx T p2)) (b := 21) (by omega) (by omega)).mp hq) (by omega)) ?_
              refine tv_b (pc' := 114) (ls' := [some (.ref 57), some (.int (nI o)), some (.int (nI (pa_tk tx T p))), some (.int m2)]) (st' := [.int 0, .ref 57]) (h' := (n, sl, wKK kk, (rdI I (nI (pa_sk tx T p2)) (nI (pa_sk tx T p2)) (nI (pa_tk tx T p2)) m2 g2 0 (-1) (nI (ce + cs2.length)) (pa_wr cd ce cs2)), L, wQQ q)) 1 rfl ?_
              refine tv_cvE [.int 0] [] rfl rfl (by omega) rfl (Nat.le_of_ble_eq_true rfl) (Nat.le_of_ble_eq_true rfl) (Or.inr (Or.inr rfl)) (ev_r_ex0) ?_
              refine tv_b (pc' := 125) (ls' := [some (.ref 57), some (.int (nI o)), some (.int (nI (pa_tk tx T p))), some (.int m2)]) (st' := [.int ((m2 * 32) + 18), .ref 57]) (h' := (n, sl, wKK kk, (rdI I (nI (pa_sk tx T p2)) (nI (pa_sk tx T p2)) 39 m2 g2 1 (nI (pa_sk tx T p2)) (nI (ce + cs2.length)) (pa_wr cd ce cs2)), L, wQQ q)) 6 rfl ?_
              refine tv_cvE [.int ((m2 * 32) + 18)] [] rfl rfl (by omega) rfl (Nat.le_of_ble_eq_true rfl) (Nat.le_of_ble_eq_true rfl) (Or.inr (Or.inr rfl)) (ev_r_emitF (rd_k (rd_L (k := 1) (l := pa_sk tx T p2) (w := nI (pa_sk tx T p2)) (xf := 1) (by decide) rfl))) ?_
              refine tv_b (pc' := 268) (ls' := [some (.ref 57), some (.int (nI o)), some (.int (nI (pa_tk tx T p))), some (.int m2)]) (st' := []) (h' := (n, sl, wKK kk, (rdI I (nI (pa_sk tx T p2)) (nI (pa_sk tx T p2)) 39 m2 g2 1 (nI (pa_sk tx T p2)) (nI (ce + cs2.length)) (pa_wr cd ce cs2)), L, wQQ q)) 1 rfl ?_
              refine tv_rv rfl ⟨rfl, _, rfl, ?_, hlast⟩
              unfold pa_part
              try dsimp only
              rw [if_neg (by omega), if_neg (by omega), if_pos (by omega)]
              refine rdO_b (hr2) ?_
              try dsimp only
              rw [if_neg c72]
              first | exact rdO_F (rfl) ⟨(rd_L (k := 1) (l := pa_sk tx T p2) (w := nI (pa_sk tx T p2)) (xf := 1) (by decide) rfl), by omega⟩ rfl | exact rdO_bl (rfl) (rdO_F (rfl) ⟨(rd_L (k := 1) (l := pa_sk tx T p2) (w := nI (pa_sk tx T p2)) (xf := 1) (by decide) rfl), by omega⟩ rfl)
        · refine tv_b (pc' := (if (nI (pa_tk tx T p)) = 32 then 137 else 175)) (ls' := [some (.ref 57), some (.int (nI o)), some (.int (nI (pa_tk tx T p))), none]) (st' := []) (h' := (n, sl, wKK kk, (rdI I (nI (pa_sk tx T p)) (nI (pa_sk tx T p)) (nI (pa_tk tx T p)) nm gn 0 (-1) (nI ce) cd), L, wQQ q)) 3 rfl ?_
          refine tv_ifq (nI_eq (a := (pa_tk tx T p)) (b := 32) (by omega) (by omega)) (fun c134 => ?_) (fun c134 => ?_)
          · refine tv_b (pc' := 141) (ls' := [some (.ref 57), some (.int (nI o)), some (.int (nI (pa_tk tx T p))), none]) (st' := [.int (nI o), .int 32, .ref 57]) (h' := (n, sl, wKK kk, (rdI I (nI (pa_sk tx T p)) (nI (pa_sk tx T p)) (nI (pa_tk tx T p)) nm gn 0 (-1) (nI ce) cd), L, wQQ q)) 3 rfl ?_
            refine tv_cvE [.int 32, .int (nI o)] [] rfl rfl (by omega) rfl (Nat.le_of_ble_eq_true rfl) (Nat.le_of_ble_eq_true rfl) (Or.inr (Or.inr rfl)) (ev_r_op5_32 c134 (by omega) (by omega)) ?_
            refine tv_b (pc' := 268) (ls' := [some (.ref 57), some (.int (nI o)), some (.int (nI (pa_tk tx T p))), none]) (st' := []) (h' := (n, sl, wKK kk, (rdI I (nI (pa_sk tx T p)) (nI (pa_sk tx T p)) 39 nm gn 5 (nI (pa_sk tx T p)) (nI ce) cd), L, wQQ q)) 1 rfl ?_
            refine tv_rv rfl ⟨rfl, _, rfl, ?_, hlast⟩
            unfold pa_part
            try dsimp only
            rw [if_neg (by omega), if_neg (by omega), if_neg (by omega), if_pos (by omega)]
            rw [if_pos hz]
            first | exact rdO_F (rfl) ⟨(rd_L (k := 5) (l := pa_sk tx T p) (w := nI (pa_sk tx T p)) (xf := 5) (by decide) rfl), by omega⟩ rfl | exact rdO_bl (rfl) (rdO_F (rfl) ⟨(rd_L (k := 5) (l := pa_sk tx T p) (w := nI (pa_sk tx T p)) (xf := 5) (by decide) rfl), by omega⟩ rfl)
          · refine tv_b (pc' := (if (nI (pa_tk tx T p)) = 19 then 187 else 181)) (ls' := [some (.ref 57), some (.int (nI o)), some (.int (nI (pa_tk tx T p))), none]) (st' := []) (h' := (n, sl, wKK kk, (rdI I (nI (pa_sk tx T p)) (nI (pa_sk tx T p)) (nI (pa_tk tx T p)) nm gn 0 (-1) (nI ce) cd), L, wQQ q)) 3 rfl ?_
            refine tv_ifq (nI_eq (a := (pa_tk tx T p)) (b := 19) (by omega) (by omega)) (fun c178 => ?_) (fun c178 => ?_)
            · refine tv_b (pc' := 188) (ls' := [some (.ref 57), some (.int (nI o)), some (.int (nI (pa_tk tx T p))), none]) (st' := [.ref 57]) (h' := (n, sl, wKK kk, (rdI I (nI (pa_sk tx T p)) (nI (pa_sk tx T p)) (nI (pa_tk tx T p)) nm gn 0 (-1) (nI ce) cd), L, wQQ q)) 1 rfl ?_
              refine tv_cv [] [] rfl rfl (by omega) rfl (Nat.le_of_ble_eq_true rfl) (Nat.le_of_ble_eq_true rfl) (Or.inr (Or.inr rfl)) (tv_r_nx hH (by omega) (by omega) hnm) ?_
              rintro rv9 h9 ⟨rfl, I9, rfl, ho, hlx⟩
              rcases rdO_c ho with ⟨k4, l4, s4, w4, m4, g4, f4, y4, c4, d4, hr4, hk4, hc4, rfl⟩ | ⟨p4, cs4, m4, g4, hr4, hp4, hn4, rfl⟩
              · refine tv_b (pc' := 195) (ls' := [some (.ref 57), some (.int (nI o)), some (.int (nI (pa_tk tx T p))), none]) (st' := [.int (nI o), .int 32, .ref 57]) (h' := (n, sl, wKK kk, (rdI I s4 w4 39 m4 g4 f4 y4 (nI c4) d4), L, wQQ q)) 3 rfl ?_
                refine tv_cvE [.int 32, .int (nI o)] [] rfl rfl (by omega) rfl (Nat.le_of_ble_eq_true rfl) (Nat.le_of_ble_eq_true rfl) (Or.inr (Or.inr rfl)) (ev_r_opensE32 hk4) ?_
                refine tv_b (pc' := 268) (ls' := [some (.ref 57), some (.int (nI o)), some (.int (nI (pa_tk tx T p))), none]) (st' := []) (h' := (n, sl, wKK kk, (rdI I s4 w4 39 m4 g4 (nI k4) (nI l4) (nI c4) d4), L, wQQ q)) 1 rfl ?_
                refine tv_rv rfl ⟨rfl, _, rfl, ?_, hlast⟩
                unfold pa_part
                try dsimp only
                rw [if_neg (by omega), if_neg (by omega), if_neg (by omega), if_neg (by omega), if_pos (by omega)]
                first | exact rdO_bl (hr4) (rdO_F (hr4) ⟨(rd_F hk4), by omega⟩ rfl) | exact rdO_F (hr4) ⟨(rd_F hk4), by omega⟩ rfl
              · have ht4 := pa_tk_lt (b := tx) (n := T) p4
                have hg4 := pa_edo (tx := tx) (T := T) p4
                obtain ⟨hl4, hv4⟩ := hlx _ _ hr4
                have hj4 := pa_ed_le (b := tx) (n := T) (p := p4) hp4.1
                obtain ⟨hq4, hz4⟩ := pa_nx_r hr4
                have hy4 : cs4.length = 0 := by rw [hz4]; rfl
                by_cases hb : pa_tk tx T p4 = 32
                · refine tv_b (pc' := 195) (ls' := [some (.ref 57), some (.int (nI o)), some (.int (nI (pa_tk tx T p))), none]) (st' := [.int (nI o), .int 32, .ref 57]) (h' := (n, sl, wKK kk, (rdI I (nI (pa_sk tx T p4)) (nI (pa_sk tx T p4)) (nI (pa_tk tx T p4)) m4 g4 0 (-1) (nI (ce + cs4.length)) (pa_wr cd ce cs4)), L, wQQ q)) 3 rfl ?_
                  refine tv_cvE [.int 32, .int (nI o)] [] rfl rfl (by omega) rfl (Nat.le_of_ble_eq_true rfl) (Nat.le_of_ble_eq_true rfl) (Or.inr (Or.inr rfl)) (ev_r_op5_32 hb (by omega) (by omega)) ?_
                  refine tv_b (pc' := 268) (ls' := [some (.ref 57), some (.int (nI o)), some (.int (nI (pa_tk tx T p))), none]) (st' := []) (h' := (n, sl, wKK kk, (rdI I (nI (pa_sk tx T p4)) (nI (pa_sk tx T p4)) 39 m4 g4 5 (nI (pa_sk tx T p4)) (nI (ce + cs4.length)) (pa_wr cd ce cs4)), L, wQQ q)) 1 rfl ?_
                  refine tv_rv rfl ⟨rfl, _, rfl, ?_, hlast⟩
                  unfold pa_part
                  try dsimp only
                  rw [if_neg (by omega), if_neg (by omega), if_neg (by omega), if_neg (by omega), if_pos (by omega)]
                  refine rdO_b (hr4) ?_
                  try dsimp only
                  rw [if_pos hb]
                  rw [if_pos hz]
                  first | exact rdO_F (rfl) ⟨(rd_L (k := 5) (l := pa_sk tx T p4) (w := nI (pa_sk tx T p4)) (xf := 5) (by decide) rfl), by omega⟩ rfl | exact rdO_bl (rfl) (rdO_F (rfl) ⟨(rd_L (k := 5) (l := pa_sk tx T p4) (w := nI (pa_sk tx T p4)) (xf := 5) (by decide) rfl), by omega⟩ rfl)
                · refine tv_b (pc' := 195) (ls' := [some (.ref 57), some (.int (nI o)), some (.int (nI (pa_tk tx T p))), none]) (st' := [.int (nI o), .int 32, .ref 57]) (h' := (n, sl, wKK kk, (rdI I (nI (pa_sk tx T p4)) (nI (pa_sk tx T p4)) (nI (pa_tk tx T p4)) m4 g4 0 (-1) (nI (ce + cs4.length)) (pa_wr cd ce cs4)), L, wQQ q)) 3 rfl ?_
                  refine tv_cvE [.int 32, .int (nI o)] [] rfl rfl (by omega) rfl (Nat.le_of_ble_eq_true rfl) (Nat.le_of_ble_eq_true rfl) (Or.inr (Or.inr rfl)) (ev_r_op1_32 hb (by omega)) ?_
                  refine tv_b (pc' := 268) (ls' := [some (.ref 57), some (.int (nI o)), some (.int (nI (pa_tk tx T p))), none]) (st' := []) (h' := (n, sl, wKK kk, (rdI I (nI (pa_sk tx T p4)) (nI (pa_sk tx T p4)) 39 m4 g4 1 (nI (pa_sk tx T p4)) (nI (ce + cs4.length)) (pa_wr cd ce cs4)), L, wQQ q)) 1 rfl ?_
                  refine tv_rv rfl ⟨rfl, _, rfl, ?_, hlast⟩
                  unfold pa_part
                  try dsimp only
                  rw [if_neg (by omega), if_neg (by omega), if_neg (by omega), if_neg (by omega), if_pos (by omega)]
                  refine rdO_b (hr4) ?_
                  try dsimp only
                  rw [if_neg hb]
                  first | exact rdO_F (rfl) ⟨(rd_L (k := 1) (l := pa_sk tx T p4) (w := nI (pa_sk tx T p4)) (xf := 1) (by decide) rfl), by omega⟩ rfl | exact rdO_bl (rfl) (rdO_F (rfl) ⟨(rd_L (k := 1) (l := pa_sk tx T p4) (w := nI (pa_sk tx T p4)) (xf := 1) (by decide) rfl), by omega⟩ rfl)
            · refine tv_b (pc' := (if (nI (pa_tk tx T p)) = 20 then 187 else 259)) (ls' := [some (.ref 57), some (.int (nI o)), some (.int (nI (pa_tk tx T p))), none]) (st' := []) (h' := (n, sl, wKK kk, (rdI I (nI (pa_sk tx T p)) (nI (pa_sk tx T p)) (nI (pa_tk tx T p)) nm gn 0 (-1) (nI ce) cd), L, wQQ q)) 3 rfl ?_
              refine tv_ifq (nI_eq (a := (pa_tk tx T p)) (b := 20) (by omega) (by omega)) (fun c184 => ?_) (fun c184 => ?_)
              · refine tv_b (pc' := 188) (ls' := [some (.ref 57), some (.int (nI o)), some (.int (nI (pa_tk tx T p))), none]) (st' := [.ref 57]) (h' := (n, sl, wKK kk, (rdI I (nI (pa_sk tx T p)) (nI (pa_sk tx T p)) (nI (pa_tk tx T p)) nm gn 0 (-1) (nI ce) cd), L, wQQ q)) 1 rfl ?_
                refine tv_cv [] [] rfl rfl (by omega) rfl (Nat.le_of_ble_eq_true rfl) (Nat.le_of_ble_eq_true rfl) (Or.inr (Or.inr rfl)) (tv_r_nx hH (by omega) (by omega) hnm) ?_
                rintro rv9 h9 ⟨rfl, I9, rfl, ho, hlx⟩
                rcases rdO_c ho with ⟨k5, l5, s5, w5, m5, g5, f5, y5, c5, d5, hr5, hk5, hc5, rfl⟩ | ⟨p5, cs5, m5, g5, hr5, hp5, hn5, rfl⟩
                · refine tv_b (pc' := 195) (ls' := [some (.ref 57), some (.int (nI o)), some (.int (nI (pa_tk tx T p))), none]) (st' := [.int (nI o), .int 32, .ref 57]) (h' := (n, sl, wKK kk, (rdI I s5 w5 39 m5 g5 f5 y5 (nI c5) d5), L, wQQ q)) 3 rfl ?_
                  refine tv_cvE [.int 32, .int (nI o)] [] rfl rfl (by omega) rfl (Nat.le_of_ble_eq_true rfl) (Nat.le_of_ble_eq_true rfl) (Or.inr (Or.inr rfl)) (ev_r_opensE32 hk5) ?_
                  refine tv_b (pc' := 268) (ls' := [some (.ref 57), some (.int (nI o)), some (.int (nI (pa_tk tx T p))), none]) (st' := []) (h' := (n, sl, wKK kk, (rdI I s5 w5 39 m5 g5 (nI k5) (nI l5) (nI c5) d5), L, wQQ q)) 1 rfl ?_
                  refine tv_rv rfl ⟨rfl, _, rfl, ?_, hlast⟩
                  unfold pa_part
                  try dsimp only
                  rw [if_neg (by omega), if_neg (by omega), if_neg (by omega), if_neg (by omega), if_pos (by omega)]
                  first | exact rdO_bl (hr5) (rdO_F (hr5) ⟨(rd_F hk5), by omega⟩ rfl) | exact rdO_F (hr5) ⟨(rd_F hk5), by omega⟩ rfl
                · have ht5 := pa_tk_lt (b := tx) (n := T) p5
                  have hg5 := pa_edo (tx := tx) (T := T) p5
                  obtain ⟨hl5, hv5⟩ := hlx _ _ hr5
                  have hj5 := pa_ed_le (b := tx) (n := T) (p := p5) hp5.1
                  obtain ⟨hq5, hz5⟩ := pa_nx_r hr5
                  have hy5 : cs5.length = 0 := by rw [hz5]; rfl
                  by_cases hb : pa_tk tx T p5 = 32
                  · refine tv_b (pc' := 195) (ls' := [some (.ref 57), some (.int (nI o)), some (.int (nI (pa_tk tx T p))), none]) (st' := [.int (nI o), .int 32, .ref 57]) (h' := (n, sl, wKK kk, (rdI I (nI (pa_sk tx T p5)) (nI (pa_sk tx T p5)) (nI (pa_tk tx T p5)) m5 g5 0 (-1) (nI (ce + cs5.length)) (pa_wr cd ce cs5)), L, wQQ q)) 3 rfl ?_
                    refine tv_cvE [.int 32, .int (nI o)] [] rfl rfl (by omega) rfl (Nat.le_of_ble_eq_true rfl) (Nat.le_of_ble_eq_true rfl) (Or.inr (Or.inr rfl)) (ev_r_op5_32 hb (by omega) (by omega)) ?_
                    refine tv_b (pc' := 268) (ls' := [some (.ref 57), some (.int (nI o)), some (.int (nI (pa_tk tx T p))), none]) (st' := []) (h' := (n, sl, wKK kk, (rdI I (nI (pa_sk tx T p5)) (nI (pa_sk tx T p5)) 39 m5 g5 5 (nI (pa_sk tx T p5)) (nI (ce + cs5.length)) (pa_wr cd ce cs5)), L, wQQ q)) 1 rfl ?_
                    refine tv_rv rfl ⟨rfl, _, rfl, ?_, hlast⟩
                    unfold pa_part
                    try dsimp only
                    rw [if_neg (by omega), if_neg (by omega), if_neg (by omega), if_neg (by omega), if_pos (by omega)]
                    refine rdO_b (hr5) ?_
                    try dsimp only
                    rw [if_pos hb]
                    rw [if_pos hz]
                    first | exact rdO_F (rfl) ⟨(rd_L (k := 5) (l := pa_sk tx T p5) (w := nI (pa_sk tx T p5)) (xf := 5) (by decide) rfl), by omega⟩ rfl | exact rdO_bl (rfl) (rdO_F (rfl) ⟨(rd_L (k := 5) (l := pa_sk tx T p5) (w := nI (pa_sk tx T p5)) (xf := 5) (by decide) rfl), by omega⟩ rfl)
                  · refine tv_b (pc' := 195) (ls' := [some (.ref 57), some (.int (nI o)), some (.int (nI (pa_tk tx T p))), none]) (st' := [.int (nI o), .int 32, .ref 57]) (h' := (n, sl, wKK kk, (rdI I (nI (pa_sk tx T p5)) (nI (pa_sk tx T p5)) (nI (pa_tk tx T p5)) m5 g5 0 (-1) (nI (ce + cs5.length)) (pa_wr cd ce cs5)), L, wQQ q)) 3 rfl ?_
                    refine tv_cvE [.int 32, .int (nI o)] [] rfl rfl (by omega) rfl (Nat.le_of_ble_eq_true rfl) (Nat.le_of_ble_eq_true rfl) (Or.inr (Or.inr rfl)) (ev_r_op1_32 hb (by omega)) ?_
                    refine tv_b (pc' := 268) (ls' := [some (.ref 57), some (.int (nI o)), some (.int (nI (pa_tk tx T p))), none]) (st' := []) (h' := (n, sl, wKK kk, (rdI I (nI (pa_sk tx T p5)) (nI (pa_sk tx T p5)) 39 m5 g5 1 (nI (pa_sk tx T p5)) (nI (ce + cs5.length)) (pa_wr cd ce cs5)), L, wQQ q)) 1 rfl ?_
                    refine tv_rv rfl ⟨rfl, _, rfl, ?_, hlast⟩
                    unfold pa_part
                    try dsimp only
                    rw [if_neg (by omega), if_neg (by omega), if_neg (by omega), if_neg (by omega), if_pos (by omega)]
                    refine rdO_b (hr5) ?_
                    try dsimp only
                    rw [if_neg hb]
                    first | exact rdO_F (rfl) ⟨(rd_L (k := 1) (l := pa_sk tx T p5) (w := nI (pa_sk tx T p5)) (xf := 1) (by decide) rfl), by omega⟩ rfl | exact rdO_bl (rfl) (rdO_F (rfl) ⟨(rd_L (k := 1) (l := pa_sk tx T p5) (w := nI (pa_sk tx T p5)) (xf := 1) (by decide) rfl), by omega⟩ rfl)
              · refine tv_b (pc' := 265) (ls' := [some (.ref 57), some (.int (nI o)), some (.int (nI (pa_tk tx T p))), none]) (st' := [.int (nI (pa_sk tx T p)), .int 1, .ref 57]) (h' := (n, sl, wKK kk, (rdI I (nI (pa_sk tx T p)) (nI (pa_sk tx T p)) (nI (pa_tk tx T p)) nm gn 0 (-1) (nI ce) cd), L, wQQ q)) 4 rfl ?_
                refine tv_cvE [.int 1, .int (nI (pa_sk tx T p))] [] rfl rfl (by omega) rfl (Nat.le_of_ble_eq_true rfl) (Nat.le_of_ble_eq_true rfl) (Or.inr (Or.inr rfl)) (ev_r_fail0) ?_
                refine tv_rv rfl ⟨rfl, _, rfl, ?_, hlast⟩
                unfold pa_part
                try dsimp only
                rw [if_neg (by omega), if_neg (by omega), if_neg (by omega), if_neg (by omega), if_neg (by omega)]
                first | exact rdO_F (rfl) ⟨(rd_L (k := 1) (l := pa_sk tx T p) (w := nI (pa_sk tx T p)) (xf := 1) (by decide) rfl), by omega⟩ rfl | exact rdO_bl (rfl) (rdO_F (rfl) ⟨(rd_L (k := 1) (l := pa_sk tx T p) (w := nI (pa_sk tx T p)) (xf := 1) (by decide) rfl), by omega⟩ rfl)
      · refine tv_b (pc' := (if 17 < (nI (pa_tk tx T p)) then 56 else 44)) (ls' := [some (.ref 57), some (.int (nI o)), some (.int (nI (pa_tk tx T p))), none]) (st' := []) (h' := (n, sl, wKK kk, (rdI I (nI (pa_sk tx T p)) (nI (pa_sk tx T p)) (nI (pa_tk tx T p)) nm gn 0 (-1) (nI ce) cd), L, wQQ q)) 3 rfl ?_
        refine tv_ifq (nI_ltI (a := 17) (b := (pa_tk tx T p)) (by omega) (by omega)) (fun c41 => ?_) (fun c41 => ?_)
        · refine tv_b (pc' := (if (nI (pa_tk tx T p)) = 18 then 62 else 131)) (ls' := [some (.ref 57), some (.int (nI o)), some (.int (nI (pa_tk tx T p))), none]) (st' := []) (h' := (n, sl, wKK kk, (rdI I (nI (pa_sk tx T p)) (nI (pa_sk tx T p)) (nI (pa_tk tx T p)) nm gn 0 (-1) (nI ce) cd), L, wQQ q)) 3 rfl ?_
          refine tv_ifq (nI_eq (a := (pa_tk tx T p)) (b := 18) (by omega) (by omega)) (fun c59 => ?_) (fun c59 => ?_)
          · refine tv_b (pc' := 63) (ls' := [some (.ref 57), some (.int (nI o)), some (.int (nI (pa_tk tx T p))), none]) (st' := [.ref 57]) (h' := (n, sl, wKK kk, (rdI I (nI (pa_sk tx T p)) (nI (pa_sk tx T p)) (nI (pa_tk tx T p)) nm gn 0 (-1) (nI ce) cd), L, wQQ q)) 1 rfl ?_
            refine tv_cv [] [] rfl rfl (by omega) rfl (Nat.le_of_ble_eq_true rfl) (Nat.le_of_ble_eq_true rfl) (Or.inr (Or.inr rfl)) (tv_r_nx hH (by omega) (by omega) hnm) ?_
            rintro rv9 h9 ⟨rfl, I9, rfl, ho, hlx⟩
            rcases rdO_c ho with ⟨k6, l6, s6, w6, m6, g6, f6, y6, c6, d6, hr6, hk6, hc6, rfl⟩ | ⟨p6, cs6, m6, g6, hr6, hp6, hn6, rfl⟩
            · refine tv_b (pc' := 114) (ls' := [some (.ref 57), some (.int (nI o)), some (.int (nI (pa_tk tx T p))), some (.int m6)]) (st' := [.int 0, .ref 57]) (h' := (n, sl, wKK kk, (rdI I s6 w6 39 m6 g6 f6 y6 (nI c6) d6), L, wQQ q)) 13 rfl ?_
              refine tv_cvE [.int 0] [] rfl rfl (by omega) rfl (Nat.le_of_ble_eq_true rfl) (Nat.le_of_ble_eq_true rfl) (Or.inr (Or.inr rfl)) (ev_r_expectE hk6) ?_
              refine tv_b (pc' := 125) (ls' := [some (.ref 57), some (.int (nI o)), some (.int (nI (pa_tk tx T p))), some (.int m6)]) (st' := [.int ((m6 * 32) + 18), .ref 57]) (h' := (n, sl, wKK kk, (rdI I s6 w6 39 m6 g6 (nI k6) (nI l6) (nI c6) d6), L, wQQ q)) 6 rfl ?_
              refine tv_cvE [.int ((m6 * 32) + 18)] [] rfl rfl (by omega) rfl (Nat.le_of_ble_eq_true rfl) (Nat.le_of_ble_eq_true rfl) (Or.inr (Or.inr rfl)) (ev_r_emitF (rd_k (rd_F hk6))) ?_
              refine tv_b (pc' := 268) (ls' := [some (.ref 57), some (.int (nI o)), some (.int (nI (pa_tk tx T p))), some (.int m6)]) (st' := []) (h' := (n, sl, wKK kk, (rdI I s6 w6 39 m6 g6 (nI k6) (nI l6) (nI c6) d6), L, wQQ q)) 1 rfl ?_
              refine tv_rv rfl ⟨rfl, _, rfl, ?_, hlast⟩
              unfold pa_part
              try dsimp only
              rw [if_neg (by omega), if_neg (by omega), if_pos (by omega)]
              first | exact rdO_bl (hr6) (rdO_F (hr6) ⟨(rd_F hk6), by omega⟩ rfl) | exact rdO_F (hr6) ⟨(rd_F hk6), by omega⟩ rfl
            · have ht6 := pa_tk_lt (b := tx) (n := T) p6
              have hg6 := pa_edo (tx := tx) (T := T) p6
              obtain ⟨hl6, hv6⟩ := hlx _ _ hr6
              have hj6 := pa_ed_le (b := tx) (n := T) (p := p6) hp6.1
              obtain ⟨hq6, hz6⟩ := pa_nx_r hr6
              have hy6 : cs6.length = 0 := by rw [hz6]; rfl
              refine tv_b (pc' := (if (nI (pa_tk tx T p6)) = 21 then 75 else 94)) (ls' := [some (.ref 57), some (.int (nI o)), some (.int (nI (pa_tk tx T p))), none]) (st' := []) (h' := (n, sl, wKK kk, (rdI I (nI (pa_sk tx T p6)) (nI (pa_sk tx T p6)) (nI (pa_tk tx T p6)) m6 g6 0 (-1) (nI (ce + cs6.length)) (pa_wr cd ce cs6)), L, wQQ q)) 4 rfl ?_
              refine tv_ifq (nI_eq (a := (pa_tk tx T p6)) (b := 21) (by omega) (by omega)) (fun c72 => ?_) (fun c72 => ?_)
              · have hsub := hn6.1 c72
                subst hsub
                refine tv_b (pc' := 79) (ls' := [some (.ref 57), some (.int (nI o)), some (.int (nI (pa_tk tx T p))), none]) (st' := [.int (nI (pa_nm tx T p6))]) (h' := (n, sl, wKK kk, (rdI I (nI (pa_sk tx T p6)) (nI (pa_sk tx T p6)) (nI (pa_tk tx T p6)) (nI (pa_nm tx T p6)) g6 0 (-1) (nI (ce + cs6.length)) (pa_wr cd ce cs6)), L, wQQ q)) 2 rfl ?_
                have hnl := pa_nm_lt hl6 c72
                refine tv_csE [.int (nI (pa_nm tx T p6))] [] rfl rfl (by omega) rfl (Nat.le_of_ble_eq_true rfl) (Nat.le_of_ble_eq_true rfl) (ev_r_isCol (by omega)) ?_
                refine tv_b (pc' := (if (if pa_nm tx T p6 < 16 then 1 else 0) = 0 then 85 else 94)) (ls' := [some (.ref 57), some (.int (nI o)), some (.int (nI (pa_tk tx T p))), none]) (st' := []) (h' := (n, sl, wKK kk, (rdI I (nI (pa_sk tx T p6)) (nI (pa_sk tx T p6)) (nI (pa_tk tx T p6)) (nI (pa_nm tx T p6)) g6 0 (-1) (nI (ce + cs6.length)) (pa_wr cd ce cs6)), L, wQQ q)) 1 rfl ?_
                refine tv_b0 (fun c82 => ?_) (fun c82 => ?_)
                · refine tv_b (pc' := 91) (ls' := [some (.ref 57), some (.int (nI o)), some (.int (nI (pa_tk tx T p))), none]) (st' := [.int (nI (pa_sk tx T p6)), .int 4, .ref 57]) (h' := (n, sl, wKK kk, (rdI I (nI (pa_sk tx T p6)) (nI (pa_sk tx T p6)) (nI (pa_tk tx T p6)) (nI (pa_nm tx T p6)) g6 0 (-1) (nI (ce + cs6.length)) (pa_wr cd ce cs6)), L, wQQ q)) 4 rfl ?_
                  refine tv_cvE [.int 4, .int (nI (pa_sk tx T p6))] [] rfl rfl (by omega) rfl (Nat.le_of_ble_eq_true rfl) (Nat.le_of_ble_eq_true rfl) (Or.inr (Or.inr rfl)) (ev_r_fail0) ?_
                  refine tv_b (pc' := 114) (ls' := [some (.ref 57), some (.int (nI o)), some (.int (nI (pa_tk tx T p))), some (.int (nI (pa_nm tx T p6)))]) (st' := [.int 0, .ref 57]) (h' := (n, sl, wKK kk, (rdI I (nI (pa_sk tx T p6)) (nI (pa_sk tx T p6)) 39 (nI (pa_nm tx T p6)) g6 4 (nI (pa_sk tx T p6)) (nI (ce + cs6.length)) (pa_wr cd ce cs6)), L, wQQ q)) 9 rfl ?_
                  refine tv_cvE [.int 0] [] rfl rfl (by omega) rfl (Nat.le_of_ble_eq_true rfl) (Nat.le_of_ble_eq_true rfl) (Or.inr (Or.inr rfl)) (ev_r_expectE (rd_L (k := 4) (l := pa_sk tx T p6) (w := nI (pa_sk tx T p6)) (xf := 4) (by decide) rfl)) ?_
                  refine tv_b (pc' := 121) (ls' := [some (.ref 57), some (.int (nI o)), some (.int (nI (pa_tk tx T p))), some (.int (nI (pa_nm tx T p6)))]) (st' := [.int 32, .int (nI (pa_nm tx T p6)), .ref 57]) (h' := (n, sl, wKK kk, (rdI I (nI (pa_sk tx T p6)) (nI (pa_sk tx T p6)) 39 (nI (pa_nm tx T p6)) g6 (nI 4) (nI (pa_sk tx T p6)) (nI (ce + cs6.length)) (pa_wr cd ce cs6)), L, wQQ q)) 3 rfl ?_
                  refine tv_b (pc' := 122) (ls' := [some (.ref 57), some (.int (nI o)), some (.int (nI (pa_tk tx T p))), some (.int (nI (pa_nm tx T p6)))]) (st' := [.int ((nI (pa_nm tx T p6)) * 32), .ref 57]) (h' := (n, sl, wKK kk, (rdI I (nI (pa_sk tx T p6)) (nI (pa_sk tx T p6)) 39 (nI (pa_nm tx T p6)) g6 (nI 4) (nI (pa_sk tx T p6)) (nI (ce + cs6.length)) (pa_wr cd ce cs6)), L, wQQ q)) 1 rfl ?_
                  refine tv_top (show (nI (pa_nm tx T p6)) * 32 = nI ((pa_nm tx T p6) * 32) from nI_mul (pa_nm tx T p6) 32) ?_
                  refine tv_b (pc' := 124) (ls' := [some (.ref 57), some (.int (nI o)), some (.int (nI (pa_tk tx T p))), some (.int (nI (pa_nm tx T p6)))]) (st' := [.int 18, .int (nI ((pa_nm tx T p6) * 32)), .ref 57]) (h' := (n, sl, wKK kk, (rdI I (nI (pa_sk tx T p6)) (nI (pa_sk tx T p6)) 39 (nI (pa_nm tx T p6)) g6 (nI 4) (nI (pa_sk tx T p6)) (nI (ce + cs6.length)) (pa_wr cd ce cs6)), L, wQQ q)) 1 rfl ?_
                  refine tv_b (pc' := 125) (ls' := [some (.ref 57), some (.int (nI o)), some (.int (nI (pa_tk tx T p))), some (.int (nI (pa_nm tx T p6)))]) (st' := [.int ((nI ((pa_nm tx T p6) * 32)) + 18), .ref 57]) (h' := (n, sl, wKK kk, (rdI I (nI (pa_sk tx T p6)) (nI (pa_sk tx T p6)) 39 (nI (pa_nm tx T p6)) g6 (nI 4) (nI (pa_sk tx T p6)) (nI (ce + cs6.length)) (pa_wr cd ce cs6)), L, wQQ q)) 1 rfl ?_
                  refine tv_top (show (nI ((pa_nm tx T p6) * 32)) + 18 = nI (((pa_nm tx T p6) * 32) + 18) from nI_add ((pa_nm tx T p6) * 32) 18) ?_
                  refine tv_cvE [.int (nI (((pa_nm tx T p6) * 32) + 18))] [] rfl rfl (by omega) rfl (Nat.le_of_ble_eq_true rfl) (Nat.le_of_ble_eq_true rfl) (Or.inr (Or.inr rfl)) (ev_r_emitF (rd_k (rd_F (rd_L (k := 4) (l := pa_sk tx T p6) (w := nI (pa_sk tx T p6)) (xf := 4) (by decide) rfl)))) ?_
                  refine tv_b (pc' := 268) (ls' := [some (.ref 57), some (.int (nI o)), some (.int (nI (pa_tk tx T p))), some (.int (nI (pa_nm tx T p6)))]) (st' := []) (h' := (n, sl, wKK kk, (rdI I (nI (pa_sk tx T p6)) (nI (pa_sk tx T p6)) 39 (nI (pa_nm tx T p6)) g6 (nI 4) (nI (pa_sk tx T p6)) (nI (ce + cs6.length)) (pa_wr cd ce cs6)), L, wQQ q)) 1 rfl ?_
                  refine tv_rv rfl ⟨rfl, _, rfl, ?_, hlast⟩
                  unfold pa_part
                  try dsimp only
                  rw [if_neg (by omega), if_neg (by omega), if_pos (by omega)]
                  refine rdO_b (hr6) ?_
                  try dsimp only
                  rw [if_pos c72]
                  rw [if_pos (by omega)]
                  first | exact rdO_F (rfl) ⟨(rd_F (rd_L (k := 4) (l := pa_sk tx T p6) (w := nI (pa_sk tx T p6)) (xf := 4) (by decide) rfl)), by omega⟩ rfl | exact rdO_bl (rfl) (rdO_F (rfl) ⟨(rd_F (rd_L (k := 4) (l := pa_sk tx T p6) (w := nI (pa_sk tx T p6)) (xf := 4) (by decide) rfl)), by omega⟩ rfl)
                · refine tv_b (pc' := (if (nI (pa_tk tx T p6)) = 21 then 109 else 113)) (ls' := [some (.ref 57), some (.int (nI o)), some (.int (nI (pa_tk tx T p))), some (.int (nI (pa_nm tx T p6)))]) (st' := [.ref 57]) (h' := (n, sl, wKK kk, (rdI I (nI (pa_sk tx T p6)) (nI (pa_sk tx T p6)) (nI (pa_tk tx T p6)) (nI (pa_nm tx T p6)) g6 0 (-1) (nI (ce + cs6.length)) (pa_wr cd ce cs6)), L, wQQ q)) 8 rfl ?_
                  refine tv_t ((nI_eq (a := (pa_tk tx T p6)) (b := 21) (by omega) (by omega)).mpr (by omega)) ?_
                  refine tv_b (pc' := 114) (ls' := [some (.ref 57), some (.int (nI o)), some (.int (nI (pa_tk tx T p))), some (.int (nI (pa_nm tx T p6)))]) (st' := [.int 1, .ref 57]) (h' := (n, sl, wKK kk, (rdI I (nI (pa_sk tx T p6)) (nI (pa_sk tx T p6)) (nI (pa_tk tx T p6)) (nI (pa_nm tx T p6)) g6 0 (-1) (nI (ce + cs6.length)) (pa_wr cd ce cs6)), L, wQQ q)) 2 rfl ?_
                  refine tv_cv [.int 1] [] rfl rfl (by omega) rfl (Nat.le_of_ble_eq_true rfl) (Nat.le_of_ble_eq_true rfl) (Or.inr (Or.inr rfl)) (tv_r_ex1 hH (by omega) (by omega) hn6) ?_
                  rintro rv9 h9 ⟨rfl, I9, rfl, ho, hlx⟩
                  rcases rdO_c ho with ⟨k7, l7, s7, w7, m7, g7, f7, y7, c7, d7, hr7, hk7, hc7, rfl⟩ | ⟨p7, cs7, m7, g7, hr7, hp7, hn7, rfl⟩
                  · refine tv_b (pc' := 121) (ls' := [some (.ref 57), some (.int (nI o)), some (.int (nI (pa_tk tx T p))), some (.int (nI (pa_nm tx T p6)))]) (st' := [.int 32, .int (nI (pa_nm tx T p6)), .ref 57]) (h' := (n, sl, wKK kk, (rdI I s7 w7 39 m7 g7 f7 y7 (nI c7) d7), L, wQQ q)) 3 rfl ?_
                    refine tv_b (pc' := 122) (ls' := [some (.ref 57), some (.int (nI o)), some (.int (nI (pa_tk tx T p))), some (.int (nI (pa_nm tx T p6)))]) (st' := [.int ((nI (pa_nm tx T p6)) * 32), .ref 57]) (h' := (n, sl, wKK kk, (rdI I s7 w7 39 m7 g7 f7 y7 (nI c7) d7), L, wQQ q)) 1 rfl ?_
                    refine tv_top (show (nI (pa_nm tx T p6)) * 32 = nI ((pa_nm tx T p6) * 32) from nI_mul (pa_nm tx T p6) 32) ?_
                    refine tv_b (pc' := 124) (ls' := [some (.ref 57), some (.int (nI o)), some (.int (nI (pa_tk tx T p))), some (.int (nI (pa_nm tx T p6)))]) (st' := [.int 18, .int (nI ((pa_nm tx T p6) * 32)), .ref 57]) (h' := (n, sl, wKK kk, (rdI I s7 w7 39 m7 g7 f7 y7 (nI c7) d7), L, wQQ q)) 1 rfl ?_
                    refine tv_b (pc' := 125) (ls' := [some (.ref 57), some (.int (nI o)), some (.int (nI (pa_tk tx T p))), some (.int (nI (pa_nm tx T p6)))]) (st' := [.int ((nI ((pa_nm tx T p6) * 32)) + 18), .ref 57]) (h' := (n, sl, wKK kk, (rdI I s7 w7 39 m7 g7 f7 y7 (nI c7) d7), L, wQQ q)) 1 rfl ?_
                    refine tv_top (show (nI ((pa_nm tx T p6) * 32)) + 18 = nI (((pa_nm tx T p6) * 32) + 18) from nI_add ((pa_nm tx T p6) * 32) 18) ?_
                    refine tv_cv [.int (nI (((pa_nm tx T p6) * 32) + 18))] [] rfl rfl (by omega) rfl (Nat.le_of_ble_eq_true rfl) (Nat.le_of_ble_eq_true rfl) (Or.inr (Or.inr rfl)) (tv_r_emitE hk7 (by omega)) ?_
                    rintro rv9 h9 ⟨rfl, e2, b2, hb2, rfl⟩
                    refine tv_b (pc' := 268) (ls' := [some (.ref 57), some (.int (nI o)), some (.int (nI (pa_tk tx T p))), some (.int (nI (pa_nm tx T p6)))]) (st' := []) (h' := (n, sl, wKK kk, (rdI I s7 w7 39 m7 g7 f7 y7 (nI e2) b2), L, wQQ q)) 1 rfl ?_
                    refine tv_rv rfl ⟨rfl, _, rfl, ?_, hlast⟩
                    unfold pa_part
                    try dsimp only
                    rw [if_neg (by omega), if_neg (by omega), if_pos (by omega)]
                    refine rdO_b (hr6) ?_
                    try dsimp only
                    rw [if_pos c72]
                    rw [if_neg (by omega)]
                    first | exact rdO_bl (hr7) (rdO_F (hr7) ⟨hk7, by omega⟩ rfl) | exact rdO_F (hr7) ⟨hk7, by omega⟩ rfl
                  · have ht7 := pa_tk_lt (b := tx) (n := T) p7
                    have hg7 := pa_edo (tx := tx) (T := T) p7
                    obtain ⟨hl7, hv7⟩ := hlx _ _ hr7
                    have hj7 := pa_ed_le (b := tx) (n := T) (p := p7) hp7.1
                    obtain ⟨hq7, hz7⟩ := pa_nx_r hr7
                    have hy7 : cs7.length = 0 := by rw [hz7]; rfl
                    refine tv_b (pc' := 121) (ls' := [some (.ref 57), some (.int (nI o)), some (.int (nI (pa_tk tx T p))), some (.int (nI (pa_nm tx T p6)))]) (st' := [.int 32, .int (nI (pa_nm tx T p6)), .ref 57]) (h' := (n, sl, wKK kk, (rdI I (nI (pa_sk tx T p7)) (nI (pa_sk tx T p7)) (nI (pa_tk tx T p7)) m7 g7 0 (-1) (nI (ce + cs6.length + cs7.length)) (pa_wr (pa_wr cd ce cs6) (ce + cs6.length) cs7)), L, wQQ q)) 3 rfl ?_
                    refine tv_b (pc' := 122) (ls' := [some (.ref 57), some (.int (nI o)), some (.int (nI (pa_tk tx T p))), some (.int (nI (pa_nm tx T p6)))]) (st' := [.int ((nI (pa_nm tx T p6)) * 32), .ref 57]) (h' := (n, sl, wKK kk, (rdI I (nI (pa_sk tx T p7)) (nI (pa_sk tx T p7)) (nI (pa_tk tx T p7)) m7 g7 0 (-1) (nI (ce + cs6.length + cs7.length)) (pa_wr (pa_wr cd ce cs6) (ce + cs6.length) cs7)), L, wQQ q)) 1 rfl ?_
                    refine tv_top (show (nI (pa_nm tx T p6)) * 32 = nI ((pa_nm tx T p6) * 32) from nI_mul (pa_nm tx T p6) 32) ?_
                    refine tv_b (pc' := 124) (ls' := [some (.ref 57), some (.int (nI o)), some (.int (nI (pa_tk tx T p))), some (.int (nI (pa_nm tx T p6)))]) (st' := [.int 18, .int (nI ((pa_nm tx T p6) * 32)), .ref 57]) (h' := (n, sl, wKK kk, (rdI I (nI (pa_sk tx T p7)) (nI (pa_sk tx T p7)) (nI (pa_tk tx T p7)) m7 g7 0 (-1) (nI (ce + cs6.length + cs7.length)) (pa_wr (pa_wr cd ce cs6) (ce + cs6.length) cs7)), L, wQQ q)) 1 rfl ?_
                    refine tv_b (pc' := 125) (ls' := [some (.ref 57), some (.int (nI o)), some (.int (nI (pa_tk tx T p))), some (.int (nI (pa_nm tx T p6)))]) (st' := [.int ((nI ((pa_nm tx T p6) * 32)) + 18), .ref 57]) (h' := (n, sl, wKK kk, (rdI I (nI (pa_sk tx T p7)) (nI (pa_sk tx T p7)) (nI (pa_tk tx T p7)) m7 g7 0 (-1) (nI (ce + cs6.length + cs7.length)) (pa_wr (pa_wr cd ce cs6) (ce + cs6.length) cs7)), L, wQQ q)) 1 rfl ?_
                    refine tv_top (show (nI ((pa_nm tx T p6) * 32)) + 18 = nI (((pa_nm tx T p6) * 32) + 18) from nI_add ((pa_nm tx T p6) * 32) 18) ?_
                    refine tv_cvE [.int (nI (((pa_nm tx T p6) * 32) + 18))] [] rfl rfl (by omega) rfl (Nat.le_of_ble_eq_true rfl) (Nat.le_of_ble_eq_true rfl) (Or.inr (Or.inr rfl)) (ev_r_emit (by omega)) ?_
                    refine tv_b (pc' := 268) (ls' := [some (.ref 57), some (.int (nI o)), some (.int (nI (pa_tk tx T p))), some (.int (nI (pa_nm tx T p6)))]) (st' := []) (h' := (n, sl, wKK kk, (rdI I (nI (pa_sk tx T p7)) (nI (pa_sk tx T p7)) (nI (pa_tk tx T p7)) m7 g7 0 (-1) (nI (ce + cs6.length + cs7.length + 1)) (upd (pa_wr (pa_wr cd ce cs6) (ce + cs6.length) cs7) (ce + cs6.length + cs7.length) (nI (((pa_nm tx T p6) * 32) + 18)))), L, wQQ q)) 1 rfl ?_
                    refine tv_rv rfl ⟨rfl, _, rfl, ?_, hlast⟩
                    unfold pa_part
                    try dsimp only
                    rw [if_neg (by omega), if_neg (by omega), if_pos (by omega)]
                    refine rdO_b (hr6) ?_
                    try dsimp only
                    rw [if_pos c72]
                    rw [if_neg (by omega)]
                    refine rdO_b (hr7) ?_
                    try dsimp only
                    exact rdO_em ⟨by omega, by omega⟩ hn7 rfl
              · refine tv_b (pc' := (if (nI (pa_tk tx T p6)) = 21 then 109 else 113)) (ls' := [some (.ref 57), some (.int (nI o)), some (.int (nI (pa_tk tx T p))), some (.int m6)]) (st' := [.ref 57]) (h' := (n, sl, wKK kk, (rdI I (nI (pa_sk tx T p6)) (nI (pa_sk tx T p6)) (nI (pa_tk tx T p6)) m6 g6 0 (-1) (nI (ce + cs6.length)) (pa_wr cd ce cs6)), L, wQQ q)) 8 rfl ?_
                refine tv_f (fun hq => absurd ((nI_eq (a := (pa_tk tx T p6)) (b := 21) (by omega) (by omega)).mp hq) (by omega)) ?_
                refine tv_b (pc' := 114) (ls' := [some (.ref 57), some (.int (nI o)), some (.int (nI (pa_tk tx T p))), some (.int m6)]) (st' := [.int 0, .ref 57]) (h' := (n, sl, wKK kk, (rdI I (nI (pa_sk tx T p6)) (nI (pa_sk tx T p6)) (nI (pa_tk tx T p6)) m6 g6 0 (-1) (nI (ce + cs6.length)) (pa_wr cd ce cs6)), L, wQQ q)) 1 rfl ?_
                refine tv_cvE [.int 0] [] rfl rfl (by omega) rfl (Nat.le_of_ble_eq_true rfl) (Nat.le_of_ble_eq_true rfl) (Or.inr (Or.inr rfl)) (ev_r_ex0) ?_
                refine tv_b (pc' := 125) (ls' := [some (.ref 57), some (.int (nI o)), some (.int (nI (pa_tk tx T p))), some (.int m6)]) (st' := [.int ((m6 * 32) + 18), .ref 57]) (h' := (n, sl, wKK kk, (rdI I (nI (pa_sk tx T p6)) (nI (pa_sk tx T p6)) 39 m6 g6 1 (nI (pa_sk tx T p6)) (nI (ce + cs6.length)) (pa_wr cd ce cs6)), L, wQQ q)) 6 rfl ?_
                refine tv_cvE [.int ((m6 * 32) + 18)] [] rfl rfl (by omega) rfl (Nat.le_of_ble_eq_true rfl) (Nat.le_of_ble_eq_true rfl) (Or.inr (Or.inr rfl)) (ev_r_emitF (rd_k (rd_L (k := 1) (l := pa_sk tx T p6) (w := nI (pa_sk tx T p6)) (xf := 1) (by decide) rfl))) ?_
                refine tv_b (pc' := 268) (ls' := [some (.ref 57), some (.int (nI o)), some (.int (nI (pa_tk tx T p))), some (.int m6)]) (st' := []) (h' := (n, sl, wKK kk, (rdI I (nI (pa_sk tx T p6)) (nI (pa_sk tx T p6)) 39 m6 g6 1 (nI (pa_sk tx T p6)) (nI (ce + cs6.length)) (pa_wr cd ce cs6)), L, wQQ q)) 1 rfl ?_
                refine tv_rv rfl ⟨rfl, _, rfl, ?_, hlast⟩
                unfold pa_part
                try dsimp only
                rw [if_neg (by omega), if_neg (by omega), if_pos (by omega)]
                refine rdO_b (hr6) ?_
                try dsimp only
                rw [if_neg c72]
                first | exact rdO_F (rfl) ⟨(rd_L (k := 1) (l := pa_sk tx T p6) (w := nI (pa_sk tx T p6)) (xf := 1) (by decide) rfl), by omega⟩ rfl | exact rdO_bl (rfl) (rdO_F (rfl) ⟨(rd_L (k := 1) (l := pa_sk tx T p6) (w := nI (pa_sk tx T p6)) (xf := 1) (by decide) rfl), by omega⟩ rfl)
          · refine tv_b (pc' := (if (nI (pa_tk tx T p)) = 32 then 137 else 175)) (ls' := [some (.ref 57), some (.int (nI o)), some (.int (nI (pa_tk tx T p))), none]) (st' := []) (h' := (n, sl, wKK kk, (rdI I (nI (pa_sk tx T p)) (nI (pa_sk tx T p)) (nI (pa_tk tx T p)) nm gn 0 (-1) (nI ce) cd), L, wQQ q)) 3 rfl ?_
            refine tv_ifq (nI_eq (a := (pa_tk tx T p)) (b := 32) (by omega) (by omega)) (fun c134 => ?_) (fun c134 => ?_)
            · refine tv_b (pc' := 141) (ls' := [some (.ref 57), some (.int (nI o)), some (.int (nI (pa_tk tx T p))), none]) (st' := [.int (nI o), .int 32, .ref 57]) (h' := (n, sl, wKK kk, (rdI I (nI (pa_sk tx T p)) (nI (pa_sk tx T p)) (nI (pa_tk tx T p)) nm gn 0 (-1) (nI ce) cd), L, wQQ q)) 3 rfl ?_
              refine tv_cvE [.int 32, .int (nI o)] [] rfl rfl (by omega) rfl (Nat.le_of_ble_eq_true rfl) (Nat.le_of_ble_eq_true rfl) (Or.inr (Or.inr rfl)) (ev_r_op5_32 c134 (by omega) (by omega)) ?_
              refine tv_b (pc' := 268) (ls' := [some (.ref 57), some (.int (nI o)), some (.int (nI (pa_tk tx T p))), none]) (st' := []) (h' := (n, sl, wKK kk, (rdI I (nI (pa_sk tx T p)) (nI (pa_sk tx T p)) 39 nm gn 5 (nI (pa_sk tx T p)) (nI ce) cd), L, wQQ q)) 1 rfl ?_
              refine tv_rv rfl ⟨rfl, _, rfl, ?_, hlast⟩
              unfold pa_part
              try dsimp only
              rw [if_neg (by omega), if_neg (by omega), if_neg (by omega), if_pos (by omega)]
              rw [if_pos hz]
              first | exact rdO_F (rfl) ⟨(rd_L (k := 5) (l := pa_sk tx T p) (w := nI (pa_sk tx T p)) (xf := 5) (by decide) rfl), by omega⟩ rfl | exact rdO_bl (rfl) (rdO_F (rfl) ⟨(rd_L (k := 5) (l := pa_sk tx T p) (w := nI (pa_sk tx T p)) (xf := 5) (by decide) rfl), by omega⟩ rfl)
            · refine tv_b (pc' := (if (nI (pa_tk tx T p)) = 19 then 187 else 181)) (ls' := [some (.ref 57), some (.int (nI o)), some (.int (nI (pa_tk tx T p))), none]) (st' := []) (h' := (n, sl, wKK kk, (rdI I (nI (pa_sk tx T p)) (nI (pa_sk tx T p)) (nI (pa_tk tx T p)) nm gn 0 (-1) (nI ce) cd), L, wQQ q)) 3 rfl ?_
              refine tv_ifq (nI_eq (a := (pa_tk tx T p)) (b := 19) (by omega) (by omega)) (fun c178 => ?_) (fun c178 => ?_)
              · refine tv_b (pc' := 188) (ls' := [some (.ref 57), some (.int (nI o)), some (.int (nI (pa_tk tx T p))), none]) (st' := [.ref 57]) (h' := (n, sl, wKK kk, (rdI I (nI (pa_sk tx T p)) (nI (pa_sk tx T p)) (nI (pa_tk tx T p)) nm gn 0 (-1) (nI ce) cd), L, wQQ q)) 1 rfl ?_
                refine tv_cv [] [] rfl rfl (by omega) rfl (Nat.le_of_ble_eq_true rfl) (Nat.le_of_ble_eq_true rfl) (Or.inr (Or.inr rfl)) (tv_r_nx hH (by omega) (by omega) hnm) ?_
                rintro rv9 h9 ⟨rfl, I9, rfl, ho, hlx⟩
                rcases rdO_c ho with ⟨k8, l8, s8, w8, m8, g8, f8, y8, c8, d8, hr8, hk8, hc8, rfl⟩ | ⟨p8, cs8, m8, g8, hr8, hp8, hn8, rfl⟩
                · refine tv_b (pc' := 195) (ls' := [some (.ref 57), some (.int (nI o)), some (.int (nI (pa_tk tx T p))), none]) (st' := [.int (nI o), .int 32, .ref 57]) (h' := (n, sl, wKK kk, (rdI I s8 w8 39 m8 g8 f8 y8 (nI c8) d8), L, wQQ q)) 3 rfl ?_
                  refine tv_cvE [.int 32, .int (nI o)] [] rfl rfl (by omega) rfl (Nat.le_of_ble_eq_true rfl) (Nat.le_of_ble_eq_true rfl) (Or.inr (Or.inr rfl)) (ev_r_opensE32 hk8) ?_
                  refine tv_b (pc' := 268) (ls' := [some (.ref 57), some (.int (nI o)), some (.int (nI (pa_tk tx T p))), none]) (st' := []) (h' := (n, sl, wKK kk, (rdI I s8 w8 39 m8 g8 (nI k8) (nI l8) (nI c8) d8), L, wQQ q)) 1 rfl ?_
                  refine tv_rv rfl ⟨rfl, _, rfl, ?_, hlast⟩
                  unfold pa_part
                  try dsimp only
                  rw [if_neg (by omega), if_neg (by omega), if_neg (by omega), if_neg (by omega), if_pos (by omega)]
                  first | exact rdO_bl (hr8) (rdO_F (hr8) ⟨(rd_F hk8), by omega⟩ rfl) | exact rdO_F (hr8) ⟨(rd_F hk8), by omega⟩ rfl
                · have ht8 := pa_tk_lt (b := tx) (n := T) p8
                  have hg8 := pa_edo (tx := tx) (T := T) p8
                  obtain ⟨hl8, hv8⟩ := hlx _ _ hr8
                  have hj8 := pa_ed_le (b := tx) (n := T) (p := p8) hp8.1
                  obtain ⟨hq8, hz8⟩ := pa_nx_r hr8
                  have hy8 : cs8.length = 0 := by rw [hz8]; rfl
                  by_cases hb : pa_tk tx T p8 = 32
                  · refine tv_b (pc' := 195) (ls' := [some (.ref 57), some (.int (nI o)), some (.int (nI (pa_tk tx T p))), none]) (st' := [.int (nI o), .int 32, .ref 57]) (h' := (n, sl, wKK kk, (rdI I (nI (pa_sk tx T p8)) (nI (pa_sk tx T p8)) (nI (pa_tk tx T p8)) m8 g8 0 (-1) (nI (ce + cs8.length)) (pa_wr cd ce cs8)), L, wQQ q)) 3 rfl ?_
                    refine tv_cvE [.int 32, .int (nI o)] [] rfl rfl (by omega) rfl (Nat.le_of_ble_eq_true rfl) (Nat.le_of_ble_eq_true rfl) (Or.inr (Or.inr rfl)) (ev_r_op5_32 hb (by omega) (by omega)) ?_
                    refine tv_b (pc' := 268) (ls' := [some (.ref 57), some (.int (nI o)), some (.int (nI (pa_tk tx T p))), none]) (st' := []) (h' := (n, sl, wKK kk, (rdI I (nI (pa_sk tx T p8)) (nI (pa_sk tx T p8)) 39 m8 g8 5 (nI (pa_sk tx T p8)) (nI (ce + cs8.length)) (pa_wr cd ce cs8)), L, wQQ q)) 1 rfl ?_
                    refine tv_rv rfl ⟨rfl, _, rfl, ?_, hlast⟩
                    unfold pa_part
                    try dsimp only
                    rw [if_neg (by omega), if_neg (by omega), if_neg (by omega), if_neg (by omega), if_pos (by omega)]
                    refine rdO_b (hr8) ?_
                    try dsimp only
                    rw [if_pos hb]
                    rw [if_pos hz]
                    first | exact rdO_F (rfl) ⟨(rd_L (k := 5) (l := pa_sk tx T p8) (w := nI (pa_sk tx T p8)) (xf := 5) (by decide) rfl), by omega⟩ rfl | exact rdO_bl (rfl) (rdO_F (rfl) ⟨(rd_L (k := 5) (l := pa_sk tx T p8) (w := nI (pa_sk tx T p8)) (xf := 5) (by decide) rfl), by omega⟩ rfl)
                  · refine tv_b (pc' := 195) (ls' := [some (.ref 57), some (.int (nI o)), some (.int (nI (pa_tk tx T p))), none]) (st' := [.int (nI o), .int 32, .ref 57]) (h' := (n, sl, wKK kk, (rdI I (nI (pa_sk tx T p8)) (nI (pa_sk tx T p8)) (nI (pa_tk tx T p8)) m8 g8 0 (-1) (nI (ce + cs8.length)) (pa_wr cd ce cs8)), L, wQQ q)) 3 rfl ?_
                    refine tv_cvE [.int 32, .int (nI o)] [] rfl rfl (by omega) rfl (Nat.le_of_ble_eq_true rfl) (Nat.le_of_ble_eq_true rfl) (Or.inr (Or.inr rfl)) (ev_r_op1_32 hb (by omega)) ?_
                    refine tv_b (pc' := 268) (ls' := [some (.ref 57), some (.int (nI o)), some (.int (nI (pa_tk tx T p))), none]) (st' := []) (h' := (n, sl, wKK kk, (rdI I (nI (pa_sk tx T p8)) (nI (pa_sk tx T p8)) 39 m8 g8 1 (nI (pa_sk tx T p8)) (nI (ce + cs8.length)) (pa_wr cd ce cs8)), L, wQQ q)) 1 rfl ?_
                    refine tv_rv rfl ⟨rfl, _, rfl, ?_, hlast⟩
                    unfold pa_part
                    try dsimp only
                    rw [if_neg (by omega), if_neg (by omega), if_neg (by omega), if_neg (by omega), if_pos (by omega)]
                    refine rdO_b (hr8) ?_
                    try dsimp only
                    rw [if_neg hb]
                    first | exact rdO_F (rfl) ⟨(rd_L (k := 1) (l := pa_sk tx T p8) (w := nI (pa_sk tx T p8)) (xf := 1) (by decide) rfl), by omega⟩ rfl | exact rdO_bl (rfl) (rdO_F (rfl) ⟨(rd_L (k := 1) (l := pa_sk tx T p8) (w := nI (pa_sk tx T p8)) (xf := 1) (by decide) rfl), by omega⟩ rfl)
              · refine tv_b (pc' := (if (nI (pa_tk tx T p)) = 20 then 187 else 259)) (ls' := [some (.ref 57), some (.int (nI o)), some (.int (nI (pa_tk tx T p))), none]) (st' := []) (h' := (n, sl, wKK kk, (rdI I (nI (pa_sk tx T p)) (nI (pa_sk tx T p)) (nI (pa_tk tx T p)) nm gn 0 (-1) (nI ce) cd), L, wQQ q)) 3 rfl ?_
                refine tv_ifq (nI_eq (a := (pa_tk tx T p)) (b := 20) (by omega) (by omega)) (fun c184 => ?_) (fun c184 => ?_)
                · refine tv_b (pc' := 188) (ls' := [some (.ref 57), some (.int (nI o)), some (.int (nI (pa_tk tx T p))), none]) (st' := [.ref 57]) (h' := (n, sl, wKK kk, (rdI I (nI (pa_sk tx T p)) (nI (pa_sk tx T p)) (nI (pa_tk tx T p)) nm gn 0 (-1) (nI ce) cd), L, wQQ q)) 1 rfl ?_
                  refine tv_cv [] [] rfl rfl (by omega) rfl (Nat.le_of_ble_eq_true rfl) (Nat.le_of_ble_eq_true rfl) (Or.inr (Or.inr rfl)) (tv_r_nx hH (by omega) (by omega) hnm) ?_
                  rintro rv9 h9 ⟨rfl, I9, rfl, ho, hlx⟩
                  rcases rdO_c ho with ⟨k9, l9, s9, w9, m9, g9, f9, y9, c9, d9, hr9, hk9, hc9, rfl⟩ | ⟨p9, cs9, m9, g9, hr9, hp9, hn9, rfl⟩
                  · refine tv_b (pc' := 195) (ls' := [some (.ref 57), some (.int (nI o)), some (.int (nI (pa_tk tx T p))), none]) (st' := [.int (nI o), .int 32, .ref 57]) (h' := (n, sl, wKK kk, (rdI I s9 w9 39 m9 g9 f9 y9 (nI c9) d9), L, wQQ q)) 3 rfl ?_
                    refine tv_cvE [.int 32, .int (nI o)] [] rfl rfl (by omega) rfl (Nat.le_of_ble_eq_true rfl) (Nat.le_of_ble_eq_true rfl) (Or.inr (Or.inr rfl)) (ev_r_opensE32 hk9) ?_
                    refine tv_b (pc' := 268) (ls' := [some (.ref 57), some (.int (nI o)), some (.int (nI (pa_tk tx T p))), none]) (st' := []) (h' := (n, sl, wKK kk, (rdI I s9 w9 39 m9 g9 (nI k9) (nI l9) (nI c9) d9), L, wQQ q)) 1 rfl ?_
                    refine tv_rv rfl ⟨rfl, _, rfl, ?_, hlast⟩
                    unfold pa_part
                    try dsimp only
                    rw [if_neg (by omega), if_neg (by omega), if_neg (by omega), if_neg (by omega), if_pos (by omega)]
                    first | exact rdO_bl (hr9) (rdO_F (hr9) ⟨(rd_F hk9), by omega⟩ rfl) | exact rdO_F (hr9) ⟨(rd_F hk9), by omega⟩ rfl
                  · have ht9 := pa_tk_lt (b := tx) (n := T) p9
                    have hg9 := pa_edo (tx := tx) (T := T) p9
                    obtain ⟨hl9, hv9⟩ := hlx _ _ hr9
                    have hj9 := pa_ed_le (b := tx) (n := T) (p := p9) hp9.1
                    obtain ⟨hq9, hz9⟩ := pa_nx_r hr9
                    have hy9 : cs9.length = 0 := by rw [hz9]; rfl
                    by_cases hb : pa_tk tx T p9 = 32
                    · refine tv_b (pc' := 195) (ls' := [some (.ref 57), some (.int (nI o)), some (.int (nI (pa_tk tx T p))), none]) (st' := [.int (nI o), .int 32, .ref 57]) (h' := (n, sl, wKK kk, (rdI I (nI (pa_sk tx T p9)) (nI (pa_sk tx T p9)) (nI (pa_tk tx T p9)) m9 g9 0 (-1) (nI (ce + cs9.length)) (pa_wr cd ce cs9)), L, wQQ q)) 3 rfl ?_
                      refine tv_cvE [.int 32, .int (nI o)] [] rfl rfl (by omega) rfl (Nat.le_of_ble_eq_true rfl) (Nat.le_of_ble_eq_true rfl) (Or.inr (Or.inr rfl)) (ev_r_op5_32 hb (by omega) (by omega)) ?_
                      refine tv_b (pc' := 268) (ls' := [some (.ref 57), some (.int (nI o)), some (.int (nI (pa_tk tx T p))), none]) (st' := []) (h' := (n, sl, wKK kk, (rdI I (nI (pa_sk tx T p9)) (nI (pa_sk tx T p9)) 39 m9 g9 5 (nI (pa_sk tx T p9)) (nI (ce + cs9.length)) (pa_wr cd ce cs9)), L, wQQ q)) 1 rfl ?_
                      refine tv_rv rfl ⟨rfl, _, rfl, ?_, hlast⟩
                      unfold pa_part
                      try dsimp only
                      rw [if_neg (by omega), if_neg (by omega), if_neg (by omega), if_neg (by omega), if_pos (by omega)]
                      refine rdO_b (hr9) ?_
                      try dsimp only
                      rw [if_pos hb]
                      rw [if_pos hz]
                      first | exact rdO_F (rfl) ⟨(rd_L (k := 5) (l := pa_sk tx T p9) (w := nI (pa_sk tx T p9)) (xf := 5) (by decide) rfl), by omega⟩ rfl | exact rdO_bl (rfl) (rdO_F (rfl) ⟨(rd_L (k := 5) (l := pa_sk tx T p9) (w := nI (pa_sk tx T p9)) (xf := 5) (by decide) rfl), by omega⟩ rfl)
                    · refine tv_b (pc' := 195) (ls' := [some (.ref 57), some (.int (nI o)), some (.int (nI (pa_tk tx T p))), none]) (st' := [.int (nI o), .int 32, .ref 57]) (h' := (n, sl, wKK kk, (rdI I (nI (pa_sk tx T p9)) (nI (pa_sk tx T p9)) (nI (pa_tk tx T p9)) m9 g9 0 (-1) (nI (ce + cs9.length)) (pa_wr cd ce cs9)), L, wQQ q)) 3 rfl ?_
                      refine tv_cvE [.int 32, .int (nI o)] [] rfl rfl (by omega) rfl (Nat.le_of_ble_eq_true rfl) (Nat.le_of_ble_eq_true rfl) (Or.inr (Or.inr rfl)) (ev_r_op1_32 hb (by omega)) ?_
                      refine tv_b (pc' := 268) (ls' := [some (.ref 57), some (.int (nI o)), some (.int (nI (pa_tk tx T p))), none]) (st' := []) (h' := (n, sl, wKK kk, (rdI I (nI (pa_sk tx T p9)) (nI (pa_sk tx T p9)) 39 m9 g9 1 (nI (pa_sk tx T p9)) (nI (ce + cs9.length)) (pa_wr cd ce cs9)), L, wQQ q)) 1 rfl ?_
                      refine tv_rv rfl ⟨rfl, _, rfl, ?_, hlast⟩
                      unfold pa_part
                      try dsimp only
                      rw [if_neg (by omega), if_neg (by omega), if_neg (by omega), if_neg (by omega), if_pos (by omega)]
                      refine rdO_b (hr9) ?_
                      try dsimp only
                      rw [if_neg hb]
                      first | exact rdO_F (rfl) ⟨(rd_L (k := 1) (l := pa_sk tx T p9) (w := nI (pa_sk tx T p9)) (xf := 1) (by decide) rfl), by omega⟩ rfl | exact rdO_bl (rfl) (rdO_F (rfl) ⟨(rd_L (k := 1) (l := pa_sk tx T p9) (w := nI (pa_sk tx T p9)) (xf := 1) (by decide) rfl), by omega⟩ rfl)
                · refine tv_b (pc' := 265) (ls' := [some (.ref 57), some (.int (nI o)), some (.int (nI (pa_tk tx T p))), none]) (st' := [.int (nI (pa_sk tx T p)), .int 1, .ref 57]) (h' := (n, sl, wKK kk, (rdI I (nI (pa_sk tx T p)) (nI (pa_sk tx T p)) (nI (pa_tk tx T p)) nm gn 0 (-1) (nI ce) cd), L, wQQ q)) 4 rfl ?_
                  refine tv_cvE [.int 1, .int (nI (pa_sk tx T p))] [] rfl rfl (by omega) rfl (Nat.le_of_ble_eq_true rfl) (Nat.le_of_ble_eq_true rfl) (Or.inr (Or.inr rfl)) (ev_r_fail0) ?_
                  refine tv_rv rfl ⟨rfl, _, rfl, ?_, hlast⟩
                  unfold pa_part
                  try dsimp only
                  rw [if_neg (by omega), if_neg (by omega), if_neg (by omega), if_neg (by omega), if_neg (by omega)]
                  first | exact rdO_F (rfl) ⟨(rd_L (k := 1) (l := pa_sk tx T p) (w := nI (pa_sk tx T p)) (xf := 1) (by decide) rfl), by omega⟩ rfl | exact rdO_bl (rfl) (rdO_F (rfl) ⟨(rd_L (k := 1) (l := pa_sk tx T p) (w := nI (pa_sk tx T p)) (xf := 1) (by decide) rfl), by omega⟩ rfl)
        · refine tv_b (pc' := 46) (ls' := [some (.ref 57), some (.int (nI o)), some (.int (nI (pa_tk tx T p))), none]) (st' := [.int (nI (pa_tk tx T p)), .ref 57]) (h' := (n, sl, wKK kk, (rdI I (nI (pa_sk tx T p)) (nI (pa_sk tx T p)) (nI (pa_tk tx T p)) nm gn 0 (-1) (nI ce) cd), L, wQQ q)) 2 rfl ?_
          refine tv_cvE [.int (nI (pa_tk tx T p))] [] rfl rfl (by omega) rfl (Nat.le_of_ble_eq_true rfl) (Nat.le_of_ble_eq_true rfl) (Or.inr (Or.inr rfl)) (ev_r_emit (by omega)) ?_
          refine tv_b (pc' := 50) (ls' := [some (.ref 57), some (.int (nI o)), some (.int (nI (pa_tk tx T p))), none]) (st' := [.ref 57]) (h' := (n, sl, wKK kk, (rdI I (nI (pa_sk tx T p)) (nI (pa_sk tx T p)) (nI (pa_tk tx T p)) nm gn 0 (-1) (nI (ce + 1)) (upd cd ce (nI (pa_tk tx T p)))), L, wQQ q)) 1 rfl ?_
          refine tv_cv [] [] rfl rfl (by omega) rfl (Nat.le_of_ble_eq_true rfl) (Nat.le_of_ble_eq_true rfl) (Or.inr (Or.inr rfl)) (tv_r_nx hH (by omega) (by omega) hnm) ?_
          rintro rv9 h9 ⟨rfl, I9, rfl, ho, hlx⟩
          rcases rdO_c ho with ⟨k10, l10, s10, w10, m10, g10, f10, y10, c10, d10, hr10, hk10, hc10, rfl⟩ | ⟨p10, cs10, m10, g10, hr10, hp10, hn10, rfl⟩
          · refine tv_b (pc' := 268) (ls' := [some (.ref 57), some (.int (nI o)), some (.int (nI (pa_tk tx T p))), none]) (st' := []) (h' := (n, sl, wKK kk, (rdI I s10 w10 39 m10 g10 f10 y10 (nI c10) d10), L, wQQ q)) 1 rfl ?_
            refine tv_rv rfl ⟨rfl, _, rfl, ?_, hlast⟩
            unfold pa_part
            try dsimp only
            rw [if_neg (by omega), if_pos (by omega)]
            first | exact rdO_bl (hr10) (rdO_F (hr10) ⟨hk10, by omega⟩ rfl) | exact rdO_F (hr10) ⟨hk10, by omega⟩ rfl
          · have ht10 := pa_tk_lt (b := tx) (n := T) p10
            have hg10 := pa_edo (tx := tx) (T := T) p10
            obtain ⟨hl10, hv10⟩ := hlx _ _ hr10
            have hj10 := pa_ed_le (b := tx) (n := T) (p := p10) hp10.1
            obtain ⟨hq10, hz10⟩ := pa_nx_r hr10
            have hy10 : cs10.length = 0 := by rw [hz10]; rfl
            refine tv_b (pc' := 268) (ls' := [some (.ref 57), some (.int (nI o)), some (.int (nI (pa_tk tx T p))), none]) (st' := []) (h' := (n, sl, wKK kk, (rdI I (nI (pa_sk tx T p10)) (nI (pa_sk tx T p10)) (nI (pa_tk tx T p10)) m10 g10 0 (-1) (nI (ce + 1 + cs10.length)) (pa_wr (upd cd ce (nI (pa_tk tx T p))) (ce + 1) cs10)), L, wQQ q)) 1 rfl ?_
            subst hz10
            refine tv_rv rfl ⟨rfl, _, rfl, ?_, hlast⟩
            unfold pa_part
            try dsimp only
            rw [if_neg (by omega), if_pos (by omega)]
            refine rdO_b hr10 ?_
            exact rdO_N (cs := [_]) rfl ⟨by omega, by simp only [List.length_cons, List.length_nil]; omega⟩ hn10 rfl
  · have hz0 : 0 < lev := by omega
    show am_T _ _ 0 [some (.ref 57), some (.int (nI o)), none, none] _ (n, sl, wKK kk, (rdI I (nI (pa_sk tx T p)) (nI (pa_sk tx T p)) (nI (pa_tk tx T p)) nm gn 0 (-1) (nI ce) cd), L, wQQ q) _
    refine tv_b (pc' := (if (nI (pa_tk tx T p)) = 21 then 11 else 32)) (ls' := [some (.ref 57), some (.int (nI o)), some (.int (nI (pa_tk tx T p))), none]) (st' := []) (h' := (n, sl, wKK kk, (rdI I (nI (pa_sk tx T p)) (nI (pa_sk tx T p)) (nI (pa_tk tx T p)) nm gn 0 (-1) (nI ce) cd), L, wQQ q)) 6 rfl ?_
    refine tv_ifq (nI_eq (a := (pa_tk tx T p)) (b := 21) (by omega) (by omega)) (fun c8 => ?_) (fun c8 => ?_)
    · have hsub := hnm.1 c8
      subst hsub
      refine tv_b (pc' := 18) (ls' := [some (.ref 57), some (.int (nI o)), some (.int (nI (pa_tk tx T p))), none]) (st' := [.int 32, .int (nI (pa_nm tx T p)), .ref 57]) (h' := (n, sl, wKK kk, (rdI I (nI (pa_sk tx T p)) (nI (pa_sk tx T p)) (nI (pa_tk tx T p)) (nI (pa_nm tx T p)) gn 0 (-1) (nI ce) cd), L, wQQ q)) 4 rfl ?_
      refine tv_b (pc' := 19) (ls' := [some (.ref 57), some (.int (nI o)), some (.int (nI (pa_tk tx T p))), none]) (st' := [.int ((nI (pa_nm tx T p)) * 32), .ref 57]) (h' := (n, sl, wKK kk, (rdI I (nI (pa_sk tx T p)) (nI (pa_sk tx T p)) (nI (pa_tk tx T p)) (nI (pa_nm tx T p)) gn 0 (-1) (nI ce) cd), L, wQQ q)) 1 rfl ?_
      refine tv_top (show (nI (pa_nm tx T p)) * 32 = nI ((pa_nm tx T p) * 32) from nI_mul (pa_nm tx T p) 32) ?_
      refine tv_b (pc' := 21) (ls' := [some (.ref 57), some (.int (nI o)), some (.int (nI (pa_tk tx T p))), none]) (st' := [.int 21, .int (nI ((pa_nm tx T p) * 32)), .ref 57]) (h' := (n, sl, wKK kk, (rdI I (nI (pa_sk tx T p)) (nI (pa_sk tx T p)) (nI (pa_tk tx T p)) (nI (pa_nm tx T p)) gn 0 (-1) (nI ce) cd), L, wQQ q)) 1 rfl ?_
      refine tv_b (pc' := 22) (ls' := [some (.ref 57), some (.int (nI o)), some (.int (nI (pa_tk tx T p))), none]) (st' := [.int ((nI ((pa_nm tx T p) * 32)) + 21), .ref 57]) (h' := (n, sl, wKK kk, (rdI I (nI (pa_sk tx T p)) (nI (pa_sk tx T p)) (nI (pa_tk tx T p)) (nI (pa_nm tx T p)) gn 0 (-1) (nI ce) cd), L, wQQ q)) 1 rfl ?_
      refine tv_top (show (nI ((pa_nm tx T p) * 32)) + 21 = nI (((pa_nm tx T p) * 32) + 21) from nI_add ((pa_nm tx T p) * 32) 21) ?_
      refine tv_cvE [.int (nI (((pa_nm tx T p) * 32) + 21))] [] rfl rfl (by omega) rfl (Nat.le_of_ble_eq_true rfl) (Nat.le_of_ble_eq_true rfl) (Or.inr (Or.inr rfl)) (ev_r_emit (by omega)) ?_
      refine tv_b (pc' := 26) (ls' := [some (.ref 57), some (.int (nI o)), some (.int (nI (pa_tk tx T p))), none]) (st' := [.ref 57]) (h' := (n, sl, wKK kk, (rdI I (nI (pa_sk tx T p)) (nI (pa_sk tx T p)) (nI (pa_tk tx T p)) (nI (pa_nm tx T p)) gn 0 (-1) (nI (ce + 1)) (upd cd ce (nI (((pa_nm tx T p) * 32) + 21)))), L, wQQ q)) 1 rfl ?_
      refine tv_cv [] [] rfl rfl (by omega) rfl (Nat.le_of_ble_eq_true rfl) (Nat.le_of_ble_eq_true rfl) (Or.inr (Or.inr rfl)) (tv_r_nx hH (by omega) (by omega) hnm) ?_
      rintro rv9 h9 ⟨rfl, I9, rfl, ho, hlx⟩
      rcases rdO_c ho with ⟨k1, l1, s1, w1, m1, g1, f1, y1, c1, d1, hr1, hk1, hc1, rfl⟩ | ⟨p1, cs1, m1, g1, hr1, hp1, hn1, rfl⟩
      · refine tv_b (pc' := 268) (ls' := [some (.ref 57), some (.int (nI o)), some (.int (nI (pa_tk tx T p))), none]) (st' := []) (h' := (n, sl, wKK kk, (rdI I s1 w1 39 m1 g1 f1 y1 (nI c1) d1), L, wQQ q)) 1 rfl ?_
        refine tv_rv rfl ⟨rfl, _, rfl, ?_, hlast⟩
        unfold pa_part
        try dsimp only
        rw [if_pos c8]
        first | exact rdO_bl (hr1) (rdO_F (hr1) ⟨hk1, by omega⟩ rfl) | exact rdO_F (hr1) ⟨hk1, by omega⟩ rfl
      · have ht1 := pa_tk_lt (b := tx) (n := T) p1
        have hg1 := pa_edo (tx := tx) (T := T) p1
        obtain ⟨hl1, hv1⟩ := hlx _ _ hr1
        have hj1 := pa_ed_le (b := tx) (n := T) (p := p1) hp1.1
        obtain ⟨hq1, hz1⟩ := pa_nx_r hr1
        have hy1 : cs1.length = 0 := by rw [hz1]; rfl
        refine tv_b (pc' := 268) (ls' := [some (.ref 57), some (.int (nI o)), some (.int (nI (pa_tk tx T p))), none]) (st' := []) (h' := (n, sl, wKK kk, (rdI I (nI (pa_sk tx T p1)) (nI (pa_sk tx T p1)) (nI (pa_tk tx T p1)) m1 g1 0 (-1) (nI (ce + 1 + cs1.length)) (pa_wr (upd cd ce (nI (((pa_nm tx T p) * 32) + 21))) (ce + 1) cs1)), L, wQQ q)) 1 rfl ?_
        subst hz1
        refine tv_rv rfl ⟨rfl, _, rfl, ?_, hlast⟩
        unfold pa_part
        try dsimp only
        rw [if_pos c8]
        refine rdO_b hr1 ?_
        exact rdO_N (cs := [_]) rfl ⟨by omega, by simp only [List.length_cons, List.length_nil]; omega⟩ hn1 rfl
    · refine tv_b (pc' := (if (nI (pa_tk tx T p)) < 11 then 56 else 38)) (ls' := [some (.ref 57), some (.int (nI o)), some (.int (nI (pa_tk tx T p))), none]) (st' := []) (h' := (n, sl, wKK kk, (rdI I (nI (pa_sk tx T p)) (nI (pa_sk tx T p)) (nI (pa_tk tx T p)) nm gn 0 (-1) (nI ce) cd), L, wQQ q)) 3 rfl ?_
      refine tv_ifq (nI_ltI (a := (pa_tk tx T p)) (b := 11) (by omega) (by omega)) (fun c35 => ?_) (fun c35 => ?_)
      · refine tv_b (pc' := (if (nI (pa_tk tx T p)) = 18 then 62 else 131)) (ls' := [some (.ref 57), some (.int (nI o)), some (.int (nI (pa_tk tx T p))), none]) (st' := []) (h' := (n, sl, wKK kk, (rdI I (nI (pa_sk tx T p)) (nI (pa_sk tx T p)) (nI (pa_tk tx T p)) nm gn 0 (-1) (nI ce) cd), L, wQQ q)) 3 rfl ?_
        refine tv_ifq (nI_eq (a := (pa_tk tx T p)) (b := 18) (by omega) (by omega)) (fun c59 => ?_) (fun c59 => ?_)
        · refine tv_b (pc' := 63) (ls' := [some (.ref 57), some (.int (nI o)), some (.int (nI (pa_tk tx T p))), none]) (st' := [.ref 57]) (h' := (n, sl, wKK kk, (rdI I (nI (pa_sk tx T p)) (nI (pa_sk tx T p)) (nI (pa_tk tx T p)) nm gn 0 (-1) (nI ce) cd), L, wQQ q)) 1 rfl ?_
          refine tv_cv [] [] rfl rfl (by omega) rfl (Nat.le_of_ble_eq_true rfl) (Nat.le_of_ble_eq_true rfl) (Or.inr (Or.inr rfl)) (tv_r_nx hH (by omega) (by omega) hnm) ?_
          rintro rv9 h9 ⟨rfl, I9, rfl, ho, hlx⟩
          rcases rdO_c ho with ⟨k2, l2, s2, w2, m2, g2, f2, y2, c2, d2, hr2, hk2, hc2, rfl⟩ | ⟨p2, cs2, m2, g2, hr2, hp2, hn2, rfl⟩
          · refine tv_b (pc' := 114) (ls' := [some (.ref 57), some (.int (nI o)), some (.int (nI (pa_tk tx T p))), some (.int m2)]) (st' := [.int 0, .ref 57]) (h' := (n, sl, wKK kk, (rdI I s2 w2 39 m2 g2 f2 y2 (nI c2) d2), L, wQQ q)) 13 rfl ?_
            refine tv_cvE [.int 0] [] rfl rfl (by omega) rfl (Nat.le_of_ble_eq_true rfl) (Nat.le_of_ble_eq_true rfl) (Or.inr (Or.inr rfl)) (ev_r_expectE hk2) ?_
            refine tv_b (pc' := 125) (ls' := [some (.ref 57), some (.int (nI o)), some (.int (nI (pa_tk tx T p))), some (.int m2)]) (st' := [.int ((m2 * 32) + 18), .ref 57]) (h' := (n, sl, wKK kk, (rdI I s2 w2 39 m2 g2 (nI k2) (nI l2) (nI c2) d2), L, wQQ q)) 6 rfl ?_
            refine tv_cvE [.int ((m2 * 32) + 18)] [] rfl rfl (by omega) rfl (Nat.le_of_ble_eq_true rfl) (Nat.le_of_ble_eq_true rfl) (Or.inr (Or.inr rfl)) (ev_r_emitF (rd_k (rd_F hk2))) ?_
            refine tv_b (pc' := 268) (ls' := [some (.ref 57), some (.int (nI o)), some (.int (nI (pa_tk tx T p))), some (.int m2)]) (st' := []) (h' := (n, sl, wKK kk, (rdI I s2 w2 39 m2 g2 (nI k2) (nI l2) (nI c2) d2), L, wQQ q)) 1 rfl ?_
            refine tv_rv rfl ⟨rfl, _, rfl, ?_, hlast⟩
            unfold pa_part
            try dsimp only
            rw [if_neg (by omega), if_neg (by omega), if_pos (by omega)]
            first | exact rdO_bl (hr2) (rdO_F (hr2) ⟨(rd_F hk2), by omega⟩ rfl) | exact rdO_F (hr2) ⟨(rd_F hk2), by omega⟩ rfl
          · have ht2 := pa_tk_lt (b := tx) (n := T) p2
            have hg2 := pa_edo (tx := tx) (T := T) p2
            obtain ⟨hl2, hv2⟩ := hlx _ _ hr2
            have hj2 := pa_ed_le (b := tx) (n := T) (p := p2) hp2.1
            obtain ⟨hq2, hz2⟩ := pa_nx_r hr2
            have hy2 : cs2.length = 0 := by rw [hz2]; rfl
            refine tv_b (pc' := (if (nI (pa_tk tx T p2)) = 21 then 75 else 94)) (ls' := [some (.ref 57), some (.int (nI o)), some (.int (nI (pa_tk tx T p))), none]) (st' := []) (h' := (n, sl, wKK kk, (rdI I (nI (pa_sk tx T p2)) (nI (pa_sk tx T p2)) (nI (pa_tk tx T p2)) m2 g2 0 (-1) (nI (ce + cs2.length)) (pa_wr cd ce cs2)), L, wQQ q)) 4 rfl ?_
            refine tv_ifq (nI_eq (a := (pa_tk tx T p2)) (b := 21) (by omega) (by omega)) (fun c72 => ?_) (fun c72 => ?_)
            · have hsub := hn2.1 c72
              subst hsub
              refine tv_b (pc' := 79) (ls' := [some (.ref 57), some (.int (nI o)), some (.int (nI (pa_tk tx T p))), none]) (st' := [.int (nI (pa_nm tx T p2))]) (h' := (n, sl, wKK kk, (rdI I (nI (pa_sk tx T p2)) (nI (pa_sk tx T p2)) (nI (pa_tk tx T p2)) (nI (pa_nm tx T p2)) g2 0 (-1) (nI (ce + cs2.length)) (pa_wr cd ce cs2)), L, wQQ q)) 2 rfl ?_
              have hnl := pa_nm_lt hl2 c72
              refine tv_csE [.int (nI (pa_nm tx T p2))] [] rfl rfl (by omega) rfl (Nat.le_of_ble_eq_true rfl) (Nat.le_of_ble_eq_true rfl) (ev_r_isCol (by omega)) ?_
              refine tv_b (pc' := (if (if pa_nm tx T p2 < 16 then 1 else 0) = 0 then 85 else 94)) (ls' := [some (.ref 57), some (.int (nI o)), some (.int (nI (pa_tk tx T p))), none]) (st' := []) (h' := (n, sl, wKK kk, (rdI I (nI (pa_sk tx T p2)) (nI (pa_sk tx T p2)) (nI (pa_tk tx T p2)) (nI (pa_nm tx T p2)) g2 0 (-1) (nI (ce + cs2.length)) (pa_wr cd ce cs2)), L, wQQ q)) 1 rfl ?_
              refine tv_b0 (fun c82 => ?_) (fun c82 => ?_)
              · refine tv_b (pc' := 91) (ls' := [some (.ref 57), some (.int (nI o)), some (.int (nI (pa_tk tx T p))), none]) (st' := [.int (nI (pa_sk tx T p2)), .int 4, .ref 57]) (h' := (n, sl, wKK kk, (rdI I (nI (pa_sk tx T p2)) (nI (pa_sk tx T p2)) (nI (pa_tk tx T p2)) (nI (pa_nm tx T p2)) g2 0 (-1) (nI (ce + cs2.length)) (pa_wr cd ce cs2)), L, wQQ q)) 4 rfl ?_
                refine tv_cvE [.int 4, .int (nI (pa_sk tx T p2))] [] rfl rfl (by omega) rfl (Nat.le_of_ble_eq_true rfl) (Nat.le_of_ble_eq_true rfl) (Or.inr (Or.inr rfl)) (ev_r_fail0) ?_
                refine tv_b (pc' := 114) (ls' := [some (.ref 57), some (.int (nI o)), some (.int (nI (pa_tk tx T p))), some (.int (nI (pa_nm tx T p2)))]) (st' := [.int 0, .ref 57]) (h' := (n, sl, wKK kk, (rdI I (nI (pa_sk tx T p2)) (nI (pa_sk tx T p2)) 39 (nI (pa_nm tx T p2)) g2 4 (nI (pa_sk tx T p2)) (nI (ce + cs2.length)) (pa_wr cd ce cs2)), L, wQQ q)) 9 rfl ?_
                refine tv_cvE [.int 0] [] rfl rfl (by omega) rfl (Nat.le_of_ble_eq_true rfl) (Nat.le_of_ble_eq_true rfl) (Or.inr (Or.inr rfl)) (ev_r_expectE (rd_L (k := 4) (l := pa_sk tx T p2) (w := nI (pa_sk tx T p2)) (xf := 4) (by decide) rfl)) ?_
                refine tv_b (pc' := 121) (ls' := [some (.ref 57), some (.int (nI o)), some (.int (nI (pa_tk tx T p))), some (.int (nI (pa_nm tx T p2)))]) (st' := [.int 32, .int (nI (pa_nm tx T p2)), .ref 57]) (h' := (n, sl, wKK kk, (rdI I (nI (pa_sk tx T p2)) (nI (pa_sk tx T p2)) 39 (nI (pa_nm tx T p2)) g2 (nI 4) (nI (pa_sk tx T p2)) (nI (ce + cs2.length)) (pa_wr cd ce cs2)), L, wQQ q)) 3 rfl ?_
                refine tv_b (pc' := 122) (ls' := [some (.ref 57), some (.int (nI o)), some (.int (nI (pa_tk tx T p))), some (.int (nI (pa_nm tx T p2)))]) (st' := [.int ((nI (pa_nm tx T p2)) * 32), .ref 57]) (h' := (n, sl, wKK kk, (rdI I (nI (pa_sk tx T p2)) (nI (pa_sk tx T p2)) 39 (nI (pa_nm tx T p2)) g2 (nI 4) (nI (pa_sk tx T p2)) (nI (ce + cs2.length)) (pa_wr cd ce cs2)), L, wQQ q)) 1 rfl ?_
                refine tv_top (show (nI (pa_nm tx T p2)) * 32 = nI ((pa_nm tx T p2) * 32) from nI_mul (pa_nm tx T p2) 32) ?_
                refine tv_b (pc' := 124) (ls' := [some (.ref 57), some (.int (nI o)), some (.int (nI (pa_tk tx T p))), some (.int (nI (pa_nm tx T p2)))]) (st' := [.int 18, .int (nI ((pa_nm tx T p2) * 32)), .ref 57]) (h' := (n, sl, wKK kk, (rdI I (nI (pa_sk tx T p2)) (nI (pa_sk tx T p2)) 39 (nI (pa_nm tx T p2)) g2 (nI 4) (nI (pa_sk tx T p2)) (nI (ce + cs2.length)) (pa_wr cd ce cs2)), L, wQQ q)) 1 rfl ?_
                refine tv_b (pc' := 125) (ls' := [some (.ref 57), some (.int (nI o)), some (.int (nI (pa_tk tx T p))), some (.int (nI (pa_nm tx T p2)))]) (st' := [.int ((nI ((pa_nm tx T p2) * 32)) + 18), .ref 57]) (h' := (n, sl, wKK kk, (rdI I (nI (pa_sk tx T p2)) (nI (pa_sk tx T p2)) 39 (nI (pa_nm tx T p2)) g2 (nI 4) (nI (pa_sk tx T p2)) (nI (ce + cs2.length)) (pa_wr cd ce cs2)), L, wQQ q)) 1 rfl ?_
                refine tv_top (show (nI ((pa_nm tx T p2) * 32)) + 18 = nI (((pa_nm tx T p2) * 32) + 18) from nI_add ((pa_nm tx T p2) * 32) 18) ?_
                refine tv_cvE [.int (nI (((pa_nm tx T p2) * 32) + 18))] [] rfl rfl (by omega) rfl (Nat.le_of_ble_eq_true rfl) (Nat.le_of_ble_eq_true rfl) (Or.inr (Or.inr rfl)) (ev_r_emitF (rd_k (rd_F (rd_L (k := 4) (l := pa_sk tx T p2) (w := nI (pa_sk tx T p2)) (xf := 4) (by decide) rfl)))) ?_
                refine tv_b (pc' := 268) (ls' := [some (.ref 57), some (.int (nI o)), some (.int (nI (pa_tk tx T p))), some (.int (nI (pa_nm tx T p2)))]) (st' := []) (h' := (n, sl, wKK kk, (rdI I (nI (pa_sk tx T p2)) (nI (pa_sk tx T p2)) 39 (nI (pa_nm tx T p2)) g2 (nI 4) (nI (pa_sk tx T p2)) (nI (ce + cs2.length)) (pa_wr cd ce cs2)), L, wQQ q)) 1 rfl ?_
                refine tv_rv rfl ⟨rfl, _, rfl, ?_, hlast⟩
                unfold pa_part
                try dsimp only
                rw [if_neg (by omega), if_neg (by omega), if_pos (by omega)]
                refine rdO_b (hr2) ?_
                try dsimp only
                rw [if_pos c72]
                rw [if_pos (by omega)]
                first | exact rdO_F (rfl) ⟨(rd_F (rd_L (k := 4) (l := pa_sk tx T p2) (w := nI (pa_sk tx T p2)) (xf := 4) (by decide) rfl)), by omega⟩ rfl | exact rdO_bl (rfl) (rdO_F (rfl) ⟨(rd_F (rd_L (k := 4) (l := pa_sk tx T p2) (w := nI (pa_sk tx T p2)) (xf := 4) (by decide) rfl)), by omega⟩ rfl)
              · refine tv_b (pc' := (if (nI (pa_tk tx T p2)) = 21 then 109 else 113)) (ls' := [some (.ref 57), some (.int (nI o)), some (.int (nI (pa_tk tx T p))), some (.int (nI (pa_nm tx T p2)))]) (st' := [.ref 57]) (h' := (n, sl, wKK kk, (rdI I (nI (pa_sk tx T p2)) (nI (pa_sk tx T p2)) (nI (pa_tk tx T p2)) (nI (pa_nm tx T p2)) g2 0 (-1) (nI (ce + cs2.length)) (pa_wr cd ce cs2)), L, wQQ q)) 8 rfl ?_
                refine tv_t ((nI_eq (a := (pa_tk tx T p2)) (b := 21) (by omega) (by omega)).mpr (by omega)) ?_
                refine tv_b (pc' := 114) (ls' := [some (.ref 57), some (.int (nI o)), some (.int (nI (pa_tk tx T p))), some (.int (nI (pa_nm tx T p2)))]) (st' := [.int 1, .ref 57]) (h' := (n, sl, wKK kk, (rdI I (nI (pa_sk tx T p2)) (nI (pa_sk tx T p2)) (nI (pa_tk tx T p2)) (nI (pa_nm tx T p2)) g2 0 (-1) (nI (ce + cs2.length)) (pa_wr cd ce cs2)), L, wQQ q)) 2 rfl ?_
                refine tv_cv [.int 1] [] rfl rfl (by omega) rfl (Nat.le_of_ble_eq_true rfl) (Nat.le_of_ble_eq_true rfl) (Or.inr (Or.inr rfl)) (tv_r_ex1 hH (by omega) (by omega) hn2) ?_
                rintro rv9 h9 ⟨rfl, I9, rfl, ho, hlx⟩
                rcases rdO_c ho with ⟨k3, l3, s3, w3, m3, g3, f3, y3, c3, d3, hr3, hk3, hc3, rfl⟩ | ⟨p3, cs3, m3, g3, hr3, hp3, hn3, rfl⟩
                · refine tv_b (pc' := 121) (ls' := [some (.ref 57), some (.int (nI o)), some (.int (nI (pa_tk tx T p))), some (.int (nI (pa_nm tx T p2)))]) (st' := [.int 32, .int (nI (pa_nm tx T p2)), .ref 57]) (h' := (n, sl, wKK kk, (rdI I s3 w3 39 m3 g3 f3 y3 (nI c3) d3), L, wQQ q)) 3 rfl ?_
                  refine tv_b (pc' := 122) (ls' := [some (.ref 57), some (.int (nI o)), some (.int (nI (pa_tk tx T p))), some (.int (nI (pa_nm tx T p2)))]) (st' := [.int ((nI (pa_nm tx T p2)) * 32), .ref 57]) (h' := (n, sl, wKK kk, (rdI I s3 w3 39 m3 g3 f3 y3 (nI c3) d3), L, wQQ q)) 1 rfl ?_
                  refine tv_top (show (nI (pa_nm tx T p2)) * 32 = nI ((pa_nm tx T p2) * 32) from nI_mul (pa_nm tx T p2) 32) ?_
                  refine tv_b (pc' := 124) (ls' := [some (.ref 57), some (.int (nI o)), some (.int (nI (pa_tk tx T p))), some (.int (nI (pa_nm tx T p2)))]) (st' := [.int 18, .int (nI ((pa_nm tx T p2) * 32)), .ref 57]) (h' := (n, sl, wKK kk, (rdI I s3 w3 39 m3 g3 f3 y3 (nI c3) d3), L, wQQ q)) 1 rfl ?_
                  refine tv_b (pc' := 125) (ls' := [some (.ref 57), some (.int (nI o)), some (.int (nI (pa_tk tx T p))), some (.int (nI (pa_nm tx T p2)))]) (st' := [.int ((nI ((pa_nm tx T p2) * 32)) + 18), .ref 57]) (h' := (n, sl, wKK kk, (rdI I s3 w3 39 m3 g3 f3 y3 (nI c3) d3), L, wQQ q)) 1 rfl ?_
                  refine tv_top (show (nI ((pa_nm tx T p2) * 32)) + 18 = nI (((pa_nm tx T p2) * 32) + 18) from nI_add ((pa_nm tx T p2) * 32) 18) ?_
                  refine tv_cv [.int (nI (((pa_nm tx T p2) * 32) + 18))] [] rfl rfl (by omega) rfl (Nat.le_of_ble_eq_true rfl) (Nat.le_of_ble_eq_true rfl) (Or.inr (Or.inr rfl)) (tv_r_emitE hk3 (by omega)) ?_
                  rintro rv9 h9 ⟨rfl, e3, b3, hb3, rfl⟩
                  refine tv_b (pc' := 268) (ls' := [some (.ref 57), some (.int (nI o)), some (.int (nI (pa_tk tx T p))), some (.int (nI (pa_nm tx T p2)))]) (st' := []) (h' := (n, sl, wKK kk, (rdI I s3 w3 39 m3 g3 f3 y3 (nI e3) b3), L, wQQ q)) 1 rfl ?_
                  refine tv_rv rfl ⟨rfl, _, rfl, ?_, hlast⟩
                  unfold pa_part
                  try dsimp only
                  rw [if_neg (by omega), if_neg (by omega), if_pos (by omega)]
                  refine rdO_b (hr2) ?_
                  try dsimp only
                  rw [if_pos c72]
                  rw [if_neg (by omega)]
                  first | exact rdO_bl (hr3) (rdO_F (hr3) ⟨hk3, by omega⟩ rfl) | exact rdO_F (hr3) ⟨hk3, by omega⟩ rfl
                · have ht3 := pa_tk_lt (b := tx) (n := T) p3
                  have hg3 := pa_edo (tx := tx) (T := T) p3
                  obtain ⟨hl3, hv3⟩ := hlx _ _ hr3
                  have hj3 := pa_ed_le (b := tx) (n := T) (p := p3) hp3.1
                  obtain ⟨hq3, hz3⟩ := pa_nx_r hr3
                  have hy3 : cs3.length = 0 := by rw [hz3]; rfl
                  refine tv_b (pc' := 121) (ls' := [some (.ref 57), some (.int (nI o)), some (.int (nI (pa_tk tx T p))), some (.int (nI (pa_nm tx T p2)))]) (st' := [.int 32, .int (nI (pa_nm tx T p2)), .ref 57]) (h' := (n, sl, wKK kk, (rdI I (nI (pa_sk tx T p3)) (nI (pa_sk tx T p3)) (nI (pa_tk tx T p3)) m3 g3 0 (-1) (nI (ce + cs2.length + cs3.length)) (pa_wr (pa_wr cd ce cs2) (ce + cs2.length) cs3)), L, wQQ q)) 3 rfl ?_
                  refine tv_b (pc' := 122) (ls' := [some (.ref 57), some (.int (nI o)), some (.int (nI (pa_tk tx T p))), some (.int (nI (pa_nm tx T p2)))]) (st' := [.int ((nI (pa_nm tx T p2)) * 32), .ref 57]) (h' := (n, sl, wKK kk, (rdI I (nI (pa_sk tx T p3)) (nI (pa_sk tx T p3)) (nI (pa_tk tx T p3)) m3 g3 0 (-1) (nI (ce + cs2.length + cs3.length)) (pa_wr (pa_wr cd ce cs2) (ce + cs2.length) cs3)), L, wQQ q)) 1 rfl ?_
                  refine tv_top (show (nI (pa_nm tx T p2)) * 32 = nI ((pa_nm tx T p2) * 32) from nI_mul (pa_nm tx T p2) 32) ?_
                  refine tv_b (pc' := 124) (ls' := [some (.ref 57), some (.int (nI o)), some (.int (nI (pa_tk tx T p))), some (.int (nI (pa_nm tx T p2)))]) (st' := [.int 18, .int (nI ((pa_nm tx T p2) * 32)), .ref 57]) (h' := (n, sl, wKK kk, (rdI I (nI (pa_sk tx T p3)) (nI (pa_sk tx T p3)) (nI (pa_tk tx T p3)) m3 g3 0 (-1) (nI (ce + cs2.length + cs3.length)) (pa_wr (pa_wr cd ce cs2) (ce + cs2.length) cs3)), L, wQQ q)) 1 rfl ?_
                  refine tv_b (pc' := 125) (ls' := [some (.ref 57), some (.int (nI o)), some (.int (nI (pa_tk tx T p))), some (.int (nI (pa_nm tx T p2)))]) (st' := [.int ((nI ((pa_nm tx T p2) * 32)) + 18), .ref 57]) (h' := (n, sl, wKK kk, (rdI I (nI (pa_sk tx T p3)) (nI (pa_sk tx T p3)) (nI (pa_tk tx T p3)) m3 g3 0 (-1) (nI (ce + cs2.length + cs3.length)) (pa_wr (pa_wr cd ce cs2) (ce + cs2.length) cs3)), L, wQQ q)) 1 rfl ?_
                  refine tv_top (show (nI ((pa_nm tx T p2) * 32)) + 18 = nI (((pa_nm tx T p2) * 32) + 18) from nI_add ((pa_nm tx T p2) * 32) 18) ?_
                  refine tv_cvE [.int (nI (((pa_nm tx T p2) * 32) + 18))] [] rfl rfl (by omega) rfl (Nat.le_of_ble_eq_true rfl) (Nat.le_of_ble_eq_true rfl) (Or.inr (Or.inr rfl)) (ev_r_emit (by omega)) ?_
                  refine tv_b (pc' := 268) (ls' := [some (.ref 57), some (.int (nI o)), some (.int (nI (pa_tk tx T p))), some (.int (nI (pa_nm tx T p2)))]) (st' := []) (h' := (n, sl, wKK kk, (rdI I (nI (pa_sk tx T p3)) (nI (pa_sk tx T p3)) (nI (pa_tk tx T p3)) m3 g3 0 (-1) (nI (ce + cs2.length + cs3.length + 1)) (upd (pa_wr (pa_wr cd ce cs2) (ce + cs2.length) cs3) (ce + cs2.length + cs3.length) (nI (((pa_nm tx T p2) * 32) + 18)))), L, wQQ q)) 1 rfl ?_
                  refine tv_rv rfl ⟨rfl, _, rfl, ?_, hlast⟩
                  unfold pa_part
                  try dsimp only
                  rw [if_neg (by omega), if_neg (by omega), if_pos (by omega)]
                  refine rdO_b (hr2) ?_
                  try dsimp only
                  rw [if_pos c72]
                  rw [if_neg (by omega)]
                  refine rdO_b (hr3) ?_
                  try dsimp only
                  exact rdO_em ⟨by omega, by omega⟩ hn3 rfl
            · refine tv_b (pc' := (if (nI (pa_tk tx T p2)) = 21 then 109 else 113)) (ls' := [some (.ref 57), some (.int (nI o)), some (.int (nI (pa_tk tx T p))), some (.int m2)]) (st' := [.ref 57]) (h' := (n, sl, wKK kk, (rdI I (nI (pa_sk tx T p2)) (nI (pa_sk tx T p2)) (nI (pa_tk tx T p2)) m2 g2 0 (-1) (nI (ce + cs2.length)) (pa_wr cd ce cs2)), L, wQQ q)) 8 rfl ?_
              refine tv_f (fun hq => absurd ((nI_eq (a := (pa_tk tx T p2)) (b := 21) (by omega) (by omega)).mp hq) (by omega)) ?_
              refine tv_b (pc' := 114) (ls' := [some (.ref 57), some (.int (nI o)), some (.int (nI (pa_tk tx T p))), some (.int m2)]) (st' := [.int 0, .ref 57]) (h' := (n, sl, wKK kk, (rdI I (nI (pa_sk tx T p2)) (nI (pa_sk tx T p2)) (nI (pa_tk tx T p2)) m2 g2 0 (-1) (nI (ce + cs2.length)) (pa_wr cd ce cs2)), L, wQQ q)) 1 rfl ?_
              refine tv_cvE [.int 0] [] rfl rfl (by omega) rfl (Nat.le_of_ble_eq_true rfl) (Nat.le_of_ble_eq_true rfl) (Or.inr (Or.inr rfl)) (ev_r_ex0) ?_
              refine tv_b (pc' := 125) (ls' := [some (.ref 57), some (.int (nI o)), some (.int (nI (pa_tk tx T p))), some (.int m2)]) (st' := [.int ((m2 * 32) + 18), .ref 57]) (h' := (n, sl, wKK kk, (rdI I (nI (pa_sk tx T p2)) (nI (pa_sk tx T p2)) 39 m2 g2 1 (nI (pa_sk tx T p2)) (nI (ce + cs2.length)) (pa_wr cd ce cs2)), L, wQQ q)) 6 rfl ?_
              refine tv_cvE [.int ((m2 * 32) + 18)] [] rfl rfl (by omega) rfl (Nat.le_of_ble_eq_true rfl) (Nat.le_of_ble_eq_true rfl) (Or.inr (Or.inr rfl)) (ev_r_emitF (rd_k (rd_L (k := 1) (l := pa_sk tx T p2) (w := nI (pa_sk tx T p2)) (xf := 1) (by decide) rfl))) ?_
              refine tv_b (pc' := 268) (ls' := [some (.ref 57), some (.int (nI o)), some (.int (nI (pa_tk tx T p))), some (.int m2)]) (st' := []) (h' := (n, sl, wKK kk, (rdI I (nI (pa_sk tx T p2)) (nI (pa_sk tx T p2)) 39 m2 g2 1 (nI (pa_sk tx T p2)) (nI (ce + cs2.length)) (pa_wr cd ce cs2)), L, wQQ q)) 1 rfl ?_
              refine tv_rv rfl ⟨rfl, _, rfl, ?_, hlast⟩
              unfold pa_part
              try dsimp only
              rw [if_neg (by omega), if_neg (by omega), if_pos (by omega)]
              refine rdO_b (hr2) ?_
              try dsimp only
              rw [if_neg c72]
              first | exact rdO_F (rfl) ⟨(rd_L (k := 1) (l := pa_sk tx T p2) (w := nI (pa_sk tx T p2)) (xf := 1) (by decide) rfl), by omega⟩ rfl | exact rdO_bl (rfl) (rdO_F (rfl) ⟨(rd_L (k := 1) (l := pa_sk tx T p2) (w := nI (pa_sk tx T p2)) (xf := 1) (by decide) rfl), by omega⟩ rfl)
        · refine tv_b (pc' := (if (nI (pa_tk tx T p)) = 32 then 137 else 175)) (ls' := [some (.ref 57), some (.int (nI o)), some (.int (nI (pa_tk tx T p))), none]) (st' := []) (h' := (n, sl, wKK kk, (rdI I (nI (pa_sk tx T p)) (nI (pa_sk tx T p)) (nI (pa_tk tx T p)) nm gn 0 (-1) (nI ce) cd), L, wQQ q)) 3 rfl ?_
          refine tv_ifq (nI_eq (a := (pa_tk tx T p)) (b := 32) (by omega) (by omega)) (fun c134 => ?_) (fun c134 => ?_)
          · refine tv_b (pc' := 141) (ls' := [some (.ref 57), some (.int (nI o)), some (.int (nI (pa_tk tx T p))), none]) (st' := [.int (nI o), .int 32, .ref 57]) (h' := (n, sl, wKK kk, (rdI I (nI (pa_sk tx T p)) (nI (pa_sk tx T p)) (nI (pa_tk tx T p)) nm gn 0 (-1) (nI ce) cd), L, wQQ q)) 3 rfl ?_
            refine tv_cv [.int 32, .int (nI o)] [] rfl rfl (by omega) rfl (Nat.le_of_ble_eq_true rfl) (Nat.le_of_ble_eq_true rfl) (Or.inr (Or.inr rfl)) (tv_r_op_32 hH (by omega) (by omega) c134 (by omega) hnm) ?_
            rintro rv9 h9 ⟨hv1, hv2, I9, rfl, ho, hlx⟩
            rcases rdO_d hv1 hv2 ho with ⟨k4, l4, s4, w4, m4, g4, f4, y4, c4, d4, hr4, hk4, hc4, rfl, rfl⟩ | ⟨k4, l4, s4, w4, m4, g4, f4, y4, c4, d4, hr4, hk4, hc4, rfl, rfl⟩ | ⟨p4, cs4, m4, g4, hr4, hp4, hn4, rfl, rfl⟩
            · refine tv_b (pc' := 150) (ls' := [some (.ref 57), some (.int (nI o)), some (.int (nI (pa_tk tx T p))), none]) (st' := [.int 1, .int (nI o), .ref 57]) (h' := (n, sl, wKK kk, (rdI I s4 w4 39 m4 g4 f4 y4 (nI c4) d4), L, wQQ q)) 4 rfl ?_
              refine tv_b (pc' := 151) (ls' := [some (.ref 57), some (.int (nI o)), some (.int (nI (pa_tk tx T p))), none]) (st' := [.int ((nI o) + 1), .ref 57]) (h' := (n, sl, wKK kk, (rdI I s4 w4 39 m4 g4 f4 y4 (nI c4) d4), L, wQQ q)) 1 rfl ?_
              refine tv_top (show (nI o) + 1 = nI (o + 1) from nI_add o 1) ?_
              refine tv_cvE [.int (nI (o + 1))] [] rfl rfl (by omega) rfl (Nat.le_of_ble_eq_true rfl) (Nat.le_of_ble_eq_true rfl) (Or.inr (Or.inr rfl)) (ev_r_sumE hk4) ?_
              refine tv_b (pc' := 169) (ls' := [some (.ref 57), some (.int (nI o)), some (.int (nI (pa_tk tx T p))), none]) (st' := [.int 0, .ref 57]) (h' := (n, sl, wKK kk, (rdI I s4 w4 39 m4 g4 (nI k4) (nI l4) (nI c4) d4), L, wQQ q)) 6 rfl ?_
              refine tv_cvE [.int 0] [] rfl rfl (by omega) rfl (Nat.le_of_ble_eq_true rfl) (Nat.le_of_ble_eq_true rfl) (Or.inr (Or.inr rfl)) (ev_r_expectE (rd_F hk4)) ?_
              refine tv_b (pc' := 268) (ls' := [some (.ref 57), some (.int (nI o)), some (.int (nI (pa_tk tx T p))), none]) (st' := []) (h' := (n, sl, wKK kk, (rdI I s4 w4 39 m4 g4 (nI k4) (nI l4) (nI c4) d4), L, wQQ q)) 1 rfl ?_
              refine tv_rv rfl ⟨rfl, _, rfl, ?_, hlast⟩
              unfold pa_part
              try dsimp only
              rw [if_neg (by omega), if_neg (by omega), if_neg (by omega), if_pos (by omega)]
              rw [if_neg hz]
              first | exact rdO_bl (hr4) (rdO_F (hr4) ⟨(rd_F (rd_F hk4)), by omega⟩ rfl) | exact rdO_F (hr4) ⟨(rd_F (rd_F hk4)), by omega⟩ rfl
            · refine tv_b (pc' := 268) (ls' := [some (.ref 57), some (.int (nI o)), some (.int (nI (pa_tk tx T p))), none]) (st' := []) (h' := (n, sl, wKK kk, (rdI I s4 w4 39 m4 g4 f4 y4 (nI c4) d4), L, wQQ q)) 1 rfl ?_
              refine tv_rv rfl ⟨rfl, _, rfl, ?_, hlast⟩
              unfold pa_part
              try dsimp only
              rw [if_neg (by omega), if_neg (by omega), if_neg (by omega), if_pos (by omega)]
              rw [if_neg hz]
              first | exact rdO_bl (hr4) (rdO_F (hr4) ⟨hk4, by omega⟩ rfl) | exact rdO_F (hr4) ⟨hk4, by omega⟩ rfl
            · have ht4 := pa_tk_lt (b := tx) (n := T) p4
              have hg4 := pa_edo (tx := tx) (T := T) p4
              obtain ⟨hl4, hv4⟩ := hlx _ _ hr4
              have hj4 := pa_ed_le (b := tx) (n := T) (p := p4) hp4.1
              obtain ⟨hq4, hz4⟩ := pa_nx_r hr4
              have hy4 : cs4.length = 0 := by rw [hz4]; rfl
              refine tv_b (pc' := 150) (ls' := [some (.ref 57), some (.int (nI o)), some (.int (nI (pa_tk tx T p))), none]) (st' := [.int 1, .int (nI o), .ref 57]) (h' := (n, sl, wKK kk, (rdI I (nI (pa_sk tx T p4)) (nI (pa_sk tx T p4)) (nI (pa_tk tx T p4)) m4 g4 0 (-1) (nI (ce + cs4.length)) (pa_wr cd ce cs4)), L, wQQ q)) 4 rfl ?_
              refine tv_b (pc' := 151) (ls' := [some (.ref 57), some (.int (nI o)), some (.int (nI (pa_tk tx T p))), none]) (st' := [.int ((nI o) + 1), .ref 57]) (h' := (n, sl, wKK kk, (rdI I (nI (pa_sk tx T p4)) (nI (pa_sk tx T p4)) (nI (pa_tk tx T p4)) m4 g4 0 (-1) (nI (ce + cs4.length)) (pa_wr cd ce cs4)), L, wQQ q)) 1 rfl ?_
              refine tv_top (show (nI o) + 1 = nI (o + 1) from nI_add o 1) ?_
              refine tv_cv [.int (nI (o + 1))] [] rfl rfl (by omega) rfl (Nat.le_of_ble_eq_true rfl) (Nat.le_of_ble_eq_true rfl) (Or.inr (Or.inr rfl)) ((hI hz0) _ p4 _ _ _ _ (by omega) (by omega) (by omega) hn4 hl4) ?_
              rintro rv9 h9 ⟨rfl, I9, rfl, ho, hlx⟩
              rcases rdO_c ho with ⟨k5, l5, s5, w5, m5, g5, f5, y5, c5, d5, hr5, hk5, hc5, rfl⟩ | ⟨p5, cs5, m5, g5, hr5, hp5, hn5, rfl⟩
              · refine tv_b (pc' := 169) (ls' := [some (.ref 57), some (.int (nI o)), some (.int (nI (pa_tk tx T p))), none]) (st' := [.int 0, .ref 57]) (h' := (n, sl, wKK kk, (rdI I s5 w5 39 m5 g5 f5 y5 (nI c5) d5), L, wQQ q)) 6 rfl ?_
                refine tv_cvE [.int 0] [] rfl rfl (by omega) rfl (Nat.le_of_ble_eq_true rfl) (Nat.le_of_ble_eq_true rfl) (Or.inr (Or.inr rfl)) (ev_r_expectE hk5) ?_
                refine tv_b (pc' := 268) (ls' := [some (.ref 57), some (.int (nI o)), some (.int (nI (pa_tk tx T p))), none]) (st' := []) (h' := (n, sl, wKK kk, (rdI I s5 w5 39 m5 g5 (nI k5) (nI l5) (nI c5) d5), L, wQQ q)) 1 rfl ?_
                refine tv_rv rfl ⟨rfl, _, rfl, ?_, hlast⟩
                unfold pa_part
                try dsimp only
                rw [if_neg (by omega), if_neg (by omega), if_neg (by omega), if_pos (by omega)]
                rw [if_neg hz]
                refine rdO_b (hr4) ?_
                try dsimp only
                first | exact rdO_bl (hr5) (rdO_F (hr5) ⟨(rd_F hk5), by omega⟩ rfl) | exact rdO_F (hr5) ⟨(rd_F hk5), by omega⟩ rfl
              · have ht5 := pa_tk_lt (b := tx) (n := T) p5
                have hg5 := pa_edo (tx := tx) (T := T) p5
                obtain ⟨hl5, hv5⟩ := hlx _ _ hr5
                have hj5 := pa_ed_le (b := tx) (n := T) (p := p5) hp5.1
                refine tv_b (pc' := (if (nI (pa_tk tx T p5)) = 33 then 164 else 168)) (ls' := [some (.ref 57), some (.int (nI o)), some (.int (nI (pa_tk tx T p))), none]) (st' := [.ref 57]) (h' := (n, sl, wKK kk, (rdI I (nI (pa_sk tx T p5)) (nI (pa_sk tx T p5)) (nI (pa_tk tx T p5)) m5 g5 0 (-1) (nI (ce + cs4.length + cs5.length)) (pa_wr (pa_wr cd ce cs4) (ce + cs4.length) cs5)), L, wQQ q)) 5 rfl ?_
                refine tv_ifq (nI_eq (a := (pa_tk tx T p5)) (b := 33) (by omega) (by omega)) (fun c161 => ?_) (fun c161 => ?_)
                · refine tv_b (pc' := 169) (ls' := [some (.ref 57), some (.int (nI o)), some (.int (nI (pa_tk tx T p))), none]) (st' := [.int 1, .ref 57]) (h' := (n, sl, wKK kk, (rdI I (nI (pa_sk tx T p5)) (nI (pa_sk tx T p5)) (nI (pa_tk tx T p5)) m5 g5 0 (-1) (nI (ce + cs4.length + cs5.length)) (pa_wr (pa_wr cd ce cs4) (ce + cs4.length) cs5)), L, wQQ q)) 2 rfl ?_
                  refine tv_cv [.int 1] [] rfl rfl (by omega) rfl (Nat.le_of_ble_eq_true rfl) (Nat.le_of_ble_eq_true rfl) (Or.inr (Or.inr rfl)) (tv_r_ex1 hH (by omega) (by omega) hn5) ?_
                  rintro rv9 h9 ⟨rfl, I9, rfl, ho, hlx⟩
                  rcases rdO_c ho with ⟨k6, l6, s6, w6, m6, g6, f6, y6, c6, d6, hr6, hk6, hc6, rfl⟩ | ⟨p6, cs6, m6, g6, hr6, hp6, hn6, rfl⟩
                  · refine tv_b (pc' := 268) (ls' := [some (.ref 57), some (.int (nI o)), some (.int (nI (pa_tk tx T p))), none]) (st' := []) (h' := (n, sl, wKK kk, (rdI I s6 w6 39 m6 g6 f6 y6 (nI c6) d6), L, wQQ q)) 1 rfl ?_
                    refine tv_rv rfl ⟨rfl, _, rfl, ?_, hlast⟩
                    unfold pa_part
                    try dsimp only
                    rw [if_neg (by omega), if_neg (by omega), if_neg (by omega), if_pos (by omega)]
                    rw [if_neg hz]
                    refine rdO_b (hr4) ?_
                    try dsimp only
                    refine rdO_b (hr5) ?_
                    try dsimp only
                    first | exact rdO_bl ((pa_ex_t c161).trans hr6) (rdO_F ((pa_ex_t c161).trans hr6) ⟨hk6, by omega⟩ rfl) | exact rdO_F ((pa_ex_t c161).trans hr6) ⟨hk6, by omega⟩ rfl
                  · have ht6 := pa_tk_lt (b := tx) (n := T) p6
                    have hg6 := pa_edo (tx := tx) (T := T) p6
                    obtain ⟨hl6, hv6⟩ := hlx _ _ hr6
                    have hj6 := pa_ed_le (b := tx) (n := T) (p := p6) hp6.1
                    obtain ⟨hq6, hz6⟩ := pa_nx_r hr6
                    have hy6 : cs6.length = 0 := by rw [hz6]; rfl
                    refine tv_b (pc' := 268) (ls' := [some (.ref 57), some (.int (nI o)), some (.int (nI (pa_tk tx T p))), none]) (st' := []) (h' := (n, sl, wKK kk, (rdI I (nI (pa_sk tx T p6)) (nI (pa_sk tx T p6)) (nI (pa_tk tx T p6)) m6 g6 0 (-1) (nI (ce + cs4.length + cs5.length + cs6.length)) (pa_wr (pa_wr (pa_wr cd ce cs4) (ce + cs4.length) cs5) (ce + cs4.length + cs5.length) cs6)), L, wQQ q)) 1 rfl ?_
                    refine tv_rv rfl ⟨rfl, _, rfl, ?_, hlast⟩
                    unfold pa_part
                    try dsimp only
                    rw [if_neg (by omega), if_neg (by omega), if_neg (by omega), if_pos (by omega)]
                    rw [if_neg hz]
                    refine rdO_b (hr4) ?_
                    try dsimp only
                    refine rdO_b (hr5) ?_
                    try dsimp only
                    exact rdO_N ((pa_ex_t c161).trans hr6) hp6 hn6 rfl
                · refine tv_b (pc' := 169) (ls' := [some (.ref 57), some (.int (nI o)), some (.int (nI (pa_tk tx T p))), none]) (st' := [.int 0, .ref 57]) (h' := (n, sl, wKK kk, (rdI I (nI (pa_sk tx T p5)) (nI (pa_sk tx T p5)) (nI (pa_tk tx T p5)) m5 g5 0 (-1) (nI (ce + cs4.length + cs5.length)) (pa_wr (pa_wr cd ce cs4) (ce + cs4.length) cs5)), L, wQQ q)) 1 rfl ?_
                  refine tv_cvE [.int 0] [] rfl rfl (by omega) rfl (Nat.le_of_ble_eq_true rfl) (Nat.le_of_ble_eq_true rfl) (Or.inr (Or.inr rfl)) (ev_r_ex0) ?_
                  refine tv_b (pc' := 268) (ls' := [some (.ref 57), some (.int (nI o)), some (.int (nI (pa_tk tx T p))), none]) (st' := []) (h' := (n, sl, wKK kk, (rdI I (nI (pa_sk tx T p5)) (nI (pa_sk tx T p5)) 39 m5 g5 1 (nI (pa_sk tx T p5)) (nI (ce + cs4.length + cs5.length)) (pa_wr (pa_wr cd ce cs4) (ce + cs4.length) cs5)), L, wQQ q)) 1 rfl ?_
                  refine tv_rv rfl ⟨rfl, _, rfl, ?_, hlast⟩
                  unfold pa_part
                  try dsimp only
                  rw [if_neg (by omega), if_neg (by omega), if_neg (by omega), if_pos (by omega)]
                  rw [if_neg hz]
                  refine rdO_b (hr4) ?_
                  try dsimp only
                  refine rdO_b (hr5) ?_
                  try dsimp only
                  first | exact rdO_F ((pa_ex_f c161)) ⟨(rd_L (k := 1) (l := pa_sk tx T p5) (w := nI (pa_sk tx T p5)) (xf := 1) (by decide) rfl), by omega⟩ rfl | exact rdO_bl ((pa_ex_f c161)) (rdO_F ((pa_ex_f c161)) ⟨(rd_L (k := 1) (l := pa_sk tx T p5) (w := nI (pa_sk tx T p5)) (xf := 1) (by decide) rfl), by omega⟩ rfl)
          · refine tv_b (pc' := (if (nI (pa_tk tx T p)) = 19 then 187 else 181)) (ls' := [some (.ref 57), some (.int (nI o)), some (.int (nI (pa_tk tx T p))), none]) (st' := []) (h' := (n, sl, wKK kk, (rdI I (nI (pa_sk tx T p)) (nI (pa_sk tx T p)) (nI (pa_tk tx T p)) nm gn 0 (-1) (nI ce) cd), L, wQQ q)) 3 rfl ?_
            refine tv_ifq (nI_eq (a := (pa_tk tx T p)) (b := 19) (by omega) (by omega)) (fun c178 => ?_) (fun c178 => ?_)
            · refine tv_b (pc' := 188) (ls' := [some (.ref 57), some (.int (nI o)), some (.int (nI (pa_tk tx T p))), none]) (st' := [.ref 57]) (h' := (n, sl, wKK kk, (rdI I (nI (pa_sk tx T p)) (nI (pa_sk tx T p)) (nI (pa_tk tx T p)) nm gn 0 (-1) (nI ce) cd), L, wQQ q)) 1 rfl ?_
              refine tv_cv [] [] rfl rfl (by omega) rfl (Nat.le_of_ble_eq_true rfl) (Nat.le_of_ble_eq_true rfl) (Or.inr (Or.inr rfl)) (tv_r_nx hH (by omega) (by omega) hnm) ?_
              rintro rv9 h9 ⟨rfl, I9, rfl, ho, hlx⟩
              rcases rdO_c ho with ⟨k7, l7, s7, w7, m7, g7, f7, y7, c7, d7, hr7, hk7, hc7, rfl⟩ | ⟨p7, cs7, m7, g7, hr7, hp7, hn7, rfl⟩
              · refine tv_b (pc' := 195) (ls' := [some (.ref 57), some (.int (nI o)), some (.int (nI (pa_tk tx T p))), none]) (st' := [.int (nI o), .int 32, .ref 57]) (h' := (n, sl, wKK kk, (rdI I s7 w7 39 m7 g7 f7 y7 (nI c7) d7), L, wQQ q)) 3 rfl ?_
                refine tv_cvE [.int 32, .int (nI o)] [] rfl rfl (by omega) rfl (Nat.le_of_ble_eq_true rfl) (Nat.le_of_ble_eq_true rfl) (Or.inr (Or.inr rfl)) (ev_r_opensE32 hk7) ?_
                refine tv_b (pc' := 268) (ls' := [some (.ref 57), some (.int (nI o)), some (.int (nI (pa_tk tx T p))), none]) (st' := []) (h' := (n, sl, wKK kk, (rdI I s7 w7 39 m7 g7 (nI k7) (nI l7) (nI c7) d7), L, wQQ q)) 1 rfl ?_
                refine tv_rv rfl ⟨rfl, _, rfl, ?_, hlast⟩
                unfold pa_part
                try dsimp only
                rw [if_neg (by omega), if_neg (by omega), if_neg (by omega), if_neg (by omega), if_pos (by omega)]
                first | exact rdO_bl (hr7) (rdO_F (hr7) ⟨(rd_F hk7), by omega⟩ rfl) | exact rdO_F (hr7) ⟨(rd_F hk7), by omega⟩ rfl
              · have ht7 := pa_tk_lt (b := tx) (n := T) p7
                have hg7 := pa_edo (tx := tx) (T := T) p7
                obtain ⟨hl7, hv7⟩ := hlx _ _ hr7
                have hj7 := pa_ed_le (b := tx) (n := T) (p := p7) hp7.1
                obtain ⟨hq7, hz7⟩ := pa_nx_r hr7
                have hy7 : cs7.length = 0 := by rw [hz7]; rfl
                by_cases hb : pa_tk tx T p7 = 32
                · refine tv_b (pc' := 195) (ls' := [some (.ref 57), some (.int (nI o)), some (.int (nI (pa_tk tx T p))), none]) (st' := [.int (nI o), .int 32, .ref 57]) (h' := (n, sl, wKK kk, (rdI I (nI (pa_sk tx T p7)) (nI (pa_sk tx T p7)) (nI (pa_tk tx T p7)) m7 g7 0 (-1) (nI (ce + cs7.length)) (pa_wr cd ce cs7)), L, wQQ q)) 3 rfl ?_
                  refine tv_cv [.int 32, .int (nI o)] [] rfl rfl (by omega) rfl (Nat.le_of_ble_eq_true rfl) (Nat.le_of_ble_eq_true rfl) (Or.inr (Or.inr rfl)) (tv_r_op_32 hH (by omega) (by omega) hb (by omega) hn7) ?_
                  rintro rv9 h9 ⟨hv1, hv2, I9, rfl, ho, hlx⟩
                  rcases rdO_d hv1 hv2 ho with ⟨k8, l8, s8, w8, m8, g8, f8, y8, c8, d8, hr8, hk8, hc8, rfl, rfl⟩ | ⟨k8, l8, s8, w8, m8, g8, f8, y8, c8, d8, hr8, hk8, hc8, rfl, rfl⟩ | ⟨p8, cs8, m8, g8, hr8, hp8, hn8, rfl, rfl⟩
                  · refine tv_b (pc' := 204) (ls' := [some (.ref 57), some (.int (nI o)), some (.int (nI (pa_tk tx T p))), none]) (st' := [.int 1, .int (nI o), .ref 57]) (h' := (n, sl, wKK kk, (rdI I s8 w8 39 m8 g8 f8 y8 (nI c8) d8), L, wQQ q)) 4 rfl ?_
                    refine tv_b (pc' := 205) (ls' := [some (.ref 57), some (.int (nI o)), some (.int (nI (pa_tk tx T p))), none]) (st' := [.int ((nI o) + 1), .ref 57]) (h' := (n, sl, wKK kk, (rdI I s8 w8 39 m8 g8 f8 y8 (nI c8) d8), L, wQQ q)) 1 rfl ?_
                    refine tv_top (show (nI o) + 1 = nI (o + 1) from nI_add o 1) ?_
                    refine tv_cvE [.int (nI (o + 1))] [] rfl rfl (by omega) rfl (Nat.le_of_ble_eq_true rfl) (Nat.le_of_ble_eq_true rfl) (Or.inr (Or.inr rfl)) (ev_r_sumE hk8) ?_
                    refine tv_b (pc' := 223) (ls' := [some (.ref 57), some (.int (nI o)), some (.int (nI (pa_tk tx T p))), none]) (st' := [.int 0, .ref 57]) (h' := (n, sl, wKK kk, (rdI I s8 w8 39 m8 g8 (nI k8) (nI l8) (nI c8) d8), L, wQQ q)) 6 rfl ?_
                    refine tv_cvE [.int 0] [] rfl rfl (by omega) rfl (Nat.le_of_ble_eq_true rfl) (Nat.le_of_ble_eq_true rfl) (Or.inr (Or.inr rfl)) (ev_r_expectE (rd_F hk8)) ?_
                    refine tv_b (pc' := 229) (ls' := [some (.ref 57), some (.int (nI o)), some (.int (nI (pa_tk tx T p))), none]) (st' := [.int 1, .int (nI o), .ref 57]) (h' := (n, sl, wKK kk, (rdI I s8 w8 39 m8 g8 (nI k8) (nI l8) (nI c8) d8), L, wQQ q)) 3 rfl ?_
                    refine tv_b (pc' := 230) (ls' := [some (.ref 57), some (.int (nI o)), some (.int (nI (pa_tk tx T p))), none]) (st' := [.int ((nI o) + 1), .ref 57]) (h' := (n, sl, wKK kk, (rdI I s8 w8 39 m8 g8 (nI k8) (nI l8) (nI c8) d8), L, wQQ q)) 1 rfl ?_
                    refine tv_top (show (nI o) + 1 = nI (o + 1) from nI_add o 1) ?_
                    refine tv_cvE [.int (nI (o + 1))] [] rfl rfl (by omega) rfl (Nat.le_of_ble_eq_true rfl) (Nat.le_of_ble_eq_true rfl) (Or.inr (Or.inr rfl)) (ev_r_sumE (rd_F (rd_F hk8))) ?_
                    refine tv_b (pc' := 248) (ls' := [some (.ref 57), some (.int (nI o)), some (.int (nI (pa_tk tx T p))), none]) (st' := [.int 0, .ref 57]) (h' := (n, sl, wKK kk, (rdI I s8 w8 39 m8 g8 (nI k8) (nI l8) (nI c8) d8), L, wQQ q)) 6 rfl ?_
                    refine tv_cvE [.int 0] [] rfl rfl (by omega) rfl (Nat.le_of_ble_eq_true rfl) (Nat.le_of_ble_eq_true rfl) (Or.inr (Or.inr rfl)) (ev_r_expectE (rd_F (rd_F (rd_F hk8)))) ?_
                    refine tv_b (pc' := 253) (ls' := [some (.ref 57), some (.int (nI o)), some (.int (nI (pa_tk tx T p))), none]) (st' := [.int (nI (pa_tk tx T p)), .ref 57]) (h' := (n, sl, wKK kk, (rdI I s8 w8 39 m8 g8 (nI k8) (nI l8) (nI c8) d8), L, wQQ q)) 2 rfl ?_
                    refine tv_cvE [.int (nI (pa_tk tx T p))] [] rfl rfl (by omega) rfl (Nat.le_of_ble_eq_true rfl) (Nat.le_of_ble_eq_true rfl) (Or.inr (Or.inr rfl)) (ev_r_emitF (rd_k (rd_F (rd_F (rd_F (rd_F hk8)))))) ?_
                    refine tv_b (pc' := 268) (ls' := [some (.ref 57), some (.int (nI o)), some (.int (nI (pa_tk tx T p))), none]) (st' := []) (h' := (n, sl, wKK kk, (rdI I s8 w8 39 m8 g8 (nI k8) (nI l8) (nI c8) d8), L, wQQ q)) 1 rfl ?_
                    refine tv_rv rfl ⟨rfl, _, rfl, ?_, hlast⟩
                    unfold pa_part
                    try dsimp only
                    rw [if_neg (by omega), if_neg (by omega), if_neg (by omega), if_neg (by omega), if_pos (by omega)]
                    refine rdO_b (hr7) ?_
                    try dsimp only
                    rw [if_pos hb]
                    rw [if_neg hz]
                    first | exact rdO_bl (hr8) (rdO_F (hr8) ⟨(rd_F (rd_F (rd_F (rd_F hk8)))), by omega⟩ rfl) | exact rdO_F (hr8) ⟨(rd_F (rd_F (rd_F (rd_F hk8)))), by omega⟩ rfl
                  · refine tv_b (pc' := 268) (ls' := [some (.ref 57), some (.int (nI o)), some (.int (nI (pa_tk tx T p))), none]) (st' := []) (h' := (n, sl, wKK kk, (rdI I s8 w8 39 m8 g8 f8 y8 (nI c8) d8), L, wQQ q)) 1 rfl ?_
                    refine tv_rv rfl ⟨rfl, _, rfl, ?_, hlast⟩
                    unfold pa_part
                    try dsimp only
                    rw [if_neg (by omega), if_neg (by omega), if_neg (by omega), if_neg (by omega), if_pos (by omega)]
                    refine rdO_b (hr7) ?_
                    try dsimp only
                    rw [if_pos hb]
                    rw [if_neg hz]
                    first | exact rdO_bl (hr8) (rdO_F (hr8) ⟨hk8, by omega⟩ rfl) | exact rdO_F (hr8) ⟨hk8, by omega⟩ rfl
                  · have ht8 := pa_tk_lt (b := tx) (n := T) p8
                    have hg8 := pa_edo (tx := tx) (T := T) p8
                    obtain ⟨hl8, hv8⟩ := hlx _ _ hr8
                    have hj8 := pa_ed_le (b := tx) (n := T) (p := p8) hp8.1
                    obtain ⟨hq8, hz8⟩ := pa_nx_r hr8
                    have hy8 : cs8.length = 0 := by rw [hz8]; rfl
                    refine tv_b (pc' := 204) (ls' := [some (.ref 57), some (.int (nI o)), some (.int (nI (pa_tk tx T p))), none]) (st' := [.int 1, .int (nI o), .ref 57]) (h' := (n, sl, wKK kk, (rdI I (nI (pa_sk tx T p8)) (nI (pa_sk tx T p8)) (nI (pa_tk tx T p8)) m8 g8 0 (-1) (nI (ce + cs7.length + cs8.length)) (pa_wr (pa_wr cd ce cs7) (ce + cs7.length) cs8)), L, wQQ q)) 4 rfl ?_
                    refine tv_b (pc' := 205) (ls' := [some (.ref 57), some (.int (nI o)), some (.int (nI (pa_tk tx T p))), none]) (st' := [.int ((nI o) + 1), .ref 57]) (h' := (n, sl, wKK kk, (rdI I (nI (pa_sk tx T p8)) (nI (pa_sk tx T p8)) (nI (pa_tk tx T p8)) m8 g8 0 (-1) (nI (ce + cs7.length + cs8.length)) (pa_wr (pa_wr cd ce cs7) (ce + cs7.length) cs8)), L, wQQ q)) 1 rfl ?_
                    refine tv_top (show (nI o) + 1 = nI (o + 1) from nI_add o 1) ?_
                    refine tv_cv [.int (nI (o + 1))] [] rfl rfl (by omega) rfl (Nat.le_of_ble_eq_true rfl) (Nat.le_of_ble_eq_true rfl) (Or.inr (Or.inr rfl)) ((hI hz0) _ p8 _ _ _ _ (by omega) (by omega) (by omega) hn8 hl8) ?_
                    rintro rv9 h9 ⟨rfl, I9, rfl, ho, hlx⟩
                    rcases rdO_c ho with ⟨k9, l9, s9, w9, m9, g9, f9, y9, c9, d9, hr9, hk9, hc9, rfl⟩ | ⟨p9, cs9, m9, g9, hr9, hp9, hn9, rfl⟩
                    · refine tv_b (pc' := 223) (ls' := [some (.ref 57), some (.int (nI o)), some (.int (nI (pa_tk tx T p))), none]) (st' := [.int 0, .ref 57]) (h' := (n, sl, wKK kk, (rdI I s9 w9 39 m9 g9 f9 y9 (nI c9) d9), L, wQQ q)) 6 rfl ?_
                      refine tv_cvE [.int 0] [] rfl rfl (by omega) rfl (Nat.le_of_ble_eq_true rfl) (Nat.le_of_ble_eq_true rfl) (Or.inr (Or.inr rfl)) (ev_r_expectE hk9) ?_
                      refine tv_b (pc' := 229) (ls' := [some (.ref 57), some (.int (nI o)), some (.int (nI (pa_tk tx T p))), none]) (st' := [.int 1, .int (nI o), .ref 57]) (h' := (n, sl, wKK kk, (rdI I s9 w9 39 m9 g9 (nI k9) (nI l9) (nI c9) d9), L, wQQ q)) 3 rfl ?_
                      refine tv_b (pc' := 230) (ls' := [some (.ref 57), some (.int (nI o)), some (.int (nI (pa_tk tx T p))), none]) (st' := [.int ((nI o) + 1), .ref 57]) (h' := (n, sl, wKK kk, (rdI I s9 w9 39 m9 g9 (nI k9) (nI l9) (nI c9) d9), L, wQQ q)) 1 rfl ?_
                      refine tv_top (show (nI o) + 1 = nI (o + 1) from nI_add o 1) ?_
                      refine tv_cvE [.int (nI (o + 1))] [] rfl rfl (by omega) rfl (Nat.le_of_ble_eq_true rfl) (Nat.le_of_ble_eq_true rfl) (Or.inr (Or.inr rfl)) (ev_r_sumE (rd_F hk9)) ?_
                      refine tv_b (pc' := 248) (ls' := [some (.ref 57), some (.int (nI o)), some (.int (nI (pa_tk tx T p))), none]) (st' := [.int 0, .ref 57]) (h' := (n, sl, wKK kk, (rdI I s9 w9 39 m9 g9 (nI k9) (nI l9) (nI c9) d9), L, wQQ q)) 6 rfl ?_
                      refine tv_cvE [.int 0] [] rfl rfl (by omega) rfl (Nat.le_of_ble_eq_true rfl) (Nat.le_of_ble_eq_true rfl) (Or.inr (Or.inr rfl)) (ev_r_expectE (rd_F (rd_F hk9))) ?_
                      refine tv_b (pc' := 253) (ls' := [some (.ref 57), some (.int (nI o)), some (.int (nI (pa_tk tx T p))), none]) (st' := [.int (nI (pa_tk tx T p)), .ref 57]) (h' := (n, sl, wKK kk, (rdI I s9 w9 39 m9 g9 (nI k9) (nI l9) (nI c9) d9), L, wQQ q)) 2 rfl ?_
                      refine tv_cvE [.int (nI (pa_tk tx T p))] [] rfl rfl (by omega) rfl (Nat.le_of_ble_eq_true rfl) (Nat.le_of_ble_eq_true rfl) (Or.inr (Or.inr rfl)) (ev_r_emitF (rd_k (rd_F (rd_F (rd_F hk9))))) ?_
                      refine tv_b (pc' := 268) (ls' := [some (.ref 57), some (.int (nI o)), some (.int (nI (pa_tk tx T p))), none]) (st' := []) (h' := (n, sl, wKK kk, (rdI I s9 w9 39 m9 g9 (nI k9) (nI l9) (nI c9) d9), L, wQQ q)) 1 rfl ?_
                      refine tv_rv rfl ⟨rfl, _, rfl, ?_, hlast⟩
                      unfold pa_part
                      try dsimp only
                      rw [if_neg (by omega), if_neg (by omega), if_neg (by omega), if_neg (by omega), if_pos (by omega)]
                      refine rdO_b (hr7) ?_
                      try dsimp only
                      rw [if_pos hb]
                      rw [if_neg hz]
                      refine rdO_b (hr8) ?_
                      try dsimp only
                      first | exact rdO_bl (hr9) (rdO_F (hr9) ⟨(rd_F (rd_F (rd_F hk9))), by omega⟩ rfl) | exact rdO_F (hr9) ⟨(rd_F (rd_F (rd_F hk9))), by omega⟩ rfl
                    · have ht9 := pa_tk_lt (b := tx) (n := T) p9
                      have hg9 := pa_edo (tx := tx) (T := T) p9
                      obtain ⟨hl9, hv9⟩ := hlx _ _ hr9
                      have hj9 := pa_ed_le (b := tx) (n := T) (p := p9) hp9.1
                      refine tv_b (pc' := (if (nI (pa_tk tx T p9)) = 36 then 218 else 222)) (ls' := [some (.ref 57), some (.int (nI o)), some (.int (nI (pa_tk tx T p))), none]) (st' := [.ref 57]) (h' := (n, sl, wKK kk, (rdI I (nI (pa_sk tx T p9)) (nI (pa_sk tx T p9)) (nI (pa_tk tx T p9)) m9 g9 0 (-1) (nI (ce + cs7.length + cs8.length + cs9.length)) (pa_wr (pa_wr (pa_wr cd ce cs7) (ce + cs7.length) cs8) (ce + cs7.length + cs8.length) cs9)), L, wQQ q)) 5 rfl ?_
                      refine tv_ifq (nI_eq (a := (pa_tk tx T p9)) (b := 36) (by omega) (by omega)) (fun c215 => ?_) (fun c215 => ?_)
                      · refine tv_b (pc' := 223) (ls' := [some (.ref 57), some (.int (nI o)), some (.int (nI (pa_tk tx T p))), none]) (st' := [.int 1, .ref 57]) (h' := (n, sl, wKK kk, (rdI I (nI (pa_sk tx T p9)) (nI (pa_sk tx T p9)) (nI (pa_tk tx T p9)) m9 g9 0 (-1) (nI (ce + cs7.length + cs8.length + cs9.length)) (pa_wr (pa_wr (pa_wr cd ce cs7) (ce + cs7.length) cs8) (ce + cs7.length + cs8.length) cs9)), L, wQQ q)) 2 rfl ?_
                        refine tv_cv [.int 1] [] rfl rfl (by omega) rfl (Nat.le_of_ble_eq_true rfl) (Nat.le_of_ble_eq_true rfl) (Or.inr (Or.inr rfl)) (tv_r_ex1 hH (by omega) (by omega) hn9) ?_
                        rintro rv9 h9 ⟨rfl, I9, rfl, ho, hlx⟩
                        rcases rdO_c ho with ⟨k10, l10, s10, w10, m10, g10, f10, y10, c10, d10, hr10, hk10, hc10, rfl⟩ | ⟨p10, cs10, m10, g10, hr10, hp10, hn10, rfl⟩
                        · refine tv_b (pc' := 229) (ls' := [some (.ref 57), some (.int (nI o)), some (.int (nI (pa_tk tx T p))), none]) (st' := [.int 1, .int (nI o), .ref 57]) (h' := (n, sl, wKK kk, (rdI I s10 w10 39 m10 g10 f10 y10 (nI c10) d10), L, wQQ q)) 3 rfl ?_
                          refine tv_b (pc' := 230) (ls' := [some (.ref 57), some (.int (nI o)), some (.int (nI (pa_tk tx T p))), none]) (st' := [.int ((nI o) + 1), .ref 57]) (h' := (n, sl, wKK kk, (rdI I s10 w10 39 m10 g10 f10 y10 (nI c10) d10), L, wQQ q)) 1 rfl ?_
                          refine tv_top (show (nI o) + 1 = nI (o + 1) from nI_add o 1) ?_
                          refine tv_cvE [.int (nI (o + 1))] [] rfl rfl (by omega) rfl (Nat.le_of_ble_eq_true rfl) (Nat.le_of_ble_eq_true rfl) (Or.inr (Or.inr rfl)) (ev_r_sumE hk10) ?_
                          refine tv_b (pc' := 248) (ls' := [some (.ref 57), some (.int (nI o)), some (.int (nI (pa_tk tx T p))), none]) (st' := [.int 0, .ref 57]) (h' := (n, sl, wKK kk, (rdI I s10 w10 39 m10 g10 (nI k10) (nI l10) (nI c10) d10), L, wQQ q)) 6 rfl ?_
                          refine tv_cvE [.int 0] [] rfl rfl (by omega) rfl (Nat.le_of_ble_eq_true rfl) (Nat.le_of_ble_eq_true rfl) (Or.inr (Or.inr rfl)) (ev_r_expectE (rd_F hk10)) ?_
                          refine tv_b (pc' := 253) (ls' := [some (.ref 57), some (.int (nI o)), some (.int (nI (pa_tk tx T p))), none]) (st' := [.int (nI (pa_tk tx T p)), .ref 57]) (h' := (n, sl, wKK kk, (rdI I s10 w10 39 m10 g10 (nI k10) (nI l10) (nI c10) d10), L, wQQ q)) 2 rfl ?_
                          refine tv_cvE [.int (nI (pa_tk tx T p))] [] rfl rfl (by omega) rfl (Nat.le_of_ble_eq_true rfl) (Nat.le_of_ble_eq_true rfl) (Or.inr (Or.inr rfl)) (ev_r_emitF (rd_k (rd_F (rd_F hk10)))) ?_
                          refine tv_b (pc' := 268) (ls' := [some (.ref 57), some (.int (nI o)), some (.int (nI (pa_tk tx T p))), none]) (st' := []) (h' := (n, sl, wKK kk, (rdI I s10 w10 39 m10 g10 (nI k10) (nI l10) (nI c10) d10), L, wQQ q)) 1 rfl ?_
                          refine tv_rv rfl ⟨rfl, _, rfl, ?_, hlast⟩
                          unfold pa_part
                          try dsimp only
                          rw [if_neg (by omega), if_neg (by omega), if_neg (by omega), if_neg (by omega), if_pos (by omega)]
                          refine rdO_b (hr7) ?_
                          try dsimp only
                          rw [if_pos hb]
                          rw [if_neg hz]
                          refine rdO_b (hr8) ?_
                          try dsimp only
                          refine rdO_b (hr9) ?_
                          try dsimp only
                          first | exact rdO_bl ((pa_ex_t c215).trans hr10) (rdO_F ((pa_ex_t c215).trans hr10) ⟨(rd_F (rd_F hk10)), by omega⟩ rfl) | exact rdO_F ((pa_ex_t c215).trans hr10) ⟨(rd_F (rd_F hk10)), by omega⟩ rfl
                        · have ht10 := pa_tk_lt (b := tx) (n := T) p10
                          have hg10 := pa_edo (tx := tx) (T := T) p10
                          obtain ⟨hl10, hv10⟩ := hlx _ _ hr10
                          have hj10 := pa_ed_le (b := tx) (n := T) (p := p10) hp10.1
                          obtain ⟨hq10, hz10⟩ := pa_nx_r hr10
                          have hy10 : cs10.length = 0 := by rw [hz10]; rfl
                          refine tv_b (pc' := 229) (ls' := [some (.ref 57), some (.int (nI o)), some (.int (nI (pa_tk tx T p))), none]) (st' := [.int 1, .int (nI o), .ref 57]) (h' := (n, sl, wKK kk, (rdI I (nI (pa_sk tx T p10)) (nI (pa_sk tx T p10)) (nI (pa_tk tx T p10)) m10 g10 0 (-1) (nI (ce + cs7.length + cs8.length + cs9.length + cs10.length)) (pa_wr (pa_wr (pa_wr (pa_wr cd ce cs7) (ce + cs7.length) cs8) (ce + cs7.length + cs8.length) cs9) (ce + cs7.length + cs8.length + cs9.length) cs10)), L, wQQ q)) 3 rfl ?_
                          refine tv_b (pc' := 230) (ls' := [some (.ref 57), some (.int (nI o)), some (.int (nI (pa_tk tx T p))), none]) (st' := [.int ((nI o) + 1), .ref 57]) (h' := (n, sl, wKK kk, (rdI I (nI (pa_sk tx T p10)) (nI (pa_sk tx T p10)) (nI (pa_tk tx T p10)) m10 g10 0 (-1) (nI (ce + cs7.length + cs8.length + cs9.length + cs10.length)) (pa_wr (pa_wr (pa_wr (pa_wr cd ce cs7) (ce + cs7.length) cs8) (ce + cs7.length + cs8.length) cs9) (ce + cs7.length + cs8.length + cs9.length) cs10)), L, wQQ q)) 1 rfl ?_
                          refine tv_top (show (nI o) + 1 = nI (o + 1) from nI_add o 1) ?_
                          refine tv_cv [.int (nI (o + 1))] [] rfl rfl (by omega) rfl (Nat.le_of_ble_eq_true rfl) (Nat.le_of_ble_eq_true rfl) (Or.inr (Or.inr rfl)) ((hI hz0) _ p10 _ _ _ _ (by omega) (by omega) (by omega) hn10 hl10) ?_
                          rintro rv9 h9 ⟨rfl, I9, rfl, ho, hlx⟩
                          rcases rdO_c ho with ⟨k11, l11, s11, w11, m11, g11, f11, y11, c11, d11, hr11, hk11, hc11, rfl⟩ | ⟨p11, cs11, m11, g11, hr11, hp11, hn11, rfl⟩
                          · refine tv_b (pc' := 248) (ls' := [some (.ref 57), some (.int (nI o)), some (.int (nI (pa_tk tx T p))), none]) (st' := [.int 0, .ref 57]) (h' := (n, sl, wKK kk, (rdI I s11 w11 39 m11 g11 f11 y11 (nI c11) d11), L, wQQ q)) 6 rfl ?_
                            refine tv_cvE [.int 0] [] rfl rfl (by omega) rfl (Nat.le_of_ble_eq_true rfl) (Nat.le_of_ble_eq_true rfl) (Or.inr (Or.inr rfl)) (ev_r_expectE hk11) ?_
                            refine tv_b (pc' := 253) (ls' := [some (.ref 57), some (.int (nI o)), some (.int (nI (pa_tk tx T p))), none]) (st' := [.int (nI (pa_tk tx T p)), .ref 57]) (h' := (n, sl, wKK kk, (rdI I s11 w11 39 m11 g11 (nI k11) (nI l11) (nI c11) d11), L, wQQ q)) 2 rfl ?_
                            refine tv_cvE [.int (nI (pa_tk tx T p))] [] rfl rfl (by omega) rfl (Nat.le_of_ble_eq_true rfl) (Nat.le_of_ble_eq_true rfl) (Or.inr (Or.inr rfl)) (ev_r_emitF (rd_k (rd_F hk11))) ?_
                            refine tv_b (pc' := 268) (ls' := [some (.ref 57), some (.int (nI o)), some (.int (nI (pa_tk tx T p))), none]) (st' := []) (h' := (n, sl, wKK kk, (rdI I s11 w11 39 m11 g11 (nI k11) (nI l11) (nI c11) d11), L, wQQ q)) 1 rfl ?_
                            refine tv_rv rfl ⟨rfl, _, rfl, ?_, hlast⟩
                            unfold pa_part
                            try dsimp only
                            rw [if_neg (by omega), if_neg (by omega), if_neg (by omega), if_neg (by omega), if_pos (by omega)]
                            refine rdO_b (hr7) ?_
                            try dsimp only
                            rw [if_pos hb]
                            rw [if_neg hz]
                            refine rdO_b (hr8) ?_
                            try dsimp only
                            refine rdO_b (hr9) ?_
                            try dsimp only
                            refine rdO_b ((pa_ex_t c215).trans hr10) ?_
                            try dsimp only
                            first | exact rdO_bl (hr11) (rdO_F (hr11) ⟨(rd_F hk11), by omega⟩ rfl) | exact rdO_F (hr11) ⟨(rd_F hk11), by omega⟩ rfl
                          · have ht11 := pa_tk_lt (b := tx) (n := T) p11
                            have hg11 := pa_edo (tx := tx) (T := T) p11
                            obtain ⟨hl11, hv11⟩ := hlx _ _ hr11
                            have hj11 := pa_ed_le (b := tx) (n := T) (p := p11) hp11.1
                            refine tv_b (pc' := (if (nI (pa_tk tx T p11)) = 33 then 243 else 247)) (ls' := [some (.ref 57), some (.int (nI o)), some (.int (nI (pa_tk tx T p))), none]) (st' := [.ref 57]) (h' := (n, sl, wKK kk, (rdI I (nI (pa_sk tx T p11)) (nI (pa_sk tx T p11)) (nI (pa_tk tx T p11)) m11 g11 0 (-1) (nI (ce + cs7.length + cs8.length + cs9.length + cs10.length + cs11.length)) (pa_wr (pa_wr (pa_wr (pa_wr (pa_wr cd ce cs7) (ce + cs7.length) cs8) (ce + cs7.length + cs8.length) cs9) (ce + cs7.length + cs8.length + cs9.length) cs10) (ce + cs7.length + cs8.length + cs9.length + cs10.length) cs11)), L, wQQ q)) 5 rfl ?_
                            refine tv_ifq (nI_eq (a := (pa_tk tx T p11)) (b := 33) (by omega) (by omega)) (fun c240 => ?_) (fun c240 => ?_)
                            · refine tv_b (pc' := 248) (ls' := [some (.ref 57), some (.int (nI o)), some (.int (nI (pa_tk tx T p))), none]) (st' := [.int 1, .ref 57]) (h' := (n, sl, wKK kk, (rdI I (nI (pa_sk tx T p11)) (nI (pa_sk tx T p11)) (nI (pa_tk tx T p11)) m11 g11 0 (-1) (nI (ce + cs7.length + cs8.length + cs9.length + cs10.length + cs11.length)) (pa_wr (pa_wr (pa_wr (pa_wr (pa_wr cd ce cs7) (ce + cs7.length) cs8) (ce + cs7.length + cs8.length) cs9) (ce + cs7.length + cs8.length + cs9.length) cs10) (ce + cs7.length + cs8.length + cs9.length + cs10.length) cs11)), L, wQQ q)) 2 rfl ?_
                              refine tv_cv [.int 1] [] rfl rfl (by omega) rfl (Nat.le_of_ble_eq_true rfl) (Nat.le_of_ble_eq_true rfl) (Or.inr (Or.inr rfl)) (tv_r_ex1 hH (by omega) (by omega) hn11) ?_
                              rintro rv9 h9 ⟨rfl, I9, rfl, ho, hlx⟩
                              rcases rdO_c ho with ⟨k12, l12, s12, w12, m12, g12, f12, y12, c12, d12, hr12, hk12, hc12, rfl⟩ | ⟨p12, cs12, m12, g12, hr12, hp12, hn12, rfl⟩
                              · refine tv_b (pc' := 253) (ls' := [some (.ref 57), some (.int (nI o)), some (.int (nI (pa_tk tx T p))), none]) (st' := [.int (nI (pa_tk tx T p)), .ref 57]) (h' := (n, sl, wKK kk, (rdI I s12 w12 39 m12 g12 f12 y12 (nI c12) d12), L, wQQ q)) 2 rfl ?_
                                refine tv_cv [.int (nI (pa_tk tx T p))] [] rfl rfl (by omega) rfl (Nat.le_of_ble_eq_true rfl) (Nat.le_of_ble_eq_true rfl) (Or.inr (Or.inr rfl)) (tv_r_emitE hk12 (by omega)) ?_
                                rintro rv9 h9 ⟨rfl, e4, b4, hb4, rfl⟩
                                refine tv_b (pc' := 268) (ls' := [some (.ref 57), some (.int (nI o)), some (.int (nI (pa_tk tx T p))), none]) (st' := []) (h' := (n, sl, wKK kk, (rdI I s12 w12 39 m12 g12 f12 y12 (nI e4) b4), L, wQQ q)) 1 rfl ?_
                                refine tv_rv rfl ⟨rfl, _, rfl, ?_, hlast⟩
                                unfold pa_part
                                try dsimp only
                                rw [if_neg (by omega), if_neg (by omega), if_neg (by omega), if_neg (by omega), if_pos (by omega)]
                                refine rdO_b (hr7) ?_
                                try dsimp only
                                rw [if_pos hb]
                                rw [if_neg hz]
                                refine rdO_b (hr8) ?_
                                try dsimp only
                                refine rdO_b (hr9) ?_
                                try dsimp only
                                refine rdO_b ((pa_ex_t c215).trans hr10) ?_
                                try dsimp only
                                refine rdO_b (hr11) ?_
                                try dsimp only
                                first | exact rdO_bl ((pa_ex_t c240).trans hr12) (rdO_F ((pa_ex_t c240).trans hr12) ⟨hk12, by omega⟩ rfl) | exact rdO_F ((pa_ex_t c240).trans hr12) ⟨hk12, by omega⟩ rfl
                              · have ht12 := pa_tk_lt (b := tx) (n := T) p12
                                have hg12 := pa_edo (tx := tx) (T := T) p12
                                obtain ⟨hl12, hv12⟩ := hlx _ _ hr12
                                have hj12 := pa_ed_le (b := tx) (n := T) (p := p12) hp12.1
                                obtain ⟨hq12, hz12⟩ := pa_nx_r hr12
                                have hy12 : cs12.length = 0 := by rw [hz12]; rfl
                                refine tv_b (pc' := 253) (ls' := [some (.ref 57), some (.int (nI o)), some (.int (nI (pa_tk tx T p))), none]) (st' := [.int (nI (pa_tk tx T p)), .ref 57]) (h' := (n, sl, wKK kk, (rdI I (nI (pa_sk tx T p12)) (nI (pa_sk tx T p12)) (nI (pa_tk tx T p12)) m12 g12 0 (-1) (nI (ce + cs7.length + cs8.length + cs9.length + cs10.length + cs11.length + cs12.length)) (pa_wr (pa_wr (pa_wr (pa_wr (pa_wr (pa_wr cd ce cs7) (ce + cs7.length) cs8) (ce + cs7.length + cs8.length) cs9) (ce + cs7.length + cs8.length + cs9.length) cs10) (ce + cs7.length + cs8.length + cs9.length + cs10.length) cs11) (ce + cs7.length + cs8.length + cs9.length + cs10.length + cs11.length) cs12)), L, wQQ q)) 2 rfl ?_
                                refine tv_cvE [.int (nI (pa_tk tx T p))] [] rfl rfl (by omega) rfl (Nat.le_of_ble_eq_true rfl) (Nat.le_of_ble_eq_true rfl) (Or.inr (Or.inr rfl)) (ev_r_emit (by omega)) ?_
                                refine tv_b (pc' := 268) (ls' := [some (.ref 57), some (.int (nI o)), some (.int (nI (pa_tk tx T p))), none]) (st' := []) (h' := (n, sl, wKK kk, (rdI I (nI (pa_sk tx T p12)) (nI (pa_sk tx T p12)) (nI (pa_tk tx T p12)) m12 g12 0 (-1) (nI (ce + cs7.length + cs8.length + cs9.length + cs10.length + cs11.length + cs12.length + 1)) (upd (pa_wr (pa_wr (pa_wr (pa_wr (pa_wr (pa_wr cd ce cs7) (ce + cs7.length) cs8) (ce + cs7.length + cs8.length) cs9) (ce + cs7.length + cs8.length + cs9.length) cs10) (ce + cs7.length + cs8.length + cs9.length + cs10.length) cs11) (ce + cs7.length + cs8.length + cs9.length + cs10.length + cs11.length) cs12) (ce + cs7.length + cs8.length + cs9.length + cs10.length + cs11.length + cs12.length) (nI (pa_tk tx T p)))), L, wQQ q)) 1 rfl ?_
                                refine tv_rv rfl ⟨rfl, _, rfl, ?_, hlast⟩
                                unfold pa_part
                                try dsimp only
                                rw [if_neg (by omega), if_neg (by omega), if_neg (by omega), if_neg (by omega), if_pos (by omega)]
                                refine rdO_b (hr7) ?_
                                try dsimp only
                                rw [if_pos hb]
                                rw [if_neg hz]
                                refine rdO_b (hr8) ?_
                                try dsimp only
                                refine rdO_b (hr9) ?_
                                try dsimp only
                                refine rdO_b ((pa_ex_t c215).trans hr10) ?_
                                try dsimp only
                                refine rdO_b (hr11) ?_
                                try dsimp only
                                refine rdO_b ((pa_ex_t c240).trans hr12) ?_
                                try dsimp only
                                exact rdO_em ⟨by omega, by omega⟩ hn12 rfl
                            · refine tv_b (pc' := 248) (ls' := [some (.ref 57), some (.int (nI o)), some (.int (nI (pa_tk tx T p))), none]) (st' := [.int 0, .ref 57]) (h' := (n, sl, wKK kk, (rdI I (nI (pa_sk tx T p11)) (nI (pa_sk tx T p11)) (nI (pa_tk tx T p11)) m11 g11 0 (-1) (nI (ce + cs7.length + cs8.length + cs9.length + cs10.length + cs11.length)) (pa_wr (pa_wr (pa_wr (pa_wr (pa_wr cd ce cs7) (ce + cs7.length) cs8) (ce + cs7.length + cs8.length) cs9) (ce + cs7.length + cs8.length + cs9.length) cs10) (ce + cs7.length + cs8.length + cs9.length + cs10.length) cs11)), L, wQQ q)) 1 rfl ?_
                              refine tv_cvE [.int 0] [] rfl rfl (by omega) rfl (Nat.le_of_ble_eq_true rfl) (Nat.le_of_ble_eq_true rfl) (Or.inr (Or.inr rfl)) (ev_r_ex0) ?_
                              refine tv_b (pc' := 253) (ls' := [some (.ref 57), some (.int (nI o)), some (.int (nI (pa_tk tx T p))), none]) (st' := [.int (nI (pa_tk tx T p)), .ref 57]) (h' := (n, sl, wKK kk, (rdI I (nI (pa_sk tx T p11)) (nI (pa_sk tx T p11)) 39 m11 g11 1 (nI (pa_sk tx T p11)) (nI (ce + cs7.length + cs8.length + cs9.length + cs10.length + cs11.length)) (pa_wr (pa_wr (pa_wr (pa_wr (pa_wr cd ce cs7) (ce + cs7.length) cs8) (ce + cs7.length + cs8.length) cs9) (ce + cs7.length + cs8.length + cs9.length) cs10) (ce + cs7.length + cs8.length + cs9.length + cs10.length) cs11)), L, wQQ q)) 2 rfl ?_
                              refine tv_cvE [.int (nI (pa_tk tx T p))] [] rfl rfl (by omega) rfl (Nat.le_of_ble_eq_true rfl) (Nat.le_of_ble_eq_true rfl) (Or.inr (Or.inr rfl)) (ev_r_emitF (rd_k (rd_L (k := 1) (l := pa_sk tx T p11) (w := nI (pa_sk tx T p11)) (xf := 1) (by decide) rfl))) ?_
                              refine tv_b (pc' := 268) (ls' := [some (.ref 57), some (.int (nI o)), some (.int (nI (pa_tk tx T p))), none]) (st' := []) (h' := (n, sl, wKK kk, (rdI I (nI (pa_sk tx T p11)) (nI (pa_sk tx T p11)) 39 m11 g11 1 (nI (pa_sk tx T p11)) (nI (ce + cs7.length + cs8.length + cs9.length + cs10.length + cs11.length)) (pa_wr (pa_wr (pa_wr (pa_wr (pa_wr cd ce cs7) (ce + cs7.length) cs8) (ce + cs7.length + cs8.length) cs9) (ce + cs7.length + cs8.length + cs9.length) cs10) (ce + cs7.length + cs8.length + cs9.length + cs10.length) cs11)), L, wQQ q)) 1 rfl ?_
                              refine tv_rv rfl ⟨rfl, _, rfl, ?_, hlast⟩
                              unfold pa_part
                              try dsimp only
                              rw [if_neg (by omega), if_neg (by omega), if_neg (by omega), if_neg (by omega), if_pos (by omega)]
                              refine rdO_b (hr7) ?_
                              try dsimp only
                              rw [if_pos hb]
                              rw [if_neg hz]
                              refine rdO_b (hr8) ?_
                              try dsimp only
                              refine rdO_b (hr9) ?_
                              try dsimp only
                              refine rdO_b ((pa_ex_t c215).trans hr10) ?_
                              try dsimp only
                              refine rdO_b (hr11) ?_
                              try dsimp only
                              first | exact rdO_F ((pa_ex_f c240)) ⟨(rd_L (k := 1) (l := pa_sk tx T p11) (w := nI (pa_sk tx T p11)) (xf := 1) (by decide) rfl), by omega⟩ rfl | exact rdO_bl ((pa_ex_f c240)) (rdO_F ((pa_ex_f c240)) ⟨(rd_L (k := 1) (l := pa_sk tx T p11) (w := nI (pa_sk tx T p11)) (xf := 1) (by decide) rfl), by omega⟩ rfl)
                      · refine tv_b (pc' := 223) (ls' := [some (.ref 57), some (.int (nI o)), some (.int (nI (pa_tk tx T p))), none]) (st' := [.int 0, .ref 57]) (h' := (n, sl, wKK kk, (rdI I (nI (pa_sk tx T p9)) (nI (pa_sk tx T p9)) (nI (pa_tk tx T p9)) m9 g9 0 (-1) (nI (ce + cs7.length + cs8.length + cs9.length)) (pa_wr (pa_wr (pa_wr cd ce cs7) (ce + cs7.length) cs8) (ce + cs7.length + cs8.length) cs9)), L, wQQ q)) 1 rfl ?_
                        refine tv_cvE [.int 0] [] rfl rfl (by omega) rfl (Nat.le_of_ble_eq_true rfl) (Nat.le_of_ble_eq_true rfl) (Or.inr (Or.inr rfl)) (ev_r_ex0) ?_
                        refine tv_b (pc' := 229) (ls' := [some (.ref 57), some (.int (nI o)), some (.int (nI (pa_tk tx T p))), none]) (st' := [.int 1, .int (nI o), .ref 57]) (h' := (n, sl, wKK kk, (rdI I (nI (pa_sk tx T p9)) (nI (pa_sk tx T p9)) 39 m9 g9 1 (nI (pa_sk tx T p9)) (nI (ce + cs7.length + cs8.length + cs9.length)) (pa_wr (pa_wr (pa_wr cd ce cs7) (ce + cs7.length) cs8) (ce + cs7.length + cs8.length) cs9)), L, wQQ q)) 3 rfl ?_
                        refine tv_b (pc' := 230) (ls' := [some (.ref 57), some (.int (nI o)), some (.int (nI (pa_tk tx T p))), none]) (st' := [.int ((nI o) + 1), .ref 57]) (h' := (n, sl, wKK kk, (rdI I (nI (pa_sk tx T p9)) (nI (pa_sk tx T p9)) 39 m9 g9 1 (nI (pa_sk tx T p9)) (nI (ce + cs7.length + cs8.length + cs9.length)) (pa_wr (pa_wr (pa_wr cd ce cs7) (ce + cs7.length) cs8) (ce + cs7.length + cs8.length) cs9)), L, wQQ q)) 1 rfl ?_
                        refine tv_top (show (nI o) + 1 = nI (o + 1) from nI_add o 1) ?_
                        refine tv_cvE [.int (nI (o + 1))] [] rfl rfl (by omega) rfl (Nat.le_of_ble_eq_true rfl) (Nat.le_of_ble_eq_true rfl) (Or.inr (Or.inr rfl)) (ev_r_sumE (rd_L (k := 1) (l := pa_sk tx T p9) (w := nI (pa_sk tx T p9)) (xf := 1) (by decide) rfl)) ?_
                        refine tv_b (pc' := 248) (ls' := [some (.ref 57), some (.int (nI o)), some (.int (nI (pa_tk tx T p))), none]) (st' := [.int 0, .ref 57]) (h' := (n, sl, wKK kk, (rdI I (nI (pa_sk tx T p9)) (nI (pa_sk tx T p9)) 39 m9 g9 (nI 1) (nI (pa_sk tx T p9)) (nI (ce + cs7.length + cs8.length + cs9.length)) (pa_wr (pa_wr (pa_wr cd ce cs7) (ce + cs7.length) cs8) (ce + cs7.length + cs8.length) cs9)), L, wQQ q)) 6 rfl ?_
                        refine tv_cvE [.int 0] [] rfl rfl (by omega) rfl (Nat.le_of_ble_eq_true rfl) (Nat.le_of_ble_eq_true rfl) (Or.inr (Or.inr rfl)) (ev_r_expectE (rd_F (rd_L (k := 1) (l := pa_sk tx T p9) (w := nI (pa_sk tx T p9)) (xf := 1) (by decide) rfl))) ?_
                        refine tv_b (pc' := 253) (ls' := [some (.ref 57), some (.int (nI o)), some (.int (nI (pa_tk tx T p))), none]) (st' := [.int (nI (pa_tk tx T p)), .ref 57]) (h' := (n, sl, wKK kk, (rdI I (nI (pa_sk tx T p9)) (nI (pa_sk tx T p9)) 39 m9 g9 (nI 1) (nI (pa_sk tx T p9)) (nI (ce + cs7.length + cs8.length + cs9.length)) (pa_wr (pa_wr (pa_wr cd ce cs7) (ce + cs7.length) cs8) (ce + cs7.length + cs8.length) cs9)), L, wQQ q)) 2 rfl ?_
                        refine tv_cvE [.int (nI (pa_tk tx T p))] [] rfl rfl (by omega) rfl (Nat.le_of_ble_eq_true rfl) (Nat.le_of_ble_eq_true rfl) (Or.inr (Or.inr rfl)) (ev_r_emitF (rd_k (rd_F (rd_F (rd_L (k := 1) (l := pa_sk tx T p9) (w := nI (pa_sk tx T p9)) (xf := 1) (by decide) rfl))))) ?_
                        refine tv_b (pc' := 268) (ls' := [some (.ref 57), some (.int (nI o)), some (.int (nI (pa_tk tx T p))), none]) (st' := []) (h' := (n, sl, wKK kk, (rdI I (nI (pa_sk tx T p9)) (nI (pa_sk tx T p9)) 39 m9 g9 (nI 1) (nI (pa_sk tx T p9)) (nI (ce + cs7.length + cs8.length + cs9.length)) (pa_wr (pa_wr (pa_wr cd ce cs7) (ce + cs7.length) cs8) (ce + cs7.length + cs8.length) cs9)), L, wQQ q)) 1 rfl ?_
                        refine tv_rv rfl ⟨rfl, _, rfl, ?_, hlast⟩
                        unfold pa_part
                        try dsimp only
                        rw [if_neg (by omega), if_neg (by omega), if_neg (by omega), if_neg (by omega), if_pos (by omega)]
                        refine rdO_b (hr7) ?_
                        try dsimp only
                        rw [if_pos hb]
                        rw [if_neg hz]
                        refine rdO_b (hr8) ?_
                        try dsimp only
                        refine rdO_b (hr9) ?_
                        try dsimp only
                        first | exact rdO_F ((pa_ex_f c215)) ⟨(rd_F (rd_F (rd_L (k := 1) (l := pa_sk tx T p9) (w := nI (pa_sk tx T p9)) (xf := 1) (by decide) rfl))), by omega⟩ rfl | exact rdO_bl ((pa_ex_f c215)) (rdO_F ((pa_ex_f c215)) ⟨(rd_F (rd_F (rd_L (k := 1) (l := pa_sk tx T p9) (w := nI (pa_sk tx T p9)) (xf := 1) (by decide) rfl))), by omega⟩ rfl)
                · refine tv_b (pc' := 195) (ls' := [some (.ref 57), some (.int (nI o)), some (.int (nI (pa_tk tx T p))), none]) (st' := [.int (nI o), .int 32, .ref 57]) (h' := (n, sl, wKK kk, (rdI I (nI (pa_sk tx T p7)) (nI (pa_sk tx T p7)) (nI (pa_tk tx T p7)) m7 g7 0 (-1) (nI (ce + cs7.length)) (pa_wr cd ce cs7)), L, wQQ q)) 3 rfl ?_
                  refine tv_cvE [.int 32, .int (nI o)] [] rfl rfl (by omega) rfl (Nat.le_of_ble_eq_true rfl) (Nat.le_of_ble_eq_true rfl) (Or.inr (Or.inr rfl)) (ev_r_op1_32 hb (by omega)) ?_
                  refine tv_b (pc' := 268) (ls' := [some (.ref 57), some (.int (nI o)), some (.int (nI (pa_tk tx T p))), none]) (st' := []) (h' := (n, sl, wKK kk, (rdI I (nI (pa_sk tx T p7)) (nI (pa_sk tx T p7)) 39 m7 g7 1 (nI (pa_sk tx T p7)) (nI (ce + cs7.length)) (pa_wr cd ce cs7)), L, wQQ q)) 1 rfl ?_
                  refine tv_rv rfl ⟨rfl, _, rfl, ?_, hlast⟩
                  unfold pa_part
                  try dsimp only
                  rw [if_neg (by omega), if_neg (by omega), if_neg (by omega), if_neg (by omega), if_pos (by omega)]
                  refine rdO_b (hr7) ?_
                  try dsimp only
                  rw [if_neg hb]
                  first | exact rdO_F (rfl) ⟨(rd_L (k := 1) (l := pa_sk tx T p7) (w := nI (pa_sk tx T p7)) (xf := 1) (by decide) rfl), by omega⟩ rfl | exact rdO_bl (rfl) (rdO_F (rfl) ⟨(rd_L (k := 1) (l := pa_sk tx T p7) (w := nI (pa_sk tx T p7)) (xf := 1) (by decide) rfl), by omega⟩ rfl)
            · refine tv_b (pc' := (if (nI (pa_tk tx T p)) = 20 then 187 else 259)) (ls' := [some (.ref 57), some (.int (nI o)), some (.int (nI (pa_tk tx T p))), none]) (st' := []) (h' := (n, sl, wKK kk, (rdI I (nI (pa_sk tx T p)) (nI (pa_sk tx T p)) (nI (pa_tk tx T p)) nm gn 0 (-1) (nI ce) cd), L, wQQ q)) 3 rfl ?_
              refine tv_ifq (nI_eq (a := (pa_tk tx T p)) (b := 20) (by omega) (by omega)) (fun c184 => ?_) (fun c184 => ?_)
              · refine tv_b (pc' := 188) (ls' := [some (.ref 57), some (.int (nI o)), some (.int (nI (pa_tk tx T p))), none]) (st' := [.ref 57]) (h' := (n, sl, wKK kk, (rdI I (nI (pa_sk tx T p)) (nI (pa_sk tx T p)) (nI (pa_tk tx T p)) nm gn 0 (-1) (nI ce) cd), L, wQQ q)) 1 rfl ?_
                refine tv_cv [] [] rfl rfl (by omega) rfl (Nat.le_of_ble_eq_true rfl) (Nat.le_of_ble_eq_true rfl) (Or.inr (Or.inr rfl)) (tv_r_nx hH (by omega) (by omega) hnm) ?_
                rintro rv9 h9 ⟨rfl, I9, rfl, ho, hlx⟩
                rcases rdO_c ho with ⟨k13, l13, s13, w13, m13, g13, f13, y13, c13, d13, hr13, hk13, hc13, rfl⟩ | ⟨p13, cs13, m13, g13, hr13, hp13, hn13, rfl⟩
                · refine tv_b (pc' := 195) (ls' := [some (.ref 57), some (.int (nI o)), some (.int (nI (pa_tk tx T p))), none]) (st' := [.int (nI o), .int 32, .ref 57]) (h' := (n, sl, wKK kk, (rdI I s13 w13 39 m13 g13 f13 y13 (nI c13) d13), L, wQQ q)) 3 rfl ?_
                  refine tv_cvE [.int 32, .int (nI o)] [] rfl rfl (by omega) rfl (Nat.le_of_ble_eq_true rfl) (Nat.le_of_ble_eq_true rfl) (Or.inr (Or.inr rfl)) (ev_r_opensE32 hk13) ?_
                  refine tv_b (pc' := 268) (ls' := [some (.ref 57), some (.int (nI o)), some (.int (nI (pa_tk tx T p))), none]) (st' := []) (h' := (n, sl, wKK kk, (rdI I s13 w13 39 m13 g13 (nI k13) (nI l13) (nI c13) d13), L, wQQ q)) 1 rfl ?_
                  refine tv_rv rfl ⟨rfl, _, rfl, ?_, hlast⟩
                  unfold pa_part
                  try dsimp only
                  rw [if_neg (by omega), if_neg (by omega), if_neg (by omega), if_neg (by omega), if_pos (by omega)]
                  first | exact rdO_bl (hr13) (rdO_F (hr13) ⟨(rd_F hk13), by omega⟩ rfl) | exact rdO_F (hr13) ⟨(rd_F hk13), by omega⟩ rfl
                · have ht13 := pa_tk_lt (b := tx) (n := T) p13
                  have hg13 := pa_edo (tx := tx) (T := T) p13
                  obtain ⟨hl13, hv13⟩ := hlx _ _ hr13
                  have hj13 := pa_ed_le (b := tx) (n := T) (p := p13) hp13.1
                  obtain ⟨hq13, hz13⟩ := pa_nx_r hr13
                  have hy13 : cs13.length = 0 := by rw [hz13]; rfl
                  by_cases hb : pa_tk tx T p13 = 32
                  · refine tv_b (pc' := 195) (ls' := [some (.ref 57), some (.int (nI o)), some (.int (nI (pa_tk tx T p))), none]) (st' := [.int (nI o), .int 32, .ref 57]) (h' := (n, sl, wKK kk, (rdI I (nI (pa_sk tx T p13)) (nI (pa_sk tx T p13)) (nI (pa_tk tx T p13)) m13 g13 0 (-1) (nI (ce + cs13.length)) (pa_wr cd ce cs13)), L, wQQ q)) 3 rfl ?_
                    refine tv_cv [.int 32, .int (nI o)] [] rfl rfl (by omega) rfl (Nat.le_of_ble_eq_true rfl) (Nat.le_of_ble_eq_true rfl) (Or.inr (Or.inr rfl)) (tv_r_op_32 hH (by omega) (by omega) hb (by omega) hn13) ?_
                    rintro rv9 h9 ⟨hv1, hv2, I9, rfl, ho, hlx⟩
                    rcases rdO_d hv1 hv2 ho with ⟨k14, l14, s14, w14, m14, g14, f14, y14, c14, d14, hr14, hk14, hc14, rfl, rfl⟩ | ⟨k14, l14, s14, w14, m14, g14, f14, y14, c14, d14, hr14, hk14, hc14, rfl, rfl⟩ | ⟨p14, cs14, m14, g14, hr14, hp14, hn14, rfl, rfl⟩
                    · refine tv_b (pc' := 204) (ls' := [some (.ref 57), some (.int (nI o)), some (.int (nI (pa_tk tx T p))), none]) (st' := [.int 1, .int (nI o), .ref 57]) (h' := (n, sl, wKK kk, (rdI I s14 w14 39 m14 g14 f14 y14 (nI c14) d14), L, wQQ q)) 4 rfl ?_
                      refine tv_b (pc' := 205) (ls' := [some (.ref 57), some (.int (nI o)), some (.int (nI (pa_tk tx T p))), none]) (st' := [.int ((nI o) + 1), .ref 57]) (h' := (n, sl, wKK kk, (rdI I s14 w14 39 m14 g14 f14 y14 (nI c14) d14), L, wQQ q)) 1 rfl ?_
                      refine tv_top (show (nI o) + 1 = nI (o + 1) from nI_add o 1) ?_
                      refine tv_cvE [.int (nI (o + 1))] [] rfl rfl (by omega) rfl (Nat.le_of_ble_eq_true rfl) (Nat.le_of_ble_eq_true rfl) (Or.inr (Or.inr rfl)) (ev_r_sumE hk14) ?_
                      refine tv_b (pc' := 223) (ls' := [some (.ref 57), some (.int (nI o)), some (.int (nI (pa_tk tx T p))), none]) (st' := [.int 0, .ref 57]) (h' := (n, sl, wKK kk, (rdI I s14 w14 39 m14 g14 (nI k14) (nI l14) (nI c14) d14), L, wQQ q)) 6 rfl ?_
                      refine tv_cvE [.int 0] [] rfl rfl (by omega) rfl (Nat.le_of_ble_eq_true rfl) (Nat.le_of_ble_eq_true rfl) (Or.inr (Or.inr rfl)) (ev_r_expectE (rd_F hk14)) ?_
                      refine tv_b (pc' := 229) (ls' := [some (.ref 57), some (.int (nI o)), some (.int (nI (pa_tk tx T p))), none]) (st' := [.int 1, .int (nI o), .ref 57]) (h' := (n, sl, wKK kk, (rdI I s14 w14 39 m14 g14 (nI k14) (nI l14) (nI c14) d14), L, wQQ q)) 3 rfl ?_
                      refine tv_b (pc' := 230) (ls' := [some (.ref 57), some (.int (nI o)), some (.int (nI (pa_tk tx T p))), none]) (st' := [.int ((nI o) + 1), .ref 57]) (h' := (n, sl, wKK kk, (rdI I s14 w14 39 m14 g14 (nI k14) (nI l14) (nI c14) d14), L, wQQ q)) 1 rfl ?_
                      refine tv_top (show (nI o) + 1 = nI (o + 1) from nI_add o 1) ?_
                      refine tv_cvE [.int (nI (o + 1))] [] rfl rfl (by omega) rfl (Nat.le_of_ble_eq_true rfl) (Nat.le_of_ble_eq_true rfl) (Or.inr (Or.inr rfl)) (ev_r_sumE (rd_F (rd_F hk14))) ?_
                      refine tv_b (pc' := 248) (ls' := [some (.ref 57), some (.int (nI o)), some (.int (nI (pa_tk tx T p))), none]) (st' := [.int 0, .ref 57]) (h' := (n, sl, wKK kk, (rdI I s14 w14 39 m14 g14 (nI k14) (nI l14) (nI c14) d14), L, wQQ q)) 6 rfl ?_
                      refine tv_cvE [.int 0] [] rfl rfl (by omega) rfl (Nat.le_of_ble_eq_true rfl) (Nat.le_of_ble_eq_true rfl) (Or.inr (Or.inr rfl)) (ev_r_expectE (rd_F (rd_F (rd_F hk14)))) ?_
                      refine tv_b (pc' := 253) (ls' := [some (.ref 57), some (.int (nI o)), some (.int (nI (pa_tk tx T p))), none]) (st' := [.int (nI (pa_tk tx T p)), .ref 57]) (h' := (n, sl, wKK kk, (rdI I s14 w14 39 m14 g14 (nI k14) (nI l14) (nI c14) d14), L, wQQ q)) 2 rfl ?_
                      refine tv_cvE [.int (nI (pa_tk tx T p))] [] rfl rfl (by omega) rfl (Nat.le_of_ble_eq_true rfl) (Nat.le_of_ble_eq_true rfl) (Or.inr (Or.inr rfl)) (ev_r_emitF (rd_k (rd_F (rd_F (rd_F (rd_F hk14)))))) ?_
                      refine tv_b (pc' := 268) (ls' := [some (.ref 57), some (.int (nI o)), some (.int (nI (pa_tk tx T p))), none]) (st' := []) (h' := (n, sl, wKK kk, (rdI I s14 w14 39 m14 g14 (nI k14) (nI l14) (nI c14) d14), L, wQQ q)) 1 rfl ?_
                      refine tv_rv rfl ⟨rfl, _, rfl, ?_, hlast⟩
                      unfold pa_part
                      try dsimp only
                      rw [if_neg (by omega), if_neg (by omega), if_neg (by omega), if_neg (by omega), if_pos (by omega)]
                      refine rdO_b (hr13) ?_
                      try dsimp only
                      rw [if_pos hb]
                      rw [if_neg hz]
                      first | exact rdO_bl (hr14) (rdO_F (hr14) ⟨(rd_F (rd_F (rd_F (rd_F hk14)))), by omega⟩ rfl) | exact rdO_F (hr14) ⟨(rd_F (rd_F (rd_F (rd_F hk14)))), by omega⟩ rfl
                    · refine tv_b (pc' := 268) (ls' := [some (.ref 57), some (.int (nI o)), some (.int (nI (pa_tk tx T p))), none]) (st' := []) (h' := (n, sl, wKK kk, (rdI I s14 w14 39 m14 g14 f14 y14 (nI c14) d14), L, wQQ q)) 1 rfl ?_
                      refine tv_rv rfl ⟨rfl, _, rfl, ?_, hlast⟩
                      unfold pa_part
                      try dsimp only
                      rw [if_neg (by omega), if_neg (by omega), if_neg (by omega), if_neg (by omega), if_pos (by omega)]
                      refine rdO_b (hr13) ?_
                      try dsimp only
                      rw [if_pos hb]
                      rw [if_neg hz]
                      first | exact rdO_bl (hr14) (rdO_F (hr14) ⟨hk14, by omega⟩ rfl) | exact rdO_F (hr14) ⟨hk14, by omega⟩ rfl
                    · have ht14 := pa_tk_lt (b := tx) (n := T) p14
                      have hg14 := pa_edo (tx := tx) (T := T) p14
                      obtain ⟨hl14, hv14⟩ := hlx _ _ hr14
                      have hj14 := pa_ed_le (b := tx) (n := T) (p := p14) hp14.1
                      obtain ⟨hq14, hz14⟩ := pa_nx_r hr14
                      have hy14 : cs14.length = 0 := by rw [hz14]; rfl
                      refine tv_b (pc' := 204) (ls' := [some (.ref 57), some (.int (nI o)), some (.int (nI (pa_tk tx T p))), none]) (st' := [.int 1, .int (nI o), .ref 57]) (h' := (n, sl, wKK kk, (rdI I (nI (pa_sk tx T p14)) (nI (pa_sk tx T p14)) (nI (pa_tk tx T p14)) m14 g14 0 (-1) (nI (ce + cs13.length + cs14.length)) (pa_wr (pa_wr cd ce cs13) (ce + cs13.length) cs14)), L, wQQ q)) 4 rfl ?_
                      refine tv_b (pc' := 205) (ls' := [some (.ref 57), some (.int (nI o)), some (.int (nI (pa_tk tx T p))), none]) (st' := [.int ((nI o) + 1), .ref 57]) (h' := (n, sl, wKK kk, (rdI I (nI (pa_sk tx T p14)) (nI (pa_sk tx T p14)) (nI (pa_tk tx T p14)) m14 g14 0 (-1) (nI (ce + cs13.length + cs14.length)) (pa_wr (pa_wr cd ce cs13) (ce + cs13.length) cs14)), L, wQQ q)) 1 rfl ?_
                      refine tv_top (show (nI o) + 1 = nI (o + 1) from nI_add o 1) ?_
                      refine tv_cv [.int (nI (o + 1))] [] rfl rfl (by omega) rfl (Nat.le_of_ble_eq_true rfl) (Nat.le_of_ble_eq_true rfl) (Or.inr (Or.inr rfl)) ((hI hz0) _ p14 _ _ _ _ (by omega) (by omega) (by omega) hn14 hl14) ?_
                      rintro rv9 h9 ⟨rfl, I9, rfl, ho, hlx⟩
                      rcases rdO_c ho with ⟨k15, l15, s15, w15, m15, g15, f15, y15, c15, d15, hr15, hk15, hc15, rfl⟩ | ⟨p15, cs15, m15, g15, hr15, hp15, hn15, rfl⟩
                      · refine tv_b (pc' := 223) (ls' := [some (.ref 57), some (.int (nI o)), some (.int (nI (pa_tk tx T p))), none]) (st' := [.int 0, .ref 57]) (h' := (n, sl, wKK kk, (rdI I s15 w15 39 m15 g15 f15 y15 (nI c15) d15), L, wQQ q)) 6 rfl ?_
                        refine tv_cvE [.int 0] [] rfl rfl (by omega) rfl (Nat.le_of_ble_eq_true rfl) (Nat.le_of_ble_eq_true rfl) (Or.inr (Or.inr rfl)) (ev_r_expectE hk15) ?_
                        refine tv_b (pc' := 229) (ls' := [some (.ref 57), some (.int (nI o)), some (.int (nI (pa_tk tx T p))), none]) (st' := [.int 1, .int (nI o), .ref 57]) (h' := (n, sl, wKK kk, (rdI I s15 w15 39 m15 g15 (nI k15) (nI l15) (nI c15) d15), L, wQQ q)) 3 rfl ?_
                        refine tv_b (pc' := 230) (ls' := [some (.ref 57), some (.int (nI o)), some (.int (nI (pa_tk tx T p))), none]) (st' := [.int ((nI o) + 1), .ref 57]) (h' := (n, sl, wKK kk, (rdI I s15 w15 39 m15 g15 (nI k15) (nI l15) (nI c15) d15), L, wQQ q)) 1 rfl ?_
                        refine tv_top (show (nI o) + 1 = nI (o + 1) from nI_add o 1) ?_
                        refine tv_cvE [.int (nI (o + 1))] [] rfl rfl (by omega) rfl (Nat.le_of_ble_eq_true rfl) (Nat.le_of_ble_eq_true rfl) (Or.inr (Or.inr rfl)) (ev_r_sumE (rd_F hk15)) ?_
                        refine tv_b (pc' := 248) (ls' := [some (.ref 57), some (.int (nI o)), some (.int (nI (pa_tk tx T p))), none]) (st' := [.int 0, .ref 57]) (h' := (n, sl, wKK kk, (rdI I s15 w15 39 m15 g15 (nI k15) (nI l15) (nI c15) d15), L, wQQ q)) 6 rfl ?_
                        refine tv_cvE [.int 0] [] rfl rfl (by omega) rfl (Nat.le_of_ble_eq_true rfl) (Nat.le_of_ble_eq_true rfl) (Or.inr (Or.inr rfl)) (ev_r_expectE (rd_F (rd_F hk15))) ?_
                        refine tv_b (pc' := 253) (ls' := [some (.ref 57), some (.int (nI o)), some (.int (nI (pa_tk tx T p))), none]) (st' := [.int (nI (pa_tk tx T p)), .ref 57]) (h' := (n, sl, wKK kk, (rdI I s15 w15 39 m15 g15 (nI k15) (nI l15) (nI c15) d15), L, wQQ q)) 2 rfl ?_
                        refine tv_cvE [.int (nI (pa_tk tx T p))] [] rfl rfl (by omega) rfl (Nat.le_of_ble_eq_true rfl) (Nat.le_of_ble_eq_true rfl) (Or.inr (Or.inr rfl)) (ev_r_emitF (rd_k (rd_F (rd_F (rd_F hk15))))) ?_
                        refine tv_b (pc' := 268) (ls' := [some (.ref 57), some (.int (nI o)), some (.int (nI (pa_tk tx T p))), none]) (st' := []) (h' := (n, sl, wKK kk, (rdI I s15 w15 39 m15 g15 (nI k15) (nI l15) (nI c15) d15), L, wQQ q)) 1 rfl ?_
                        refine tv_rv rfl ⟨rfl, _, rfl, ?_, hlast⟩
                        unfold pa_part
                        try dsimp only
                        rw [if_neg (by omega), if_neg (by omega), if_neg (by omega), if_neg (by omega), if_pos (by omega)]
                        refine rdO_b (hr13) ?_
                        try dsimp only
                        rw [if_pos hb]
                        rw [if_neg hz]
                        refine rdO_b (hr14) ?_
                        try dsimp only
                        first | exact rdO_bl (hr15) (rdO_F (hr15) ⟨(rd_F (rd_F (rd_F hk15))), by omega⟩ rfl) | exact rdO_F (hr15) ⟨(rd_F (rd_F (rd_F hk15))), by omega⟩ rfl
                      · have ht15 := pa_tk_lt (b := tx) (n := T) p15
                        have hg15 := pa_edo (tx := tx) (T := T) p15
                        obtain ⟨hl15, hv15⟩ := hlx _ _ hr15
                        have hj15 := pa_ed_le (b := tx) (n := T) (p := p15) hp15.1
                        refine tv_b (pc' := (if (nI (pa_tk tx T p15)) = 36 then 218 else 222)) (ls' := [some (.ref 57), some (.int (nI o)), some (.int (nI (pa_tk tx T p))), none]) (st' := [.ref 57]) (h' := (n, sl, wKK kk, (rdI I (nI (pa_sk tx T p15)) (nI (pa_sk tx T p15)) (nI (pa_tk tx T p15)) m15 g15 0 (-1) (nI (ce + cs13.length + cs14.length + cs15.length)) (pa_wr (pa_wr (pa_wr cd ce cs13) (ce + cs13.length) cs14) (ce + cs13.length + cs14.length) cs15)), L, wQQ q)) 5 rfl ?_
                        refine tv_ifq (nI_eq (a := (pa_tk tx T p15)) (b := 36) (by omega) (by omega)) (fun c215 => ?_) (fun c215 => ?_)
                        · refine tv_b (pc' := 223) (ls' := [some (.ref 57), some (.int (nI o)), some (.int (nI (pa_tk tx T p))), none]) (st' := [.int 1, .ref 57]) (h' := (n, sl, wKK kk, (rdI I (nI (pa_sk tx T p15)) (nI (pa_sk tx T p15)) (nI (pa_tk tx T p15)) m15 g15 0 (-1) (nI (ce + cs13.length + cs14.length + cs15.length)) (pa_wr (pa_wr (pa_wr cd ce cs13) (ce + cs13.length) cs14) (ce + cs13.length + cs14.length) cs15)), L, wQQ q)) 2 rfl ?_
                          refine tv_cv [.int 1] [] rfl rfl (by omega) rfl (Nat.le_of_ble_eq_true rfl) (Nat.le_of_ble_eq_true rfl) (Or.inr (Or.inr rfl)) (tv_r_ex1 hH (by omega) (by omega) hn15) ?_
                          rintro rv9 h9 ⟨rfl, I9, rfl, ho, hlx⟩
                          rcases rdO_c ho with ⟨k16, l16, s16, w16, m16, g16, f16, y16, c16, d16, hr16, hk16, hc16, rfl⟩ | ⟨p16, cs16, m16, g16, hr16, hp16, hn16, rfl⟩
                          · refine tv_b (pc' := 229) (ls' := [some (.ref 57), some (.int (nI o)), some (.int (nI (pa_tk tx T p))), none]) (st' := [.int 1, .int (nI o), .ref 57]) (h' := (n, sl, wKK kk, (rdI I s16 w16 39 m16 g16 f16 y16 (nI c16) d16), L, wQQ q)) 3 rfl ?_
                            refine tv_b (pc' := 230) (ls' := [some (.ref 57), some (.int (nI o)), some (.int (nI (pa_tk tx T p))), none]) (st' := [.int ((nI o) + 1), .ref 57]) (h' := (n, sl, wKK kk, (rdI I s16 w16 39 m16 g16 f16 y16 (nI c16) d16), L, wQQ q)) 1 rfl ?_
                            refine tv_top (show (nI o) + 1 = nI (o + 1) from nI_add o 1) ?_
                            refine tv_cvE [.int (nI (o + 1))] [] rfl rfl (by omega) rfl (Nat.le_of_ble_eq_true rfl) (Nat.le_of_ble_eq_true rfl) (Or.inr (Or.inr rfl)) (ev_r_sumE hk16) ?_
                            refine tv_b (pc' := 248) (ls' := [some (.ref 57), some (.int (nI o)), some (.int (nI (pa_tk tx T p))), none]) (st' := [.int 0, .ref 57]) (h' := (n, sl, wKK kk, (rdI I s16 w16 39 m16 g16 (nI k16) (nI l16) (nI c16) d16), L, wQQ q)) 6 rfl ?_
                            refine tv_cvE [.int 0] [] rfl rfl (by omega) rfl (Nat.le_of_ble_eq_true rfl) (Nat.le_of_ble_eq_true rfl) (Or.inr (Or.inr rfl)) (ev_r_expectE (rd_F hk16)) ?_
                            refine tv_b (pc' := 253) (ls' := [some (.ref 57), some (.int (nI o)), some (.int (nI (pa_tk tx T p))), none]) (st' := [.int (nI (pa_tk tx T p)), .ref 57]) (h' := (n, sl, wKK kk, (rdI I s16 w16 39 m16 g16 (nI k16) (nI l16) (nI c16) d16), L, wQQ q)) 2 rfl ?_
                            refine tv_cvE [.int (nI (pa_tk tx T p))] [] rfl rfl (by omega) rfl (Nat.le_of_ble_eq_true rfl) (Nat.le_of_ble_eq_true rfl) (Or.inr (Or.inr rfl)) (ev_r_emitF (rd_k (rd_F (rd_F hk16)))) ?_
                            refine tv_b (pc' := 268) (ls' := [some (.ref 57), some (.int (nI o)), some (.int (nI (pa_tk tx T p))), none]) (st' := []) (h' := (n, sl, wKK kk, (rdI I s16 w16 39 m16 g16 (nI k16) (nI l16) (nI c16) d16), L, wQQ q)) 1 rfl ?_
                            refine tv_rv rfl ⟨rfl, _, rfl, ?_, hlast⟩
                            unfold pa_part
                            try dsimp only
                            rw [if_neg (by omega), if_neg (by omega), if_neg (by omega), if_neg (by omega), if_pos (by omega)]
                            refine rdO_b (hr13) ?_
                            try dsimp only
                            rw [if_pos hb]
                            rw [if_neg hz]
                            refine rdO_b (hr14) ?_
                            try dsimp only
                            refine rdO_b (hr15) ?_
                            try dsimp only
                            first | exact rdO_bl ((pa_ex_t c215).trans hr16) (rdO_F ((pa_ex_t c215).trans hr16) ⟨(rd_F (rd_F hk16)), by omega⟩ rfl) | exact rdO_F ((pa_ex_t c215).trans hr16) ⟨(rd_F (rd_F hk16)), by omega⟩ rfl
                          · have ht16 := pa_tk_lt (b := tx) (n := T) p16
                            have hg16 := pa_edo (tx := tx) (T := T) p16
                            obtain ⟨hl16, hv16⟩ := hlx _ _ hr16
                            have hj16 := pa_ed_le (b := tx) (n := T) (p := p16) hp16.1
                            obtain ⟨hq16, hz16⟩ := pa_nx_r hr16
                            have hy16 : cs16.length = 0 := by rw [hz16]; rfl
                            refine tv_b (pc' := 229) (ls' := [some (.ref 57), some (.int (nI o)), some (.int (nI (pa_tk tx T p))), none]) (st' := [.int 1, .int (nI o), .ref 57]) (h' := (n, sl, wKK kk, (rdI I (nI (pa_sk tx T p16)) (nI (pa_sk tx T p16)) (nI (pa_tk tx T p16)) m16 g16 0 (-1) (nI (ce + cs13.length + cs14.length + cs15.length + cs16.length)) (pa_wr (pa_wr (pa_wr (pa_wr cd ce cs13) (ce + cs13.length) cs14) (ce + cs13.length + cs14.length) cs15) (ce + cs13.length + cs14.length + cs15.length) cs16)), L, wQQ q)) 3 rfl ?_
                            refine tv_b (pc' := 230) (ls' := [some (.ref 57), some (.int (nI o)), some (.int (nI (pa_tk tx T p))), none]) (st' := [.int ((nI o) + 1), .ref 57]) (h' := (n, sl, wKK kk, (rdI I (nI (pa_sk tx T p16)) (nI (pa_sk tx T p16)) (nI (pa_tk tx T p16)) m16 g16 0 (-1) (nI (ce + cs13.length + cs14.length + cs15.length + cs16.length)) (pa_wr (pa_wr (pa_wr (pa_wr cd ce cs13) (ce + cs13.length) cs14) (ce + cs13.length + cs14.length) cs15) (ce + cs13.length + cs14.length + cs15.length) cs16)), L, wQQ q)) 1 rfl ?_
                            refine tv_top (show (nI o) + 1 = nI (o + 1) from nI_add o 1) ?_
                            refine tv_cv [.int (nI (o + 1))] [] rfl rfl (by omega) rfl (Nat.le_of_ble_eq_true rfl) (Nat.le_of_ble_eq_true rfl) (Or.inr (Or.inr rfl)) ((hI hz0) _ p16 _ _ _ _ (by omega) (by omega) (by omega) hn16 hl16) ?_
                            rintro rv9 h9 ⟨rfl, I9, rfl, ho, hlx⟩
                            rcases rdO_c ho with ⟨k17, l17, s17, w17, m17, g17, f17, y17, c17, d17, hr17, hk17, hc17, rfl⟩ | ⟨p17, cs17, m17, g17, hr17, hp17, hn17, rfl⟩
                            · refine tv_b (pc' := 248) (ls' := [some (.ref 57), some (.int (nI o)), some (.int (nI (pa_tk tx T p))), none]) (st' := [.int 0, .ref 57]) (h' := (n, sl, wKK kk, (rdI I s17 w17 39 m17 g17 f17 y17 (nI c17) d17), L, wQQ q)) 6 rfl ?_
                              refine tv_cvE [.int 0] [] rfl rfl (by omega) rfl (Nat.le_of_ble_eq_true rfl) (Nat.le_of_ble_eq_true rfl) (Or.inr (Or.inr rfl)) (ev_r_expectE hk17) ?_
                              refine tv_b (pc' := 253) (ls' := [some (.ref 57), some (.int (nI o)), some (.int (nI (pa_tk tx T p))), none]) (st' := [.int (nI (pa_tk tx T p)), .ref 57]) (h' := (n, sl, wKK kk, (rdI I s17 w17 39 m17 g17 (nI k17) (nI l17) (nI c17) d17), L, wQQ q)) 2 rfl ?_
                              refine tv_cvE [.int (nI (pa_tk tx T p))] [] rfl rfl (by omega) rfl (Nat.le_of_ble_eq_true rfl) (Nat.le_of_ble_eq_true rfl) (Or.inr (Or.inr rfl)) (ev_r_emitF (rd_k (rd_F hk17))) ?_
                              refine tv_b (pc' := 268) (ls' := [some (.ref 57), some (.int (nI o)), some (.int (nI (pa_tk tx T p))), none]) (st' := []) (h' := (n, sl, wKK kk, (rdI I s17 w17 39 m17 g17 (nI k17) (nI l17) (nI c17) d17), L, wQQ q)) 1 rfl ?_
                              refine tv_rv rfl ⟨rfl, _, rfl, ?_, hlast⟩
                              unfold pa_part
                              try dsimp only
                              rw [if_neg (by omega), if_neg (by omega), if_neg (by omega), if_neg (by omega), if_pos (by omega)]
                              refine rdO_b (hr13) ?_
                              try dsimp only
                              rw [if_pos hb]
                              rw [if_neg hz]
                              refine rdO_b (hr14) ?_
                              try dsimp only
                              refine rdO_b (hr15) ?_
                              try dsimp only
                              refine rdO_b ((pa_ex_t c215).trans hr16) ?_
                              try dsimp only
                              first | exact rdO_bl (hr17) (rdO_F (hr17) ⟨(rd_F hk17), by omega⟩ rfl) | exact rdO_F (hr17) ⟨(rd_F hk17), by omega⟩ rfl
                            · have ht17 := pa_tk_lt (b := tx) (n := T) p17
                              have hg17 := pa_edo (tx := tx) (T := T) p17
                              obtain ⟨hl17, hv17⟩ := hlx _ _ hr17
                              have hj17 := pa_ed_le (b := tx) (n := T) (p := p17) hp17.1
                              refine tv_b (pc' := (if (nI (pa_tk tx T p17)) = 33 then 243 else 247)) (ls' := [some (.ref 57), some (.int (nI o)), some (.int (nI (pa_tk tx T p))), none]) (st' := [.ref 57]) (h' := (n, sl, wKK kk, (rdI I (nI (pa_sk tx T p17)) (nI (pa_sk tx T p17)) (nI (pa_tk tx T p17)) m17 g17 0 (-1) (nI (ce + cs13.length + cs14.length + cs15.length + cs16.length + cs17.length)) (pa_wr (pa_wr (pa_wr (pa_wr (pa_wr cd ce cs13) (ce + cs13.length) cs14) (ce + cs13.length + cs14.length) cs15) (ce + cs13.length + cs14.length + cs15.length) cs16) (ce + cs13.length + cs14.length + cs15.length + cs16.length) cs17)), L, wQQ q)) 5 rfl ?_
                              refine tv_ifq (nI_eq (a := (pa_tk tx T p17)) (b := 33) (by omega) (by omega)) (fun c240 => ?_) (fun c240 => ?_)
                              · refine tv_b (pc' := 248) (ls' := [some (.ref 57), some (.int (nI o)), some (.int (nI (pa_tk tx T p))), none]) (st' := [.int 1, .ref 57]) (h' := (n, sl, wKK kk, (rdI I (nI (pa_sk tx T p17)) (nI (pa_sk tx T p17)) (nI (pa_tk tx T p17)) m17 g17 0 (-1) (nI (ce + cs13.length + cs14.length + cs15.length + cs16.length + cs17.length)) (pa_wr (pa_wr (pa_wr (pa_wr (pa_wr cd ce cs13) (ce + cs13.length) cs14) (ce + cs13.length + cs14.length) cs15) (ce + cs13.length + cs14.length + cs15.length) cs16) (ce + cs13.length + cs14.length + cs15.length + cs16.length) cs17)), L, wQQ q)) 2 rfl ?_
                                refine tv_cv [.int 1] [] rfl rfl (by omega) rfl (Nat.le_of_ble_eq_true rfl) (Nat.le_of_ble_eq_true rfl) (Or.inr (Or.inr rfl)) (tv_r_ex1 hH (by omega) (by omega) hn17) ?_
                                rintro rv9 h9 ⟨rfl, I9, rfl, ho, hlx⟩
                                rcases rdO_c ho with ⟨k18, l18, s18, w18, m18, g18, f18, y18, c18, d18, hr18, hk18, hc18, rfl⟩ | ⟨p18, cs18, m18, g18, hr18, hp18, hn18, rfl⟩
                                · refine tv_b (pc' := 253) (ls' := [some (.ref 57), some (.int (nI o)), some (.int (nI (pa_tk tx T p))), none]) (st' := [.int (nI (pa_tk tx T p)), .ref 57]) (h' := (n, sl, wKK kk, (rdI I s18 w18 39 m18 g18 f18 y18 (nI c18) d18), L, wQQ q)) 2 rfl ?_
                                  refine tv_cv [.int (nI (pa_tk tx T p))] [] rfl rfl (by omega) rfl (Nat.le_of_ble_eq_true rfl) (Nat.le_of_ble_eq_true rfl) (Or.inr (Or.inr rfl)) (tv_r_emitE hk18 (by omega)) ?_
                                  rintro rv9 h9 ⟨rfl, e5, b5, hb5, rfl⟩
                                  refine tv_b (pc' := 268) (ls' := [some (.ref 57), some (.int (nI o)), some (.int (nI (pa_tk tx T p))), none]) (st' := []) (h' := (n, sl, wKK kk, (rdI I s18 w18 39 m18 g18 f18 y18 (nI e5) b5), L, wQQ q)) 1 rfl ?_
                                  refine tv_rv rfl ⟨rfl, _, rfl, ?_, hlast⟩
                                  unfold pa_part
                                  try dsimp only
                                  rw [if_neg (by omega), if_neg (by omega), if_neg (by omega), if_neg (by omega), if_pos (by omega)]
                                  refine rdO_b (hr13) ?_
                                  try dsimp only
                                  rw [if_pos hb]
                                  rw [if_neg hz]
                                  refine rdO_b (hr14) ?_
                                  try dsimp only
                                  refine rdO_b (hr15) ?_
                                  try dsimp only
                                  refine rdO_b ((pa_ex_t c215).trans hr16) ?_
                                  try dsimp only
                                  refine rdO_b (hr17) ?_
                                  try dsimp only
                                  first | exact rdO_bl ((pa_ex_t c240).trans hr18) (rdO_F ((pa_ex_t c240).trans hr18) ⟨hk18, by omega⟩ rfl) | exact rdO_F ((pa_ex_t c240).trans hr18) ⟨hk18, by omega⟩ rfl
                                · have ht18 := pa_tk_lt (b := tx) (n := T) p18
                                  have hg18 := pa_edo (tx := tx) (T := T) p18
                                  obtain ⟨hl18, hv18⟩ := hlx _ _ hr18
                                  have hj18 := pa_ed_le (b := tx) (n := T) (p := p18) hp18.1
                                  obtain ⟨hq18, hz18⟩ := pa_nx_r hr18
                                  have hy18 : cs18.length = 0 := by rw [hz18]; rfl
                                  refine tv_b (pc' := 253) (ls' := [some (.ref 57), some (.int (nI o)), some (.int (nI (pa_tk tx T p))), none]) (st' := [.int (nI (pa_tk tx T p)), .ref 57]) (h' := (n, sl, wKK kk, (rdI I (nI (pa_sk tx T p18)) (nI (pa_sk tx T p18)) (nI (pa_tk tx T p18)) m18 g18 0 (-1) (nI (ce + cs13.length + cs14.length + cs15.length + cs16.length + cs17.length + cs18.length)) (pa_wr (pa_wr (pa_wr (pa_wr (pa_wr (pa_wr cd ce cs13) (ce + cs13.length) cs14) (ce + cs13.length + cs14.length) cs15) (ce + cs13.length + cs14.length + cs15.length) cs16) (ce + cs13.length + cs14.length + cs15.length + cs16.length) cs17) (ce + cs13.length + cs14.length + cs15.length + cs16.length + cs17.length) cs18)), L, wQQ q)) 2 rfl ?_
                                  refine tv_cvE [.int (nI (pa_tk tx T p))] [] rfl rfl (by omega) rfl (Nat.le_of_ble_eq_true rfl) (Nat.le_of_ble_eq_true rfl) (Or.inr (Or.inr rfl)) (ev_r_emit (by omega)) ?_
                                  refine tv_b (pc' := 268) (ls' := [some (.ref 57), some (.int (nI o)), some (.int (nI (pa_tk tx T p))), none]) (st' := []) (h' := (n, sl, wKK kk, (rdI I (nI (pa_sk tx T p18)) (nI (pa_sk tx T p18)) (nI (pa_tk tx T p18)) m18 g18 0 (-1) (nI (ce + cs13.length + cs14.length + cs15.length + cs16.length + cs17.length + cs18.length + 1)) (upd (pa_wr (pa_wr (pa_wr (pa_wr (pa_wr (pa_wr cd ce cs13) (ce + cs13.length) cs14) (ce + cs13.length + cs14.length) cs15) (ce + cs13.length + cs14.length + cs15.length) cs16) (ce + cs13.length + cs14.length + cs15.length + cs16.length) cs17) (ce + cs13.length + cs14.length + cs15.length + cs16.length + cs17.length) cs18) (ce + cs13.length + cs14.length + cs15.length + cs16.length + cs17.length + cs18.length) (nI (pa_tk tx T p)))), L, wQQ q)) 1 rfl ?_
                                  refine tv_rv rfl ⟨rfl, _, rfl, ?_, hlast⟩
                                  unfold pa_part
                                  try dsimp only
                                  rw [if_neg (by omega), if_neg (by omega), if_neg (by omega), if_neg (by omega), if_pos (by omega)]
                                  refine rdO_b (hr13) ?_
                                  try dsimp only
                                  rw [if_pos hb]
                                  rw [if_neg hz]
                                  refine rdO_b (hr14) ?_
                                  try dsimp only
                                  refine rdO_b (hr15) ?_
                                  try dsimp only
                                  refine rdO_b ((pa_ex_t c215).trans hr16) ?_
                                  try dsimp only
                                  refine rdO_b (hr17) ?_
                                  try dsimp only
                                  refine rdO_b ((pa_ex_t c240).trans hr18) ?_
                                  try dsimp only
                                  exact rdO_em ⟨by omega, by omega⟩ hn18 rfl
                              · refine tv_b (pc' := 248) (ls' := [some (.ref 57), some (.int (nI o)), some (.int (nI (pa_tk tx T p))), none]) (st' := [.int 0, .ref 57]) (h' := (n, sl, wKK kk, (rdI I (nI (pa_sk tx T p17)) (nI (pa_sk tx T p17)) (nI (pa_tk tx T p17)) m17 g17 0 (-1) (nI (ce + cs13.length + cs14.length + cs15.length + cs16.length + cs17.length)) (pa_wr (pa_wr (pa_wr (pa_wr (pa_wr cd ce cs13) (ce + cs13.length) cs14) (ce + cs13.length + cs14.length) cs15) (ce + cs13.length + cs14.length + cs15.length) cs16) (ce + cs13.length + cs14.length + cs15.length + cs16.length) cs17)), L, wQQ q)) 1 rfl ?_
                                refine tv_cvE [.int 0] [] rfl rfl (by omega) rfl (Nat.le_of_ble_eq_true rfl) (Nat.le_of_ble_eq_true rfl) (Or.inr (Or.inr rfl)) (ev_r_ex0) ?_
                                refine tv_b (pc' := 253) (ls' := [some (.ref 57), some (.int (nI o)), some (.int (nI (pa_tk tx T p))), none]) (st' := [.int (nI (pa_tk tx T p)), .ref 57]) (h' := (n, sl, wKK kk, (rdI I (nI (pa_sk tx T p17)) (nI (pa_sk tx T p17)) 39 m17 g17 1 (nI (pa_sk tx T p17)) (nI (ce + cs13.length + cs14.length + cs15.length + cs16.length + cs17.length)) (pa_wr (pa_wr (pa_wr (pa_wr (pa_wr cd ce cs13) (ce + cs13.length) cs14) (ce + cs13.length + cs14.length) cs15) (ce + cs13.length + cs14.length + cs15.length) cs16) (ce + cs13.length + cs14.length + cs15.length + cs16.length) cs17)), L, wQQ q)) 2 rfl ?_
                                refine tv_cvE [.int (nI (pa_tk tx T p))] [] rfl rfl (by omega) rfl (Nat.le_of_ble_eq_true rfl) (Nat.le_of_ble_eq_true rfl) (Or.inr (Or.inr rfl)) (ev_r_emitF (rd_k (rd_L (k := 1) (l := pa_sk tx T p17) (w := nI (pa_sk tx T p17)) (xf := 1) (by decide) rfl))) ?_
                                refine tv_b (pc' := 268) (ls' := [some (.ref 57), some (.int (nI o)), some (.int (nI (pa_tk tx T p))), none]) (st' := []) (h' := (n, sl, wKK kk, (rdI I (nI (pa_sk tx T p17)) (nI (pa_sk tx T p17)) 39 m17 g17 1 (nI (pa_sk tx T p17)) (nI (ce + cs13.length + cs14.length + cs15.length + cs16.length + cs17.length)) (pa_wr (pa_wr (pa_wr (pa_wr (pa_wr cd ce cs13) (ce + cs13.length) cs14) (ce + cs13.length + cs14.length) cs15) (ce + cs13.length + cs14.length + cs15.length) cs16) (ce + cs13.length + cs14.length + cs15.length + cs16.length) cs17)), L, wQQ q)) 1 rfl ?_
                                refine tv_rv rfl ⟨rfl, _, rfl, ?_, hlast⟩
                                unfold pa_part
                                try dsimp only
                                rw [if_neg (by omega), if_neg (by omega), if_neg (by omega), if_neg (by omega), if_pos (by omega)]
                                refine rdO_b (hr13) ?_
                                try dsimp only
                                rw [if_pos hb]
                                rw [if_neg hz]
                                refine rdO_b (hr14) ?_
                                try dsimp only
                                refine rdO_b (hr15) ?_
                                try dsimp only
                                refine rdO_b ((pa_ex_t c215).trans hr16) ?_
                                try dsimp only
                                refine rdO_b (hr17) ?_
                                try dsimp only
                                first | exact rdO_F ((pa_ex_f c240)) ⟨(rd_L (k := 1) (l := pa_sk tx T p17) (w := nI (pa_sk tx T p17)) (xf := 1) (by decide) rfl), by omega⟩ rfl | exact rdO_bl ((pa_ex_f c240)) (rdO_F ((pa_ex_f c240)) ⟨(rd_L (k := 1) (l := pa_sk tx T p17) (w := nI (pa_sk tx T p17)) (xf := 1) (by decide) rfl), by omega⟩ rfl)
                        · refine tv_b (pc' := 223) (ls' := [some (.ref 57), some (.int (nI o)), some (.int (nI (pa_tk tx T p))), none]) (st' := [.int 0, .ref 57]) (h' := (n, sl, wKK kk, (rdI I (nI (pa_sk tx T p15)) (nI (pa_sk tx T p15)) (nI (pa_tk tx T p15)) m15 g15 0 (-1) (nI (ce + cs13.length + cs14.length + cs15.length)) (pa_wr (pa_wr (pa_wr cd ce cs13) (ce + cs13.length) cs14) (ce + cs13.length + cs14.length) cs15)), L, wQQ q)) 1 rfl ?_
                          refine tv_cvE [.int 0] [] rfl rfl (by omega) rfl (Nat.le_of_ble_eq_true rfl) (Nat.le_of_ble_eq_true rfl) (Or.inr (Or.inr rfl)) (ev_r_ex0) ?_
                          refine tv_b (pc' := 229) (ls' := [some (.ref 57), some (.int (nI o)), some (.int (nI (pa_tk tx T p))), none]) (st' := [.int 1, .int (nI o), .ref 57]) (h' := (n, sl, wKK kk, (rdI I (nI (pa_sk tx T p15)) (nI (pa_sk tx T p15)) 39 m15 g15 1 (nI (pa_sk tx T p15)) (nI (ce + cs13.length + cs14.length + cs15.length)) (pa_wr (pa_wr (pa_wr cd ce cs13) (ce + cs13.length) cs14) (ce + cs13.length + cs14.length) cs15)), L, wQQ q)) 3 rfl ?_
                          refine tv_b (pc' := 230) (ls' := [some (.ref 57), some (.int (nI o)), some (.int (nI (pa_tk tx T p))), none]) (st' := [.int ((nI o) + 1), .ref 57]) (h' := (n, sl, wKK kk, (rdI I (nI (pa_sk tx T p15)) (nI (pa_sk tx T p15)) 39 m15 g15 1 (nI (pa_sk tx T p15)) (nI (ce + cs13.length + cs14.length + cs15.length)) (pa_wr (pa_wr (pa_wr cd ce cs13) (ce + cs13.length) cs14) (ce + cs13.length + cs14.length) cs15)), L, wQQ q)) 1 rfl ?_
                          refine tv_top (show (nI o) + 1 = nI (o + 1) from nI_add o 1) ?_
                          refine tv_cvE [.int (nI (o + 1))] [] rfl rfl (by omega) rfl (Nat.le_of_ble_eq_true rfl) (Nat.le_of_ble_eq_true rfl) (Or.inr (Or.inr rfl)) (ev_r_sumE (rd_L (k := 1) (l := pa_sk tx T p15) (w := nI (pa_sk tx T p15)) (xf := 1) (by decide) rfl)) ?_
                          refine tv_b (pc' := 248) (ls' := [some (.ref 57), some (.int (nI o)), some (.int (nI (pa_tk tx T p))), none]) (st' := [.int 0, .ref 57]) (h' := (n, sl, wKK kk, (rdI I (nI (pa_sk tx T p15)) (nI (pa_sk tx T p15)) 39 m15 g15 (nI 1) (nI (pa_sk tx T p15)) (nI (ce + cs13.length + cs14.length + cs15.length)) (pa_wr (pa_wr (pa_wr cd ce cs13) (ce + cs13.length) cs14) (ce + cs13.length + cs14.length) cs15)), L, wQQ q)) 6 rfl ?_
                          refine tv_cvE [.int 0] [] rfl rfl (by omega) rfl (Nat.le_of_ble_eq_true rfl) (Nat.le_of_ble_eq_true rfl) (Or.inr (Or.inr rfl)) (ev_r_expectE (rd_F (rd_L (k := 1) (l := pa_sk tx T p15) (w := nI (pa_sk tx T p15)) (xf := 1) (by decide) rfl))) ?_
                          refine tv_b (pc' := 253) (ls' := [some (.ref 57), some (.int (nI o)), some (.int (nI (pa_tk tx T p))), none]) (st' := [.int (nI (pa_tk tx T p)), .ref 57]) (h' := (n, sl, wKK kk, (rdI I (nI (pa_sk tx T p15)) (nI (pa_sk tx T p15)) 39 m15 g15 (nI 1) (nI (pa_sk tx T p15)) (nI (ce + cs13.length + cs14.length + cs15.length)) (pa_wr (pa_wr (pa_wr cd ce cs13) (ce + cs13.length) cs14) (ce + cs13.length + cs14.length) cs15)), L, wQQ q)) 2 rfl ?_
                          refine tv_cvE [.int (nI (pa_tk tx T p))] [] rfl rfl (by omega) rfl (Nat.le_of_ble_eq_true rfl) (Nat.le_of_ble_eq_true rfl) (Or.inr (Or.inr rfl)) (ev_r_emitF (rd_k (rd_F (rd_F (rd_L (k := 1) (l := pa_sk tx T p15) (w := nI (pa_sk tx T p15)) (xf := 1) (by decide) rfl))))) ?_
                          refine tv_b (pc' := 268) (ls' := [some (.ref 57), some (.int (nI o)), some (.int (nI (pa_tk tx T p))), none]) (st' := []) (h' := (n, sl, wKK kk, (rdI I (nI (pa_sk tx T p15)) (nI (pa_sk tx T p15)) 39 m15 g15 (nI 1) (nI (pa_sk tx T p15)) (nI (ce + cs13.length + cs14.length + cs15.length)) (pa_wr (pa_wr (pa_wr cd ce cs13) (ce + cs13.length) cs14) (ce + cs13.length + cs14.length) cs15)), L, wQQ q)) 1 rfl ?_
                          refine tv_rv rfl ⟨rfl, _, rfl, ?_, hlast⟩
                          unfold pa_part
                          try dsimp only
                          rw [if_neg (by omega), if_neg (by omega), if_neg (by omega), if_neg (by omega), if_pos (by omega)]
                          refine rdO_b (hr13) ?_
                          try dsimp only
                          rw [if_pos hb]
                          rw [if_neg hz]
                          refine rdO_b (hr14) ?_
                          try dsimp only
                          refine rdO_b (hr15) ?_
                          try dsimp only
                          first | exact rdO_F ((pa_ex_f c215)) ⟨(rd_F (rd_F (rd_L (k := 1) (l := pa_sk tx T p15) (w := nI (pa_sk tx T p15)) (xf := 1) (by decide) rfl))), by omega⟩ rfl | exact rdO_bl ((pa_ex_f c215)) (rdO_F ((pa_ex_f c215)) ⟨(rd_F (rd_F (rd_L (k := 1) (l := pa_sk tx T p15) (w := nI (pa_sk tx T p15)) (xf := 1) (by decide) rfl))), by omega⟩ rfl)
                  · refine tv_b (pc' := 195) (ls' := [some (.ref 57), some (.int (nI o)), some (.int (nI (pa_tk tx T p))), none]) (st' := [.int (nI o), .int 32, .ref 57]) (h' := (n, sl, wKK kk, (rdI I (nI (pa_sk tx T p13)) (nI (pa_sk tx T p13)) (nI (pa_tk tx T p13)) m13 g13 0 (-1) (nI (ce + cs13.length)) (pa_wr cd ce cs13)), L, wQQ q)) 3 rfl ?_
                    refine tv_cvE [.int 32, .int (nI o)] [] rfl rfl (by omega) rfl (Nat.le_of_ble_eq_true rfl) (Nat.le_of_ble_eq_true rfl) (Or.inr (Or.inr rfl)) (ev_r_op1_32 hb (by omega)) ?_
                    refine tv_b (pc' := 268) (ls' := [some (.ref 57), some (.int (nI o)), some (.int (nI (pa_tk tx T p))), none]) (st' := []) (h' := (n, sl, wKK kk, (rdI I (nI (pa_sk tx T p13)) (nI (pa_sk tx T p13)) 39 m13 g13 1 (nI (pa_sk tx T p13)) (nI (ce + cs13.length)) (pa_wr cd ce cs13)), L, wQQ q)) 1 rfl ?_
                    refine tv_rv rfl ⟨rfl, _, rfl, ?_, hlast⟩
                    unfold pa_part
                    try dsimp only
                    rw [if_neg (by omega), if_neg (by omega), if_neg (by omega), if_neg (by omega), if_pos (by omega)]
                    refine rdO_b (hr13) ?_
                    try dsimp only
                    rw [if_neg hb]
                    first | exact rdO_F (rfl) ⟨(rd_L (k := 1) (l := pa_sk tx T p13) (w := nI (pa_sk tx T p13)) (xf := 1) (by decide) rfl), by omega⟩ rfl | exact rdO_bl (rfl) (rdO_F (rfl) ⟨(rd_L (k := 1) (l := pa_sk tx T p13) (w := nI (pa_sk tx T p13)) (xf := 1) (by decide) rfl), by omega⟩ rfl)
              · refine tv_b (pc' := 265) (ls' := [some (.ref 57), some (.int (nI o)), some (.int (nI (pa_tk tx T p))), none]) (st' := [.int (nI (pa_sk tx T p)), .int 1, .ref 57]) (h' := (n, sl, wKK kk, (rdI I (nI (pa_sk tx T p)) (nI (pa_sk tx T p)) (nI (pa_tk tx T p)) nm gn 0 (-1) (nI ce) cd), L, wQQ q)) 4 rfl ?_
                refine tv_cvE [.int 1, .int (nI (pa_sk tx T p))] [] rfl rfl (by omega) rfl (Nat.le_of_ble_eq_true rfl) (Nat.le_of_ble_eq_true rfl) (Or.inr (Or.inr rfl)) (ev_r_fail0) ?_
                refine tv_rv rfl ⟨rfl, _, rfl, ?_, hlast⟩
                unfold pa_part
                try dsimp only
                rw [if_neg (by omega), if_neg (by omega), if_neg (by omega), if_neg (by omega), if_neg (by omega)]
                first | exact rdO_F (rfl) ⟨(rd_L (k := 1) (l := pa_sk tx T p) (w := nI (pa_sk tx T p)) (xf := 1) (by decide) rfl), by omega⟩ rfl | exact rdO_bl (rfl) (rdO_F (rfl) ⟨(rd_L (k := 1) (l := pa_sk tx T p) (w := nI (pa_sk tx T p)) (xf := 1) (by decide) rfl), by omega⟩ rfl)
      · refine tv_b (pc' := (if 17 < (nI (pa_tk tx T p)) then 56 else 44)) (ls' := [some (.ref 57), some (.int (nI o)), some (.int (nI (pa_tk tx T p))), none]) (st' := []) (h' := (n, sl, wKK kk, (rdI I (nI (pa_sk tx T p)) (nI (pa_sk tx T p)) (nI (pa_tk tx T p)) nm gn 0 (-1) (nI ce) cd), L, wQQ q)) 3 rfl ?_
        refine tv_ifq (nI_ltI (a := 17) (b := (pa_tk tx T p)) (by omega) (by omega)) (fun c41 => ?_) (fun c41 => ?_)
        · refine tv_b (pc' := (if (nI (pa_tk tx T p)) = 18 then 62 else 131)) (ls' := [some (.ref 57), some (.int (nI o)), some (.int (nI (pa_tk tx T p))), none]) (st' := []) (h' := (n, sl, wKK kk, (rdI I (nI (pa_sk tx T p)) (nI (pa_sk tx T p)) (nI (pa_tk tx T p)) nm gn 0 (-1) (nI ce) cd), L, wQQ q)) 3 rfl ?_
          refine tv_ifq (nI_eq (a := (pa_tk tx T p)) (b := 18) (by omega) (by omega)) (fun c59 => ?_) (fun c59 => ?_)
          · refine tv_b (pc' := 63) (ls' := [some (.ref 57), some (.int (nI o)), some (.int (nI (pa_tk tx T p))), none]) (st' := [.ref 57]) (h' := (n, sl, wKK kk, (rdI I (nI (pa_sk tx T p)) (nI (pa_sk tx T p)) (nI (pa_tk tx T p)) nm gn 0 (-1) (nI ce) cd), L, wQQ q)) 1 rfl ?_
            refine tv_cv [] [] rfl rfl (by omega) rfl (Nat.le_of_ble_eq_true rfl) (Nat.le_of_ble_eq_true rfl) (Or.inr (Or.inr rfl)) (tv_r_nx hH (by omega) (by omega) hnm) ?_
            rintro rv9 h9 ⟨rfl, I9, rfl, ho, hlx⟩
            rcases rdO_c ho with ⟨k19, l19, s19, w19, m19, g19, f19, y19, c19, d19, hr19, hk19, hc19, rfl⟩ | ⟨p19, cs19, m19, g19, hr19, hp19, hn19, rfl⟩
            · refine tv_b (pc' := 114) (ls' := [some (.ref 57), some (.int (nI o)), some (.int (nI (pa_tk tx T p))), some (.int m19)]) (st' := [.int 0, .ref 57]) (h' := (n, sl, wKK kk, (rdI I s19 w19 39 m19 g19 f19 y19 (nI c19) d19), L, wQQ q)) 13 rfl ?_
              refine tv_cvE [.int 0] [] rfl rfl (by omega) rfl (Nat.le_of_ble_eq_true rfl) (Nat.le_of_ble_eq_true rfl) (Or.inr (Or.inr rfl)) (ev_r_expectE hk19) ?_
              refine tv_b (pc' := 125) (ls' := [some (.ref 57), some (.int (nI o)), some (.int (nI (pa_tk tx T p))), some (.int m19)]) (st' := [.int ((m19 * 32) + 18), .ref 57]) (h' := (n, sl, wKK kk, (rdI I s19 w19 39 m19 g19 (nI k19) (nI l19) (nI c19) d19), L, wQQ q)) 6 rfl ?_
              refine tv_cvE [.int ((m19 * 32) + 18)] [] rfl rfl (by omega) rfl (Nat.le_of_ble_eq_true rfl) (Nat.le_of_ble_eq_true rfl) (Or.inr (Or.inr rfl)) (ev_r_emitF (rd_k (rd_F hk19))) ?_
              refine tv_b (pc' := 268) (ls' := [some (.ref 57), some (.int (nI o)), some (.int (nI (pa_tk tx T p))), some (.int m19)]) (st' := []) (h' := (n, sl, wKK kk, (rdI I s19 w19 39 m19 g19 (nI k19) (nI l19) (nI c19) d19), L, wQQ q)) 1 rfl ?_
              refine tv_rv rfl ⟨rfl, _, rfl, ?_, hlast⟩
              unfold pa_part
              try dsimp only
              rw [if_neg (by omega), if_neg (by omega), if_pos (by omega)]
              first | exact rdO_bl (hr19) (rdO_F (hr19) ⟨(rd_F hk19), by omega⟩ rfl) | exact rdO_F (hr19) ⟨(rd_F hk19), by omega⟩ rfl
            · have ht19 := pa_tk_lt (b := tx) (n := T) p19
              have hg19 := pa_edo (tx := tx) (T := T) p19
              obtain ⟨hl19, hv19⟩ := hlx _ _ hr19
              have hj19 := pa_ed_le (b := tx) (n := T) (p := p19) hp19.1
              obtain ⟨hq19, hz19⟩ := pa_nx_r hr19
              have hy19 : cs19.length = 0 := by rw [hz19]; rfl
              refine tv_b (pc' := (if (nI (pa_tk tx T p19)) = 21 then 75 else 94)) (ls' := [some (.ref 57), some (.int (nI o)), some (.int (nI (pa_tk tx T p))), none]) (st' := []) (h' := (n, sl, wKK kk, (rdI I (nI (pa_sk tx T p19)) (nI (pa_sk tx T p19)) (nI (pa_tk tx T p19)) m19 g19 0 (-1) (nI (ce + cs19.length)) (pa_wr cd ce cs19)), L, wQQ q)) 4 rfl ?_
              refine tv_ifq (nI_eq (a := (pa_tk tx T p19)) (b := 21) (by omega) (by omega)) (fun c72 => ?_) (fun c72 => ?_)
              · have hsub := hn19.1 c72
                subst hsub
                refine tv_b (pc' := 79) (ls' := [some (.ref 57), some (.int (nI o)), some (.int (nI (pa_tk tx T p))), none]) (st' := [.int (nI (pa_nm tx T p19))]) (h' := (n, sl, wKK kk, (rdI I (nI (pa_sk tx T p19)) (nI (pa_sk tx T p19)) (nI (pa_tk tx T p19)) (nI (pa_nm tx T p19)) g19 0 (-1) (nI (ce + cs19.length)) (pa_wr cd ce cs19)), L, wQQ q)) 2 rfl ?_
                have hnl := pa_nm_lt hl19 c72
                refine tv_csE [.int (nI (pa_nm tx T p19))] [] rfl rfl (by omega) rfl (Nat.le_of_ble_eq_true rfl) (Nat.le_of_ble_eq_true rfl) (ev_r_isCol (by omega)) ?_
                refine tv_b (pc' := (if (if pa_nm tx T p19 < 16 then 1 else 0) = 0 then 85 else 94)) (ls' := [some (.ref 57), some (.int (nI o)), some (.int (nI (pa_tk tx T p))), none]) (st' := []) (h' := (n, sl, wKK kk, (rdI I (nI (pa_sk tx T p19)) (nI (pa_sk tx T p19)) (nI (pa_tk tx T p19)) (nI (pa_nm tx T p19)) g19 0 (-1) (nI (ce + cs19.length)) (pa_wr cd ce cs19)), L, wQQ q)) 1 rfl ?_
                refine tv_b0 (fun c82 => ?_) (fun c82 => ?_)
                · refine tv_b (pc' := 91) (ls' := [some (.ref 57), some (.int (nI o)), some (.int (nI (pa_tk tx T p))), none]) (st' := [.int (nI (pa_sk tx T p19)), .int 4, .ref 57]) (h' := (n, sl, wKK kk, (rdI I (nI (pa_sk tx T p19)) (nI (pa_sk tx T p19)) (nI (pa_tk tx T p19)) (nI (pa_nm tx T p19)) g19 0 (-1) (nI (ce + cs19.length)) (pa_wr cd ce cs19)), L, wQQ q)) 4 rfl ?_
                  refine tv_cvE [.int 4, .int (nI (pa_sk tx T p19))] [] rfl rfl (by omega) rfl (Nat.le_of_ble_eq_true rfl) (Nat.le_of_ble_eq_true rfl) (Or.inr (Or.inr rfl)) (ev_r_fail0) ?_
                  refine tv_b (pc' := 114) (ls' := [some (.ref 57), some (.int (nI o)), some (.int (nI (pa_tk tx T p))), some (.int (nI (pa_nm tx T p19)))]) (st' := [.int 0, .ref 57]) (h' := (n, sl, wKK kk, (rdI I (nI (pa_sk tx T p19)) (nI (pa_sk tx T p19)) 39 (nI (pa_nm tx T p19)) g19 4 (nI (pa_sk tx T p19)) (nI (ce + cs19.length)) (pa_wr cd ce cs19)), L, wQQ q)) 9 rfl ?_
                  refine tv_cvE [.int 0] [] rfl rfl (by omega) rfl (Nat.le_of_ble_eq_true rfl) (Nat.le_of_ble_eq_true rfl) (Or.inr (Or.inr rfl)) (ev_r_expectE (rd_L (k := 4) (l := pa_sk tx T p19) (w := nI (pa_sk tx T p19)) (xf := 4) (by decide) rfl)) ?_
                  refine tv_b (pc' := 121) (ls' := [some (.ref 57), some (.int (nI o)), some (.int (nI (pa_tk tx T p))), some (.int (nI (pa_nm tx T p19)))]) (st' := [.int 32, .int (nI (pa_nm tx T p19)), .ref 57]) (h' := (n, sl, wKK kk, (rdI I (nI (pa_sk tx T p19)) (nI (pa_sk tx T p19)) 39 (nI (pa_nm tx T p19)) g19 (nI 4) (nI (pa_sk tx T p19)) (nI (ce + cs19.length)) (pa_wr cd ce cs19)), L, wQQ q)) 3 rfl ?_
                  refine tv_b (pc' := 122) (ls' := [some (.ref 57), some (.int (nI o)), some (.int (nI (pa_tk tx T p))), some (.int (nI (pa_nm tx T p19)))]) (st' := [.int ((nI (pa_nm tx T p19)) * 32), .ref 57]) (h' := (n, sl, wKK kk, (rdI I (nI (pa_sk tx T p19)) (nI (pa_sk tx T p19)) 39 (nI (pa_nm tx T p19)) g19 (nI 4) (nI (pa_sk tx T p19)) (nI (ce + cs19.length)) (pa_wr cd ce cs19)), L, wQQ q)) 1 rfl ?_
                  refine tv_top (show (nI (pa_nm tx T p19)) * 32 = nI ((pa_nm tx T p19) * 32) from nI_mul (pa_nm tx T p19) 32) ?_
                  refine tv_b (pc' := 124) (ls' := [some (.ref 57), some (.int (nI o)), some (.int (nI (pa_tk tx T p))), some (.int (nI (pa_nm tx T p19)))]) (st' := [.int 18, .int (nI ((pa_nm tx T p19) * 32)), .ref 57]) (h' := (n, sl, wKK kk, (rdI I (nI (pa_sk tx T p19)) (nI (pa_sk tx T p19)) 39 (nI (pa_nm tx T p19)) g19 (nI 4) (nI (pa_sk tx T p19)) (nI (ce + cs19.length)) (pa_wr cd ce cs19)), L, wQQ q)) 1 rfl ?_
                  refine tv_b (pc' := 125) (ls' := [some (.ref 57), some (.int (nI o)), some (.int (nI (pa_tk tx T p))), some (.int (nI (pa_nm tx T p19)))]) (st' := [.int ((nI ((pa_nm tx T p19) * 32)) + 18), .ref 57]) (h' := (n, sl, wKK kk, (rdI I (nI (pa_sk tx T p19)) (nI (pa_sk tx T p19)) 39 (nI (pa_nm tx T p19)) g19 (nI 4) (nI (pa_sk tx T p19)) (nI (ce + cs19.length)) (pa_wr cd ce cs19)), L, wQQ q)) 1 rfl ?_
                  refine tv_top (show (nI ((pa_nm tx T p19) * 32)) + 18 = nI (((pa_nm tx T p19) * 32) + 18) from nI_add ((pa_nm tx T p19) * 32) 18) ?_
                  refine tv_cvE [.int (nI (((pa_nm tx T p19) * 32) + 18))] [] rfl rfl (by omega) rfl (Nat.le_of_ble_eq_true rfl) (Nat.le_of_ble_eq_true rfl) (Or.inr (Or.inr rfl)) (ev_r_emitF (rd_k (rd_F (rd_L (k := 4) (l := pa_sk tx T p19) (w := nI (pa_sk tx T p19)) (xf := 4) (by decide) rfl)))) ?_
                  refine tv_b (pc' := 268) (ls' := [some (.ref 57), some (.int (nI o)), some (.int (nI (pa_tk tx T p))), some (.int (nI (pa_nm tx T p19)))]) (st' := []) (h' := (n, sl, wKK kk, (rdI I (nI (pa_sk tx T p19)) (nI (pa_sk tx T p19)) 39 (nI (pa_nm tx T p19)) g19 (nI 4) (nI (pa_sk tx T p19)) (nI (ce + cs19.length)) (pa_wr cd ce cs19)), L, wQQ q)) 1 rfl ?_
                  refine tv_rv rfl ⟨rfl, _, rfl, ?_, hlast⟩
                  unfold pa_part
                  try dsimp only
                  rw [if_neg (by omega), if_neg (by omega), if_pos (by omega)]
                  refine rdO_b (hr19) ?_
                  try dsimp only
                  rw [if_pos c72]
                  rw [if_pos (by omega)]
                  first | exact rdO_F (rfl) ⟨(rd_F (rd_L (k := 4) (l := pa_sk tx T p19) (w := nI (pa_sk tx T p19)) (xf := 4) (by decide) rfl)), by omega⟩ rfl | exact rdO_bl (rfl) (rdO_F (rfl) ⟨(rd_F (rd_L (k := 4) (l := pa_sk tx T p19) (w := nI (pa_sk tx T p19)) (xf := 4) (by decide) rfl)), by omega⟩ rfl)
                · refine tv_b (pc' := (if (nI (pa_tk tx T p19)) = 21 then 109 else 113)) (ls' := [some (.ref 57), some (.int (nI o)), some (.int (nI (pa_tk tx T p))), some (.int (nI (pa_nm tx T p19)))]) (st' := [.ref 57]) (h' := (n, sl, wKK kk, (rdI I (nI (pa_sk tx T p19)) (nI (pa_sk tx T p19)) (nI (pa_tk tx T p19)) (nI (pa_nm tx T p19)) g19 0 (-1) (nI (ce + cs19.length)) (pa_wr cd ce cs19)), L, wQQ q)) 8 rfl ?_
                  refine tv_t ((nI_eq (a := (pa_tk tx T p19)) (b := 21) (by omega) (by omega)).mpr (by omega)) ?_
                  refine tv_b (pc' := 114) (ls' := [some (.ref 57), some (.int (nI o)), some (.int (nI (pa_tk tx T p))), some (.int (nI (pa_nm tx T p19)))]) (st' := [.int 1, .ref 57]) (h' := (n, sl, wKK kk, (rdI I (nI (pa_sk tx T p19)) (nI (pa_sk tx T p19)) (nI (pa_tk tx T p19)) (nI (pa_nm tx T p19)) g19 0 (-1) (nI (ce + cs19.length)) (pa_wr cd ce cs19)), L, wQQ q)) 2 rfl ?_
                  refine tv_cv [.int 1] [] rfl rfl (by omega) rfl (Nat.le_of_ble_eq_true rfl) (Nat.le_of_ble_eq_true rfl) (Or.inr (Or.inr rfl)) (tv_r_ex1 hH (by omega) (by omega) hn19) ?_
                  rintro rv9 h9 ⟨rfl, I9, rfl, ho, hlx⟩
                  rcases rdO_c ho with ⟨k20, l20, s20, w20, m20, g20, f20, y20, c20, d20, hr20, hk20, hc20, rfl⟩ | ⟨p20, cs20, m20, g20, hr20, hp20, hn20, rfl⟩
                  · refine tv_b (pc' := 121) (ls' := [some (.ref 57), some (.int (nI o)), some (.int (nI (pa_tk tx T p))), some (.int (nI (pa_nm tx T p19)))]) (st' := [.int 32, .int (nI (pa_nm tx T p19)), .ref 57]) (h' := (n, sl, wKK kk, (rdI I s20 w20 39 m20 g20 f20 y20 (nI c20) d20), L, wQQ q)) 3 rfl ?_
                    refine tv_b (pc' := 122) (ls' := [some (.ref 57), some (.int (nI o)), some (.int (nI (pa_tk tx T p))), some (.int (nI (pa_nm tx T p19)))]) (st' := [.int ((nI (pa_nm tx T p19)) * 32), .ref 57]) (h' := (n, sl, wKK kk, (rdI I s20 w20 39 m20 g20 f20 y20 (nI c20) d20), L, wQQ q)) 1 rfl ?_
                    refine tv_top (show (nI (pa_nm tx T p19)) * 32 = nI ((pa_nm tx T p19) * 32) from nI_mul (pa_nm tx T p19) 32) ?_
                    refine tv_b (pc' := 124) (ls' := [some (.ref 57), some (.int (nI o)), some (.int (nI (pa_tk tx T p))), some (.int (nI (pa_nm tx T p19)))]) (st' := [.int 18, .int (nI ((pa_nm tx T p19) * 32)), .ref 57]) (h' := (n, sl, wKK kk, (rdI I s20 w20 39 m20 g20 f20 y20 (nI c20) d20), L, wQQ q)) 1 rfl ?_
                    refine tv_b (pc' := 125) (ls' := [some (.ref 57), some (.int (nI o)), some (.int (nI (pa_tk tx T p))), some (.int (nI (pa_nm tx T p19)))]) (st' := [.int ((nI ((pa_nm tx T p19) * 32)) + 18), .ref 57]) (h' := (n, sl, wKK kk, (rdI I s20 w20 39 m20 g20 f20 y20 (nI c20) d20), L, wQQ q)) 1 rfl ?_
                    refine tv_top (show (nI ((pa_nm tx T p19) * 32)) + 18 = nI (((pa_nm tx T p19) * 32) + 18) from nI_add ((pa_nm tx T p19) * 32) 18) ?_
                    refine tv_cv [.int (nI (((pa_nm tx T p19) * 32) + 18))] [] rfl rfl (by omega) rfl (Nat.le_of_ble_eq_true rfl) (Nat.le_of_ble_eq_true rfl) (Or.inr (Or.inr rfl)) (tv_r_emitE hk20 (by omega)) ?_
                    rintro rv9 h9 ⟨rfl, e6, b6, hb6, rfl⟩
                    refine tv_b (pc' := 268) (ls' := [some (.ref 57), some (.int (nI o)), some (.int (nI (pa_tk tx T p))), some (.int (nI (pa_nm tx T p19)))]) (st' := []) (h' := (n, sl, wKK kk, (rdI I s20 w20 39 m20 g20 f20 y20 (nI e6) b6), L, wQQ q)) 1 rfl ?_
                    refine tv_rv rfl ⟨rfl, _, rfl, ?_, hlast⟩
                    unfold pa_part
                    try dsimp only
                    rw [if_neg (by omega), if_neg (by omega), if_pos (by omega)]
                    refine rdO_b (hr19) ?_
                    try dsimp only
                    rw [if_pos c72]
                    rw [if_neg (by omega)]
                    first | exact rdO_bl (hr20) (rdO_F (hr20) ⟨hk20, by omega⟩ rfl) | exact rdO_F (hr20) ⟨hk20, by omega⟩ rfl
                  · have ht20 := pa_tk_lt (b := tx) (n := T) p20
                    have hg20 := pa_edo (tx := tx) (T := T) p20
                    obtain ⟨hl20, hv20⟩ := hlx _ _ hr20
                    have hj20 := pa_ed_le (b := tx) (n := T) (p := p20) hp20.1
                    obtain ⟨hq20, hz20⟩ := pa_nx_r hr20
                    have hy20 : cs20.length = 0 := by rw [hz20]; rfl
                    refine tv_b (pc' := 121) (ls' := [some (.ref 57), some (.int (nI o)), some (.int (nI (pa_tk tx T p))), some (.int (nI (pa_nm tx T p19)))]) (st' := [.int 32, .int (nI (pa_nm tx T p19)), .ref 57]) (h' := (n, sl, wKK kk, (rdI I (nI (pa_sk tx T p20)) (nI (pa_sk tx T p20)) (nI (pa_tk tx T p20)) m20 g20 0 (-1) (nI (ce + cs19.length + cs20.length)) (pa_wr (pa_wr cd ce cs19) (ce + cs19.length) cs20)), L, wQQ q)) 3 rfl ?_
                    refine tv_b (pc' := 122) (ls' := [some (.ref 57), some (.int (nI o)), some (.int (nI (pa_tk tx T p))), some (.int (nI (pa_nm tx T p19)))]) (st' := [.int ((nI (pa_nm tx T p19)) * 32), .ref 57]) (h' := (n, sl, wKK kk, (rdI I (nI (pa_sk tx T p20)) (nI (pa_sk tx T p20)) (nI (pa_tk tx T p20)) m20 g20 0 (-1) (nI (ce + cs19.length + cs20.length)) (pa_wr (pa_wr cd ce cs19) (ce + cs19.length) cs20)), L, wQQ q)) 1 rfl ?_
                    refine tv_top (show (nI (pa_nm tx T p19)) * 32 = nI ((pa_nm tx T p19) * 32) from nI_mul (pa_nm tx T p19) 32) ?_
                    refine tv_b (pc' := 124) (ls' := [some (.ref 57), some (.int (nI o)), some (.int (nI (pa_tk tx T p))), some (.int (nI (pa_nm tx T p19)))]) (st' := [.int 18, .int (nI ((pa_nm tx T p19) * 32)), .ref 57]) (h' := (n, sl, wKK kk, (rdI I (nI (pa_sk tx T p20)) (nI (pa_sk tx T p20)) (nI (pa_tk tx T p20)) m20 g20 0 (-1) (nI (ce + cs19.length + cs20.length)) (pa_wr (pa_wr cd ce cs19) (ce + cs19.length) cs20)), L, wQQ q)) 1 rfl ?_
                    refine tv_b (pc' := 125) (ls' := [some (.ref 57), some (.int (nI o)), some (.int (nI (pa_tk tx T p))), some (.int (nI (pa_nm tx T p19)))]) (st' := [.int ((nI ((pa_nm tx T p19) * 32)) + 18), .ref 57]) (h' := (n, sl, wKK kk, (rdI I (nI (pa_sk tx T p20)) (nI (pa_sk tx T p20)) (nI (pa_tk tx T p20)) m20 g20 0 (-1) (nI (ce + cs19.length + cs20.length)) (pa_wr (pa_wr cd ce cs19) (ce + cs19.length) cs20)), L, wQQ q)) 1 rfl ?_
                    refine tv_top (show (nI ((pa_nm tx T p19) * 32)) + 18 = nI (((pa_nm tx T p19) * 32) + 18) from nI_add ((pa_nm tx T p19) * 32) 18) ?_
                    refine tv_cvE [.int (nI (((pa_nm tx T p19) * 32) + 18))] [] rfl rfl (by omega) rfl (Nat.le_of_ble_eq_true rfl) (Nat.le_of_ble_eq_true rfl) (Or.inr (Or.inr rfl)) (ev_r_emit (by omega)) ?_
                    refine tv_b (pc' := 268) (ls' := [some (.ref 57), some (.int (nI o)), some (.int (nI (pa_tk tx T p))), some (.int (nI (pa_nm tx T p19)))]) (st' := []) (h' := (n, sl, wKK kk, (rdI I (nI (pa_sk tx T p20)) (nI (pa_sk tx T p20)) (nI (pa_tk tx T p20)) m20 g20 0 (-1) (nI (ce + cs19.length + cs20.length + 1)) (upd (pa_wr (pa_wr cd ce cs19) (ce + cs19.length) cs20) (ce + cs19.length + cs20.length) (nI (((pa_nm tx T p19) * 32) + 18)))), L, wQQ q)) 1 rfl ?_
                    refine tv_rv rfl ⟨rfl, _, rfl, ?_, hlast⟩
                    unfold pa_part
                    try dsimp only
                    rw [if_neg (by omega), if_neg (by omega), if_pos (by omega)]
                    refine rdO_b (hr19) ?_
                    try dsimp only
                    rw [if_pos c72]
                    rw [if_neg (by omega)]
                    refine rdO_b (hr20) ?_
                    try dsimp only
                    exact rdO_em ⟨by omega, by omega⟩ hn20 rfl
              · refine tv_b (pc' := (if (nI (pa_tk tx T p19)) = 21 then 109 else 113)) (ls' := [some (.ref 57), some (.int (nI o)), some (.int (nI (pa_tk tx T p))), some (.int m19)]) (st' := [.ref 57]) (h' := (n, sl, wKK kk, (rdI I (nI (pa_sk tx T p19)) (nI (pa_sk tx T p19)) (nI (pa_tk tx T p19)) m19 g19 0 (-1) (nI (ce + cs19.length)) (pa_wr cd ce cs19)), L, wQQ q)) 8 rfl ?_
                refine tv_f (fun hq => absurd ((nI_eq (a := (pa_tk tx T p19)) (b := 21) (by omega) (by omega)).mp hq) (by omega)) ?_
                refine tv_b (pc' := 114) (ls' := [some (.ref 57), some (.int (nI o)), some (.int (nI (pa_tk tx T p))), some (.int m19)]) (st' := [.int 0, .ref 57]) (h' := (n, sl, wKK kk, (rdI I (nI (pa_sk tx T p19)) (nI (pa_sk tx T p19)) (nI (pa_tk tx T p19)) m19 g19 0 (-1) (nI (ce + cs19.length)) (pa_wr cd ce cs19)), L, wQQ q)) 1 rfl ?_
                refine tv_cvE [.int 0] [] rfl rfl (by omega) rfl (Nat.le_of_ble_eq_true rfl) (Nat.le_of_ble_eq_true rfl) (Or.inr (Or.inr rfl)) (ev_r_ex0) ?_
                refine tv_b (pc' := 125) (ls' := [some (.ref 57), some (.int (nI o)), some (.int (nI (pa_tk tx T p))), some (.int m19)]) (st' := [.int ((m19 * 32) + 18), .ref 57]) (h' := (n, sl, wKK kk, (rdI I (nI (pa_sk tx T p19)) (nI (pa_sk tx T p19)) 39 m19 g19 1 (nI (pa_sk tx T p19)) (nI (ce + cs19.length)) (pa_wr cd ce cs19)), L, wQQ q)) 6 rfl ?_
                refine tv_cvE [.int ((m19 * 32) + 18)] [] rfl rfl (by omega) rfl (Nat.le_of_ble_eq_true rfl) (Nat.le_of_ble_eq_true rfl) (Or.inr (Or.inr rfl)) (ev_r_emitF (rd_k (rd_L (k := 1) (l := pa_sk tx T p19) (w := nI (pa_sk tx T p19)) (xf := 1) (by decide) rfl))) ?_
                refine tv_b (pc' := 268) (ls' := [some (.ref 57), some (.int (nI o)), some (.int (nI (pa_tk tx T p))), some (.int m19)]) (st' := []) (h' := (n, sl, wKK kk, (rdI I (nI (pa_sk tx T p19)) (nI (pa_sk tx T p19)) 39 m19 g19 1 (nI (pa_sk tx T p19)) (nI (ce + cs19.length)) (pa_wr cd ce cs19)), L, wQQ q)) 1 rfl ?_
                refine tv_rv rfl ⟨rfl, _, rfl, ?_, hlast⟩
                unfold pa_part
                try dsimp only
                rw [if_neg (by omega), if_neg (by omega), if_pos (by omega)]
                refine rdO_b (hr19) ?_
                try dsimp only
                rw [if_neg c72]
                first | exact rdO_F (rfl) ⟨(rd_L (k := 1) (l := pa_sk tx T p19) (w := nI (pa_sk tx T p19)) (xf := 1) (by decide) rfl), by omega⟩ rfl | exact rdO_bl (rfl) (rdO_F (rfl) ⟨(rd_L (k := 1) (l := pa_sk tx T p19) (w := nI (pa_sk tx T p19)) (xf := 1) (by decide) rfl), by omega⟩ rfl)
          · refine tv_b (pc' := (if (nI (pa_tk tx T p)) = 32 then 137 else 175)) (ls' := [some (.ref 57), some (.int (nI o)), some (.int (nI (pa_tk tx T p))), none]) (st' := []) (h' := (n, sl, wKK kk, (rdI I (nI (pa_sk tx T p)) (nI (pa_sk tx T p)) (nI (pa_tk tx T p)) nm gn 0 (-1) (nI ce) cd), L, wQQ q)) 3 rfl ?_
            refine tv_ifq (nI_eq (a := (pa_tk tx T p)) (b := 32) (by omega) (by omega)) (fun c134 => ?_) (fun c134 => ?_)
            · refine tv_b (pc' := 141) (ls' := [some (.ref 57), some (.int (nI o)), some (.int (nI (pa_tk tx T p))), none]) (st' := [.int (nI o), .int 32, .ref 57]) (h' := (n, sl, wKK kk, (rdI I (nI (pa_sk tx T p)) (nI (pa_sk tx T p)) (nI (pa_tk tx T p)) nm gn 0 (-1) (nI ce) cd), L, wQQ q)) 3 rfl ?_
              refine tv_cv [.int 32, .int (nI o)] [] rfl rfl (by omega) rfl (Nat.le_of_ble_eq_true rfl) (Nat.le_of_ble_eq_true rfl) (Or.inr (Or.inr rfl)) (tv_r_op_32 hH (by omega) (by omega) c134 (by omega) hnm) ?_
              rintro rv9 h9 ⟨hv1, hv2, I9, rfl, ho, hlx⟩
              rcases rdO_d hv1 hv2 ho with ⟨k21, l21, s21, w21, m21, g21, f21, y21, c21, d21, hr21, hk21, hc21, rfl, rfl⟩ | ⟨k21, l21, s21, w21, m21, g21, f21, y21, c21, d21, hr21, hk21, hc21, rfl, rfl⟩ | ⟨p21, cs21, m21, g21, hr21, hp21, hn21, rfl, rfl⟩
              · refine tv_b (pc' := 150) (ls' := [some (.ref 57), some (.int (nI o)), some (.int (nI (pa_tk tx T p))), none]) (st' := [.int 1, .int (nI o), .ref 57]) (h' := (n, sl, wKK kk, (rdI I s21 w21 39 m21 g21 f21 y21 (nI c21) d21), L, wQQ q)) 4 rfl ?_
                refine tv_b (pc' := 151) (ls' := [some (.ref 57), some (.int (nI o)), some (.int (nI (pa_tk tx T p))), none]) (st' := [.int ((nI o) + 1), .ref 57]) (h' := (n, sl, wKK kk, (rdI I s21 w21 39 m21 g21 f21 y21 (nI c21) d21), L, wQQ q)) 1 rfl ?_
                refine tv_top (show (nI o) + 1 = nI (o + 1) from nI_add o 1) ?_
                refine tv_cvE [.int (nI (o + 1))] [] rfl rfl (by omega) rfl (Nat.le_of_ble_eq_true rfl) (Nat.le_of_ble_eq_true rfl) (Or.inr (Or.inr rfl)) (ev_r_sumE hk21) ?_
                refine tv_b (pc' := 169) (ls' := [some (.ref 57), some (.int (nI o)), some (.int (nI (pa_tk tx T p))), none]) (st' := [.int 0, .ref 57]) (h' := (n, sl, wKK kk, (rdI I s21 w21 39 m21 g21 (nI k21) (nI l21) (nI c21) d21), L, wQQ q)) 6 rfl ?_
                refine tv_cvE [.int 0] [] rfl rfl (by omega) rfl (Nat.le_of_ble_eq_true rfl) (Nat.le_of_ble_eq_true rfl) (Or.inr (Or.inr rfl)) (ev_r_expectE (rd_F hk21)) ?_
                refine tv_b (pc' := 268) (ls' := [some (.ref 57), some (.int (nI o)), some (.int (nI (pa_tk tx T p))), none]) (st' := []) (h' := (n, sl, wKK kk, (rdI I s21 w21 39 m21 g21 (nI k21) (nI l21) (nI c21) d21), L, wQQ q)) 1 rfl ?_
                refine tv_rv rfl ⟨rfl, _, rfl, ?_, hlast⟩
                unfold pa_part
                try dsimp only
                rw [if_neg (by omega), if_neg (by omega), if_neg (by omega), if_pos (by omega)]
                rw [if_neg hz]
                first | exact rdO_bl (hr21) (rdO_F (hr21) ⟨(rd_F (rd_F hk21)), by omega⟩ rfl) | exact rdO_F (hr21) ⟨(rd_F (rd_F hk21)), by omega⟩ rfl
              · refine tv_b (pc' := 268) (ls' := [some (.ref 57), some (.int (nI o)), some (.int (nI (pa_tk tx T p))), none]) (st' := []) (h' := (n, sl, wKK kk, (rdI I s21 w21 39 m21 g21 f21 y21 (nI c21) d21), L, wQQ q)) 1 rfl ?_
                refine tv_rv rfl ⟨rfl, _, rfl, ?_, hlast⟩
                unfold pa_part
                try dsimp only
                rw [if_neg (by omega), if_neg (by omega), if_neg (by omega), if_pos (by omega)]
                rw [if_neg hz]
                first | exact rdO_bl (hr21) (rdO_F (hr21) ⟨hk21, by omega⟩ rfl) | exact rdO_F (hr21) ⟨hk21, by omega⟩ rfl
              · have ht21 := pa_tk_lt (b := tx) (n := T) p21
                have hg21 := pa_edo (tx := tx) (T := T) p21
                obtain ⟨hl21, hv21⟩ := hlx _ _ hr21
                have hj21 := pa_ed_le (b := tx) (n := T) (p := p21) hp21.1
                obtain ⟨hq21, hz21⟩ := pa_nx_r hr21
                have hy21 : cs21.length = 0 := by rw [hz21]; rfl
                refine tv_b (pc' := 150) (ls' := [some (.ref 57), some (.int (nI o)), some (.int (nI (pa_tk tx T p))), none]) (st' := [.int 1, .int (nI o), .ref 57]) (h' := (n, sl, wKK kk, (rdI I (nI (pa_sk tx T p21)) (nI (pa_sk tx T p21)) (nI (pa_tk tx T p21)) m21 g21 0 (-1) (nI (ce + cs21.length)) (pa_wr cd ce cs21)), L, wQQ q)) 4 rfl ?_
                refine tv_b (pc' := 151) (ls' := [some (.ref 57), some (.int (nI o)), some (.int (nI (pa_tk tx T p))), none]) (st' := [.int ((nI o) + 1), .ref 57]) (h' := (n, sl, wKK kk, (rdI I (nI (pa_sk tx T p21)) (nI (pa_sk tx T p21)) (nI (pa_tk tx T p21)) m21 g21 0 (-1) (nI (ce + cs21.length)) (pa_wr cd ce cs21)), L, wQQ q)) 1 rfl ?_
                refine tv_top (show (nI o) + 1 = nI (o + 1) from nI_add o 1) ?_
                refine tv_cv [.int (nI (o + 1))] [] rfl rfl (by omega) rfl (Nat.le_of_ble_eq_true rfl) (Nat.le_of_ble_eq_true rfl) (Or.inr (Or.inr rfl)) ((hI hz0) _ p21 _ _ _ _ (by omega) (by omega) (by omega) hn21 hl21) ?_
                rintro rv9 h9 ⟨rfl, I9, rfl, ho, hlx⟩
                rcases rdO_c ho with ⟨k22, l22, s22, w22, m22, g22, f22, y22, c22, d22, hr22, hk22, hc22, rfl⟩ | ⟨p22, cs22, m22, g22, hr22, hp22, hn22, rfl⟩
                · refine tv_b (pc' := 169) (ls' := [some (.ref 57), some (.int (nI o)), some (.int (nI (pa_tk tx T p))), none]) (st' := [.int 0, .ref 57]) (h' := (n, sl, wKK kk, (rdI I s22 w22 39 m22 g22 f22 y22 (nI c22) d22), L, wQQ q)) 6 rfl ?_
                  refine tv_cvE [.int 0] [] rfl rfl (by omega) rfl (Nat.le_of_ble_eq_true rfl) (Nat.le_of_ble_eq_true rfl) (Or.inr (Or.inr rfl)) (ev_r_expectE hk22) ?_
                  refine tv_b (pc' := 268) (ls' := [some (.ref 57), some (.int (nI o)), some (.int (nI (pa_tk tx T p))), none]) (st' := []) (h' := (n, sl, wKK kk, (rdI I s22 w22 39 m22 g22 (nI k22) (nI l22) (nI c22) d22), L, wQQ q)) 1 rfl ?_
                  refine tv_rv rfl ⟨rfl, _, rfl, ?_, hlast⟩
                  unfold pa_part
                  try dsimp only
                  rw [if_neg (by omega), if_neg (by omega), if_neg (by omega), if_pos (by omega)]
                  rw [if_neg hz]
                  refine rdO_b (hr21) ?_
                  try dsimp only
                  first | exact rdO_bl (hr22) (rdO_F (hr22) ⟨(rd_F hk22), by omega⟩ rfl) | exact rdO_F (hr22) ⟨(rd_F hk22), by omega⟩ rfl
                · have ht22 := pa_tk_lt (b := tx) (n := T) p22
                  have hg22 := pa_edo (tx := tx) (T := T) p22
                  obtain ⟨hl22, hv22⟩ := hlx _ _ hr22
                  have hj22 := pa_ed_le (b := tx) (n := T) (p := p22) hp22.1
                  refine tv_b (pc' := (if (nI (pa_tk tx T p22)) = 33 then 164 else 168)) (ls' := [some (.ref 57), some (.int (nI o)), some (.int (nI (pa_tk tx T p))), none]) (st' := [.ref 57]) (h' := (n, sl, wKK kk, (rdI I (nI (pa_sk tx T p22)) (nI (pa_sk tx T p22)) (nI (pa_tk tx T p22)) m22 g22 0 (-1) (nI (ce + cs21.length + cs22.length)) (pa_wr (pa_wr cd ce cs21) (ce + cs21.length) cs22)), L, wQQ q)) 5 rfl ?_
                  refine tv_ifq (nI_eq (a := (pa_tk tx T p22)) (b := 33) (by omega) (by omega)) (fun c161 => ?_) (fun c161 => ?_)
                  · refine tv_b (pc' := 169) (ls' := [some (.ref 57), some (.int (nI o)), some (.int (nI (pa_tk tx T p))), none]) (st' := [.int 1, .ref 57]) (h' := (n, sl, wKK kk, (rdI I (nI (pa_sk tx T p22)) (nI (pa_sk tx T p22)) (nI (pa_tk tx T p22)) m22 g22 0 (-1) (nI (ce + cs21.length + cs22.length)) (pa_wr (pa_wr cd ce cs21) (ce + cs21.length) cs22)), L, wQQ q)) 2 rfl ?_
                    refine tv_cv [.int 1] [] rfl rfl (by omega) rfl (Nat.le_of_ble_eq_true rfl) (Nat.le_of_ble_eq_true rfl) (Or.inr (Or.inr rfl)) (tv_r_ex1 hH (by omega) (by omega) hn22) ?_
                    rintro rv9 h9 ⟨rfl, I9, rfl, ho, hlx⟩
                    rcases rdO_c ho with ⟨k23, l23, s23, w23, m23, g23, f23, y23, c23, d23, hr23, hk23, hc23, rfl⟩ | ⟨p23, cs23, m23, g23, hr23, hp23, hn23, rfl⟩
                    · refine tv_b (pc' := 268) (ls' := [some (.ref 57), some (.int (nI o)), some (.int (nI (pa_tk tx T p))), none]) (st' := []) (h' := (n, sl, wKK kk, (rdI I s23 w23 39 m23 g23 f23 y23 (nI c23) d23), L, wQQ q)) 1 rfl ?_
                      refine tv_rv rfl ⟨rfl, _, rfl, ?_, hlast⟩
                      unfold pa_part
                      try dsimp only
                      rw [if_neg (by omega), if_neg (by omega), if_neg (by omega), if_pos (by omega)]
                      rw [if_neg hz]
                      refine rdO_b (hr21) ?_
                      try dsimp only
                      refine rdO_b (hr22) ?_
                      try dsimp only
                      first | exact rdO_bl ((pa_ex_t c161).trans hr23) (rdO_F ((pa_ex_t c161).trans hr23) ⟨hk23, by omega⟩ rfl) | exact rdO_F ((pa_ex_t c161).trans hr23) ⟨hk23, by omega⟩ rfl
                    · have ht23 := pa_tk_lt (b := tx) (n := T) p23
                      have hg23 := pa_edo (tx := tx) (T := T) p23
                      obtain ⟨hl23, hv23⟩ := hlx _ _ hr23
                      have hj23 := pa_ed_le (b := tx) (n := T) (p := p23) hp23.1
                      obtain ⟨hq23, hz23⟩ := pa_nx_r hr23
                      have hy23 : cs23.length = 0 := by rw [hz23]; rfl
                      refine tv_b (pc' := 268) (ls' := [some (.ref 57), some (.int (nI o)), some (.int (nI (pa_tk tx T p))), none]) (st' := []) (h' := (n, sl, wKK kk, (rdI I (nI (pa_sk tx T p23)) (nI (pa_sk tx T p23)) (nI (pa_tk tx T p23)) m23 g23 0 (-1) (nI (ce + cs21.length + cs22.length + cs23.length)) (pa_wr (pa_wr (pa_wr cd ce cs21) (ce + cs21.length) cs22) (ce + cs21.length + cs22.length) cs23)), L, wQQ q)) 1 rfl ?_
                      refine tv_rv rfl ⟨rfl, _, rfl, ?_, hlast⟩
                      unfold pa_part
                      try dsimp only
                      rw [if_neg (by omega), if_neg (by omega), if_neg (by omega), if_pos (by omega)]
                      rw [if_neg hz]
                      refine rdO_b (hr21) ?_
                      try dsimp only
                      refine rdO_b (hr22) ?_
                      try dsimp only
                      exact rdO_N ((pa_ex_t c161).trans hr23) hp23 hn23 rfl
                  · refine tv_b (pc' := 169) (ls' := [some (.ref 57), some (.int (nI o)), some (.int (nI (pa_tk tx T p))), none]) (st' := [.int 0, .ref 57]) (h' := (n, sl, wKK kk, (rdI I (nI (pa_sk tx T p22)) (nI (pa_sk tx T p22)) (nI (pa_tk tx T p22)) m22 g22 0 (-1) (nI (ce + cs21.length + cs22.length)) (pa_wr (pa_wr cd ce cs21) (ce + cs21.length) cs22)), L, wQQ q)) 1 rfl ?_
                    refine tv_cvE [.int 0] [] rfl rfl (by omega) rfl (Nat.le_of_ble_eq_true rfl) (Nat.le_of_ble_eq_true rfl) (Or.inr (Or.inr rfl)) (ev_r_ex0) ?_
                    refine tv_b (pc' := 268) (ls' := [some (.ref 57), some (.int (nI o)), some (.int (nI (pa_tk tx T p))), none]) (st' := []) (h' := (n, sl, wKK kk, (rdI I (nI (pa_sk tx T p22)) (nI (pa_sk tx T p22)) 39 m22 g22 1 (nI (pa_sk tx T p22)) (nI (ce + cs21.length + cs22.length)) (pa_wr (pa_wr cd ce cs21) (ce + cs21.length) cs22)), L, wQQ q)) 1 rfl ?_
                    refine tv_rv rfl ⟨rfl, _, rfl, ?_, hlast⟩
                    unfold pa_part
                    try dsimp only
                    rw [if_neg (by omega), if_neg (by omega), if_neg (by omega), if_pos (by omega)]
                    rw [if_neg hz]
                    refine rdO_b (hr21) ?_
                    try dsimp only
                    refine rdO_b (hr22) ?_
                    try dsimp only
                    first | exact rdO_F ((pa_ex_f c161)) ⟨(rd_L (k := 1) (l := pa_sk tx T p22) (w := nI (pa_sk tx T p22)) (xf := 1) (by decide) rfl), by omega⟩ rfl | exact rdO_bl ((pa_ex_f c161)) (rdO_F ((pa_ex_f c161)) ⟨(rd_L (k := 1) (l := pa_sk tx T p22) (w := nI (pa_sk tx T p22)) (xf := 1) (by decide) rfl), by omega⟩ rfl)
            · refine tv_b (pc' := (if (nI (pa_tk tx T p)) = 19 then 187 else 181)) (ls' := [some (.ref 57), some (.int (nI o)), some (.int (nI (pa_tk tx T p))), none]) (st' := []) (h' := (n, sl, wKK kk, (rdI I (nI (pa_sk tx T p)) (nI (pa_sk tx T p)) (nI (pa_tk tx T p)) nm gn 0 (-1) (nI ce) cd), L, wQQ q)) 3 rfl ?_
              refine tv_ifq (nI_eq (a := (pa_tk tx T p)) (b := 19) (by omega) (by omega)) (fun c178 => ?_) (fun c178 => ?_)
              · refine tv_b (pc' := 188) (ls' := [some (.ref 57), some (.int (nI o)), some (.int (nI (pa_tk tx T p))), none]) (st' := [.ref 57]) (h' := (n, sl, wKK kk, (rdI I (nI (pa_sk tx T p)) (nI (pa_sk tx T p)) (nI (pa_tk tx T p)) nm gn 0 (-1) (nI ce) cd), L, wQQ q)) 1 rfl ?_
                refine tv_cv [] [] rfl rfl (by omega) rfl (Nat.le_of_ble_eq_true rfl) (Nat.le_of_ble_eq_true rfl) (Or.inr (Or.inr rfl)) (tv_r_nx hH (by omega) (by omega) hnm) ?_
                rintro rv9 h9 ⟨rfl, I9, rfl, ho, hlx⟩
                rcases rdO_c ho with ⟨k24, l24, s24, w24, m24, g24, f24, y24, c24, d24, hr24, hk24, hc24, rfl⟩ | ⟨p24, cs24, m24, g24, hr24, hp24, hn24, rfl⟩
                · refine tv_b (pc' := 195) (ls' := [some (.ref 57), some (.int (nI o)), some (.int (nI (pa_tk tx T p))), none]) (st' := [.int (nI o), .int 32, .ref 57]) (h' := (n, sl, wKK kk, (rdI I s24 w24 39 m24 g24 f24 y24 (nI c24) d24), L, wQQ q)) 3 rfl ?_
                  refine tv_cvE [.int 32, .int (nI o)] [] rfl rfl (by omega) rfl (Nat.le_of_ble_eq_true rfl) (Nat.le_of_ble_eq_true rfl) (Or.inr (Or.inr rfl)) (ev_r_opensE32 hk24) ?_
                  refine tv_b (pc' := 268) (ls' := [some (.ref 57), some (.int (nI o)), some (.int (nI (pa_tk tx T p))), none]) (st' := []) (h' := (n, sl, wKK kk, (rdI I s24 w24 39 m24 g24 (nI k24) (nI l24) (nI c24) d24), L, wQQ q)) 1 rfl ?_
                  refine tv_rv rfl ⟨rfl, _, rfl, ?_, hlast⟩
                  unfold pa_part
                  try dsimp only
                  rw [if_neg (by omega), if_neg (by omega), if_neg (by omega), if_neg (by omega), if_pos (by omega)]
                  first | exact rdO_bl (hr24) (rdO_F (hr24) ⟨(rd_F hk24), by omega⟩ rfl) | exact rdO_F (hr24) ⟨(rd_F hk24), by omega⟩ rfl
                · have ht24 := pa_tk_lt (b := tx) (n := T) p24
                  have hg24 := pa_edo (tx := tx) (T := T) p24
                  obtain ⟨hl24, hv24⟩ := hlx _ _ hr24
                  have hj24 := pa_ed_le (b := tx) (n := T) (p := p24) hp24.1
                  obtain ⟨hq24, hz24⟩ := pa_nx_r hr24
                  have hy24 : cs24.length = 0 := by rw [hz24]; rfl
                  by_cases hb : pa_tk tx T p24 = 32
                  · refine tv_b (pc' := 195) (ls' := [some (.ref 57), some (.int (nI o)), some (.int (nI (pa_tk tx T p))), none]) (st' := [.int (nI o), .int 32, .ref 57]) (h' := (n, sl, wKK kk, (rdI I (nI (pa_sk tx T p24)) (nI (pa_sk tx T p24)) (nI (pa_tk tx T p24)) m24 g24 0 (-1) (nI (ce + cs24.length)) (pa_wr cd ce cs24)), L, wQQ q)) 3 rfl ?_
                    refine tv_cv [.int 32, .int (nI o)] [] rfl rfl (by omega) rfl (Nat.le_of_ble_eq_true rfl) (Nat.le_of_ble_eq_true rfl) (Or.inr (Or.inr rfl)) (tv_r_op_32 hH (by omega) (by omega) hb (by omega) hn24) ?_
                    rintro rv9 h9 ⟨hv1, hv2, I9, rfl, ho, hlx⟩
                    rcases rdO_d hv1 hv2 ho with ⟨k25, l25, s25, w25, m25, g25, f25, y25, c25, d25, hr25, hk25, hc25, rfl, rfl⟩ | ⟨k25, l25, s25, w25, m25, g25, f25, y25, c25, d25, hr25, hk25, hc25, rfl, rfl⟩ | ⟨p25, cs25, m25, g25, hr25, hp25, hn25, rfl, rfl⟩
                    · refine tv_b (pc' := 204) (ls' := [some (.ref 57), some (.int (nI o)), some (.int (nI (pa_tk tx T p))), none]) (st' := [.int 1, .int (nI o), .ref 57]) (h' := (n, sl, wKK kk, (rdI I s25 w25 39 m25 g25 f25 y25 (nI c25) d25), L, wQQ q)) 4 rfl ?_
                      refine tv_b (pc' := 205) (ls' := [some (.ref 57), some (.int (nI o)), some (.int (nI (pa_tk tx T p))), none]) (st' := [.int ((nI o) + 1), .ref 57]) (h' := (n, sl, wKK kk, (rdI I s25 w25 39 m25 g25 f25 y25 (nI c25) d25), L, wQQ q)) 1 rfl ?_
                      refine tv_top (show (nI o) + 1 = nI (o + 1) from nI_add o 1) ?_
                      refine tv_cvE [.int (nI (o + 1))] [] rfl rfl (by omega) rfl (Nat.le_of_ble_eq_true rfl) (Nat.le_of_ble_eq_true rfl) (Or.inr (Or.inr rfl)) (ev_r_sumE hk25) ?_
                      refine tv_b (pc' := 223) (ls' := [some (.ref 57), some (.int (nI o)), some (.int (nI (pa_tk tx T p))), none]) (st' := [.int 0, .ref 57]) (h' := (n, sl, wKK kk, (rdI I s25 w25 39 m25 g25 (nI k25) (nI l25) (nI c25) d25), L, wQQ q)) 6 rfl ?_
                      refine tv_cvE [.int 0] [] rfl rfl (by omega) rfl (Nat.le_of_ble_eq_true rfl) (Nat.le_of_ble_eq_true rfl) (Or.inr (Or.inr rfl)) (ev_r_expectE (rd_F hk25)) ?_
                      refine tv_b (pc' := 229) (ls' := [some (.ref 57), some (.int (nI o)), some (.int (nI (pa_tk tx T p))), none]) (st' := [.int 1, .int (nI o), .ref 57]) (h' := (n, sl, wKK kk, (rdI I s25 w25 39 m25 g25 (nI k25) (nI l25) (nI c25) d25), L, wQQ q)) 3 rfl ?_
                      refine tv_b (pc' := 230) (ls' := [some (.ref 57), some (.int (nI o)), some (.int (nI (pa_tk tx T p))), none]) (st' := [.int ((nI o) + 1), .ref 57]) (h' := (n, sl, wKK kk, (rdI I s25 w25 39 m25 g25 (nI k25) (nI l25) (nI c25) d25), L, wQQ q)) 1 rfl ?_
                      refine tv_top (show (nI o) + 1 = nI (o + 1) from nI_add o 1) ?_
                      refine tv_cvE [.int (nI (o + 1))] [] rfl rfl (by omega) rfl (Nat.le_of_ble_eq_true rfl) (Nat.le_of_ble_eq_true rfl) (Or.inr (Or.inr rfl)) (ev_r_sumE (rd_F (rd_F hk25))) ?_
                      refine tv_b (pc' := 248) (ls' := [some (.ref 57), some (.int (nI o)), some (.int (nI (pa_tk tx T p))), none]) (st' := [.int 0, .ref 57]) (h' := (n, sl, wKK kk, (rdI I s25 w25 39 m25 g25 (nI k25) (nI l25) (nI c25) d25), L, wQQ q)) 6 rfl ?_
                      refine tv_cvE [.int 0] [] rfl rfl (by omega) rfl (Nat.le_of_ble_eq_true rfl) (Nat.le_of_ble_eq_true rfl) (Or.inr (Or.inr rfl)) (ev_r_expectE (rd_F (rd_F (rd_F hk25)))) ?_
                      refine tv_b (pc' := 253) (ls' := [some (.ref 57), some (.int (nI o)), some (.int (nI (pa_tk tx T p))), none]) (st' := [.int (nI (pa_tk tx T p)), .ref 57]) (h' := (n, sl, wKK kk, (rdI I s25 w25 39 m25 g25 (nI k25) (nI l25) (nI c25) d25), L, wQQ q)) 2 rfl ?_
                      refine tv_cvE [.int (nI (pa_tk tx T p))] [] rfl rfl (by omega) rfl (Nat.le_of_ble_eq_true rfl) (Nat.le_of_ble_eq_true rfl) (Or.inr (Or.inr rfl)) (ev_r_emitF (rd_k (rd_F (rd_F (rd_F (rd_F hk25)))))) ?_
                      refine tv_b (pc' := 268) (ls' := [some (.ref 57), some (.int (nI o)), some (.int (nI (pa_tk tx T p))), none]) (st' := []) (h' := (n, sl, wKK kk, (rdI I s25 w25 39 m25 g25 (nI k25) (nI l25) (nI c25) d25), L, wQQ q)) 1 rfl ?_
                      refine tv_rv rfl ⟨rfl, _, rfl, ?_, hlast⟩
                      unfold pa_part
                      try dsimp only
                      rw [if_neg (by omega), if_neg (by omega), if_neg (by omega), if_neg (by omega), if_pos (by omega)]
                      refine rdO_b (hr24) ?_
                      try dsimp only
                      rw [if_pos hb]
                      rw [if_neg hz]
                      first | exact rdO_bl (hr25) (rdO_F (hr25) ⟨(rd_F (rd_F (rd_F (rd_F hk25)))), by omega⟩ rfl) | exact rdO_F (hr25) ⟨(rd_F (rd_F (rd_F (rd_F hk25)))), by omega⟩ rfl
                    · refine tv_b (pc' := 268) (ls' := [some (.ref 57), some (.int (nI o)), some (.int (nI (pa_tk tx T p))), none]) (st' := []) (h' := (n, sl, wKK kk, (rdI I s25 w25 39 m25 g25 f25 y25 (nI c25) d25), L, wQQ q)) 1 rfl ?_
                      refine tv_rv rfl ⟨rfl, _, rfl, ?_, hlast⟩
                      unfold pa_part
                      try dsimp only
                      rw [if_neg (by omega), if_neg (by omega), if_neg (by omega), if_neg (by omega), if_pos (by omega)]
                      refine rdO_b (hr24) ?_
                      try dsimp only
                      rw [if_pos hb]
                      rw [if_neg hz]
                      first | exact rdO_bl (hr25) (rdO_F (hr25) ⟨hk25, by omega⟩ rfl) | exact rdO_F (hr25) ⟨hk25, by omega⟩ rfl
                    · have ht25 := pa_tk_lt (b := tx) (n := T) p25
                      have hg25 := pa_edo (tx := tx) (T := T) p25
                      obtain ⟨hl25, hv25⟩ := hlx _ _ hr25
                      have hj25 := pa_ed_le (b := tx) (n := T) (p := p25) hp25.1
                      obtain ⟨hq25, hz25⟩ := pa_nx_r hr25
                      have hy25 : cs25.length = 0 := by rw [hz25]; rfl
                      refine tv_b (pc' := 204) (ls' := [some (.ref 57), some (.int (nI o)), some (.int (nI (pa_tk tx T p))), none]) (st' := [.int 1, .int (nI o), .ref 57]) (h' := (n, sl, wKK kk, (rdI I (nI (pa_sk tx T p25)) (nI (pa_sk tx T p25)) (nI (pa_tk tx T p25)) m25 g25 0 (-1) (nI (ce + cs24.length + cs25.length)) (pa_wr (pa_wr cd ce cs24) (ce + cs24.length) cs25)), L, wQQ q)) 4 rfl ?_
                      refine tv_b (pc' := 205) (ls' := [some (.ref 57), some (.int (nI o)), some (.int (nI (pa_tk tx T p))), none]) (st' := [.int ((nI o) + 1), .ref 57]) (h' := (n, sl, wKK kk, (rdI I (nI (pa_sk tx T p25)) (nI (pa_sk tx T p25)) (nI (pa_tk tx T p25)) m25 g25 0 (-1) (nI (ce + cs24.length + cs25.length)) (pa_wr (pa_wr cd ce cs24) (ce + cs24.length) cs25)), L, wQQ q)) 1 rfl ?_
                      refine tv_top (show (nI o) + 1 = nI (o + 1) from nI_add o 1) ?_
                      refine tv_cv [.int (nI (o + 1))] [] rfl rfl (by omega) rfl (Nat.le_of_ble_eq_true rfl) (Nat.le_of_ble_eq_true rfl) (Or.inr (Or.inr rfl)) ((hI hz0) _ p25 _ _ _ _ (by omega) (by omega) (by omega) hn25 hl25) ?_
                      rintro rv9 h9 ⟨rfl, I9, rfl, ho, hlx⟩
                      rcases rdO_c ho with ⟨k26, l26, s26, w26, m26, g26, f26, y26, c26, d26, hr26, hk26, hc26, rfl⟩ | ⟨p26, cs26, m26, g26, hr26, hp26, hn26, rfl⟩
                      · refine tv_b (pc' := 223) (ls' := [some (.ref 57), some (.int (nI o)), some (.int (nI (pa_tk tx T p))), none]) (st' := [.int 0, .ref 57]) (h' := (n, sl, wKK kk, (rdI I s26 w26 39 m26 g26 f26 y26 (nI c26) d26), L, wQQ q)) 6 rfl ?_
                        refine tv_cvE [.int 0] [] rfl rfl (by omega) rfl (Nat.le_of_ble_eq_true rfl) (Nat.le_of_ble_eq_true rfl) (Or.inr (Or.inr rfl)) (ev_r_expectE hk26) ?_
                        refine tv_b (pc' := 229) (ls' := [some (.ref 57), some (.int (nI o)), some (.int (nI (pa_tk tx T p))), none]) (st' := [.int 1, .int (nI o), .ref 57]) (h' := (n, sl, wKK kk, (rdI I s26 w26 39 m26 g26 (nI k26) (nI l26) (nI c26) d26), L, wQQ q)) 3 rfl ?_
                        refine tv_b (pc' := 230) (ls' := [some (.ref 57), some (.int (nI o)), some (.int (nI (pa_tk tx T p))), none]) (st' := [.int ((nI o) + 1), .ref 57]) (h' := (n, sl, wKK kk, (rdI I s26 w26 39 m26 g26 (nI k26) (nI l26) (nI c26) d26), L, wQQ q)) 1 rfl ?_
                        refine tv_top (show (nI o) + 1 = nI (o + 1) from nI_add o 1) ?_
                        refine tv_cvE [.int (nI (o + 1))] [] rfl rfl (by omega) rfl (Nat.le_of_ble_eq_true rfl) (Nat.le_of_ble_eq_true rfl) (Or.inr (Or.inr rfl)) (ev_r_sumE (rd_F hk26)) ?_
                        refine tv_b (pc' := 248) (ls' := [some (.ref 57), some (.int (nI o)), some (.int (nI (pa_tk tx T p))), none]) (st' := [.int 0, .ref 57]) (h' := (n, sl, wKK kk, (rdI I s26 w26 39 m26 g26 (nI k26) (nI l26) (nI c26) d26), L, wQQ q)) 6 rfl ?_
                        refine tv_cvE [.int 0] [] rfl rfl (by omega) rfl (Nat.le_of_ble_eq_true rfl) (Nat.le_of_ble_eq_true rfl) (Or.inr (Or.inr rfl)) (ev_r_expectE (rd_F (rd_F hk26))) ?_
                        refine tv_b (pc' := 253) (ls' := [some (.ref 57), some (.int (nI o)), some (.int (nI (pa_tk tx T p))), none]) (st' := [.int (nI (pa_tk tx T p)), .ref 57]) (h' := (n, sl, wKK kk, (rdI I s26 w26 39 m26 g26 (nI k26) (nI l26) (nI c26) d26), L, wQQ q)) 2 rfl ?_
                        refine tv_cvE [.int (nI (pa_tk tx T p))] [] rfl rfl (by omega) rfl (Nat.le_of_ble_eq_true rfl) (Nat.le_of_ble_eq_true rfl) (Or.inr (Or.inr rfl)) (ev_r_emitF (rd_k (rd_F (rd_F (rd_F hk26))))) ?_
                        refine tv_b (pc' := 268) (ls' := [some (.ref 57), some (.int (nI o)), some (.int (nI (pa_tk tx T p))), none]) (st' := []) (h' := (n, sl, wKK kk, (rdI I s26 w26 39 m26 g26 (nI k26) (nI l26) (nI c26) d26), L, wQQ q)) 1 rfl ?_
                        refine tv_rv rfl ⟨rfl, _, rfl, ?_, hlast⟩
                        unfold pa_part
                        try dsimp only
                        rw [if_neg (by omega), if_neg (by omega), if_neg (by omega), if_neg (by omega), if_pos (by omega)]
                        refine rdO_b (hr24) ?_
                        try dsimp only
                        rw [if_pos hb]
                        rw [if_neg hz]
                        refine rdO_b (hr25) ?_
                        try dsimp only
                        first | exact rdO_bl (hr26) (rdO_F (hr26) ⟨(rd_F (rd_F (rd_F hk26))), by omega⟩ rfl) | exact rdO_F (hr26) ⟨(rd_F (rd_F (rd_F hk26))), by omega⟩ rfl
                      · have ht26 := pa_tk_lt (b := tx) (n := T) p26
                        have hg26 := pa_edo (tx := tx) (T := T) p26
                        obtain ⟨hl26, hv26⟩ := hlx _ _ hr26
                        have hj26 := pa_ed_le (b := tx) (n := T) (p := p26) hp26.1
                        refine tv_b (pc' := (if (nI (pa_tk tx T p26)) = 36 then 218 else 222)) (ls' := [some (.ref 57), some (.int (nI o)), some (.int (nI (pa_tk tx T p))), none]) (st' := [.ref 57]) (h' := (n, sl, wKK kk, (rdI I (nI (pa_sk tx T p26)) (nI (pa_sk tx T p26)) (nI (pa_tk tx T p26)) m26 g26 0 (-1) (nI (ce + cs24.length + cs25.length + cs26.length)) (pa_wr (pa_wr (pa_wr cd ce cs24) (ce + cs24.length) cs25) (ce + cs24.length + cs25.length) cs26)), L, wQQ q)) 5 rfl ?_
                        refine tv_ifq (nI_eq (a := (pa_tk tx T p26)) (b := 36) (by omega) (by omega)) (fun c215 => ?_) (fun c215 => ?_)
                        · refine tv_b (pc' := 223) (ls' := [some (.ref 57), some (.int (nI o)), some (.int (nI (pa_tk tx T p))), none]) (st' := [.int 1, .ref 57]) (h' := (n, sl, wKK kk, (rdI I (nI (pa_sk tx T p26)) (nI (pa_sk tx T p26)) (nI (pa_tk tx T p26)) m26 g26 0 (-1) (nI (ce + cs24.length + cs25.length + cs26.length)) (pa_wr (pa_wr (pa_wr cd ce cs24) (ce + cs24.length) cs25) (ce + cs24.length + cs25.length) cs26)), L, wQQ q)) 2 rfl ?_
                          refine tv_cv [.int 1] [] rfl rfl (by omega) rfl (Nat.le_of_ble_eq_true rfl) (Nat.le_of_ble_eq_true rfl) (Or.inr (Or.inr rfl)) (tv_r_ex1 hH (by omega) (by omega) hn26) ?_
                          rintro rv9 h9 ⟨rfl, I9, rfl, ho, hlx⟩
                          rcases rdO_c ho with ⟨k27, l27, s27, w27, m27, g27, f27, y27, c27, d27, hr27, hk27, hc27, rfl⟩ | ⟨p27, cs27, m27, g27, hr27, hp27, hn27, rfl⟩
                          · refine tv_b (pc' := 229) (ls' := [some (.ref 57), some (.int (nI o)), some (.int (nI (pa_tk tx T p))), none]) (st' := [.int 1, .int (nI o), .ref 57]) (h' := (n, sl, wKK kk, (rdI I s27 w27 39 m27 g27 f27 y27 (nI c27) d27), L, wQQ q)) 3 rfl ?_
                            refine tv_b (pc' := 230) (ls' := [some (.ref 57), some (.int (nI o)), some (.int (nI (pa_tk tx T p))), none]) (st' := [.int ((nI o) + 1), .ref 57]) (h' := (n, sl, wKK kk, (rdI I s27 w27 39 m27 g27 f27 y27 (nI c27) d27), L, wQQ q)) 1 rfl ?_
                            refine tv_top (show (nI o) + 1 = nI (o + 1) from nI_add o 1) ?_
                            refine tv_cvE [.int (nI (o + 1))] [] rfl rfl (by omega) rfl (Nat.le_of_ble_eq_true rfl) (Nat.le_of_ble_eq_true rfl) (Or.inr (Or.inr rfl)) (ev_r_sumE hk27) ?_
                            refine tv_b (pc' := 248) (ls' := [some (.ref 57), some (.int (nI o)), some (.int (nI (pa_tk tx T p))), none]) (st' := [.int 0, .ref 57]) (h' := (n, sl, wKK kk, (rdI I s27 w27 39 m27 g27 (nI k27) (nI l27) (nI c27) d27), L, wQQ q)) 6 rfl ?_
                            refine tv_cvE [.int 0] [] rfl rfl (by omega) rfl (Nat.le_of_ble_eq_true rfl) (Nat.le_of_ble_eq_true rfl) (Or.inr (Or.inr rfl)) (ev_r_expectE (rd_F hk27)) ?_
                            refine tv_b (pc' := 253) (ls' := [some (.ref 57), some (.int (nI o)), some (.int (nI (pa_tk tx T p))), none]) (st' := [.int (nI (pa_tk tx T p)), .ref 57]) (h' := (n, sl, wKK kk, (rdI I s27 w27 39 m27 g27 (nI k27) (nI l27) (nI c27) d27), L, wQQ q)) 2 rfl ?_
                            refine tv_cvE [.int (nI (pa_tk tx T p))] [] rfl rfl (by omega) rfl (Nat.le_of_ble_eq_true rfl) (Nat.le_of_ble_eq_true rfl) (Or.inr (Or.inr rfl)) (ev_r_emitF (rd_k (rd_F (rd_F hk27)))) ?_
                            refine tv_b (pc' := 268) (ls' := [some (.ref 57), some (.int (nI o)), some (.int (nI (pa_tk tx T p))), none]) (st' := []) (h' := (n, sl, wKK kk, (rdI I s27 w27 39 m27 g27 (nI k27) (nI l27) (nI c27) d27), L, wQQ q)) 1 rfl ?_
                            refine tv_rv rfl ⟨rfl, _, rfl, ?_, hlast⟩
                            unfold pa_part
                            try dsimp only
                            rw [if_neg (by omega), if_neg (by omega), if_neg (by omega), if_neg (by omega), if_pos (by omega)]
                            refine rdO_b (hr24) ?_
                            try dsimp only
                            rw [if_pos hb]
                            rw [if_neg hz]
                            refine rdO_b (hr25) ?_
                            try dsimp only
                            refine rdO_b (hr26) ?_
                            try dsimp only
                            first | exact rdO_bl ((pa_ex_t c215).trans hr27) (rdO_F ((pa_ex_t c215).trans hr27) ⟨(rd_F (rd_F hk27)), by omega⟩ rfl) | exact rdO_F ((pa_ex_t c215).trans hr27) ⟨(rd_F (rd_F hk27)), by omega⟩ rfl
                          · have ht27 := pa_tk_lt (b := tx) (n := T) p27
                            have hg27 := pa_edo (tx := tx) (T := T) p27
                            obtain ⟨hl27, hv27⟩ := hlx _ _ hr27
                            have hj27 := pa_ed_le (b := tx) (n := T) (p := p27) hp27.1
                            obtain ⟨hq27, hz27⟩ := pa_nx_r hr27
                            have hy27 : cs27.length = 0 := by rw [hz27]; rfl
                            refine tv_b (pc' := 229) (ls' := [some (.ref 57), some (.int (nI o)), some (.int (nI (pa_tk tx T p))), none]) (st' := [.int 1, .int (nI o), .ref 57]) (h' := (n, sl, wKK kk, (rdI I (nI (pa_sk tx T p27)) (nI (pa_sk tx T p27)) (nI (pa_tk tx T p27)) m27 g27 0 (-1) (nI (ce + cs24.length + cs25.length + cs26.length + cs27.length)) (pa_wr (pa_wr (pa_wr (pa_wr cd ce cs24) (ce + cs24.length) cs25) (ce + cs24.length + cs25.length) cs26) (ce + cs24.length + cs25.length + cs26.length) cs27)), L, wQQ q)) 3 rfl ?_
                            refine tv_b (pc' := 230) (ls' := [some (.ref 57), some (.int (nI o)), some (.int (nI (pa_tk tx T p))), none]) (st' := [.int ((nI o) + 1), .ref 57]) (h' := (n, sl, wKK kk, (rdI I (nI (pa_sk tx T p27)) (nI (pa_sk tx T p27)) (nI (pa_tk tx T p27)) m27 g27 0 (-1) (nI (ce + cs24.length + cs25.length + cs26.length + cs27.length)) (pa_wr (pa_wr (pa_wr (pa_wr cd ce cs24) (ce + cs24.length) cs25) (ce + cs24.length + cs25.length) cs26) (ce + cs24.length + cs25.length + cs26.length) cs27)), L, wQQ q)) 1 rfl ?_
                            refine tv_top (show (nI o) + 1 = nI (o + 1) from nI_add o 1) ?_
                            refine tv_cv [.int (nI (o + 1))] [] rfl rfl (by omega) rfl (Nat.le_of_ble_eq_true rfl) (Nat.le_of_ble_eq_true rfl) (Or.inr (Or.inr rfl)) ((hI hz0) _ p27 _ _ _ _ (by omega) (by omega) (by omega) hn27 hl27) ?_
                            rintro rv9 h9 ⟨rfl, I9, rfl, ho, hlx⟩
                            rcases rdO_c ho with ⟨k28, l28, s28, w28, m28, g28, f28, y28, c28, d28, hr28, hk28, hc28, rfl⟩ | ⟨p28, cs28, m28, g28, hr28, hp28, hn28, rfl⟩
                            · refine tv_b (pc' := 248) (ls' := [some (.ref 57), some (.int (nI o)), some (.int (nI (pa_tk tx T p))), none]) (st' := [.int 0, .ref 57]) (h' := (n, sl, wKK kk, (rdI I s28 w28 39 m28 g28 f28 y28 (nI c28) d28), L, wQQ q)) 6 rfl ?_
                              refine tv_cvE [.int 0] [] rfl rfl (by omega) rfl (Nat.le_of_ble_eq_true rfl) (Nat.le_of_ble_eq_true rfl) (Or.inr (Or.inr rfl)) (ev_r_expectE hk28) ?_
                              refine tv_b (pc' := 253) (ls' := [some (.ref 57), some (.int (nI o)), some (.int (nI (pa_tk tx T p))), none]) (st' := [.int (nI (pa_tk tx T p)), .ref 57]) (h' := (n, sl, wKK kk, (rdI I s28 w28 39 m28 g28 (nI k28) (nI l28) (nI c28) d28), L, wQQ q)) 2 rfl ?_
                              refine tv_cvE [.int (nI (pa_tk tx T p))] [] rfl rfl (by omega) rfl (Nat.le_of_ble_eq_true rfl) (Nat.le_of_ble_eq_true rfl) (Or.inr (Or.inr rfl)) (ev_r_emitF (rd_k (rd_F hk28))) ?_
                              refine tv_b (pc' := 268) (ls' := [some (.ref 57), some (.int (nI o)), some (.int (nI (pa_tk tx T p))), none]) (st' := []) (h' := (n, sl, wKK kk, (rdI I s28 w28 39 m28 g28 (nI k28) (nI l28) (nI c28) d28), L, wQQ q)) 1 rfl ?_
                              refine tv_rv rfl ⟨rfl, _, rfl, ?_, hlast⟩
                              unfold pa_part
                              try dsimp only
                              rw [if_neg (by omega), if_neg (by omega), if_neg (by omega), if_neg (by omega), if_pos (by omega)]
                              refine rdO_b (hr24) ?_
                              try dsimp only
                              rw [if_pos hb]
                              rw [if_neg hz]
                              refine rdO_b (hr25) ?_
                              try dsimp only
                              refine rdO_b (hr26) ?_
                              try dsimp only
                              refine rdO_b ((pa_ex_t c215).trans hr27) ?_
                              try dsimp only
                              first | exact rdO_bl (hr28) (rdO_F (hr28) ⟨(rd_F hk28), by omega⟩ rfl) | exact rdO_F (hr28) ⟨(rd_F hk28), by omega⟩ rfl
                            · have ht28 := pa_tk_lt (b := tx) (n := T) p28
                              have hg28 := pa_edo (tx := tx) (T := T) p28
                              obtain ⟨hl28, hv28⟩ := hlx _ _ hr28
                              have hj28 := pa_ed_le (b := tx) (n := T) (p := p28) hp28.1
                              refine tv_b (pc' := (if (nI (pa_tk tx T p28)) = 33 then 243 else 247)) (ls' := [some (.ref 57), some (.int (nI o)), some (.int (nI (pa_tk tx T p))), none]) (st' := [.ref 57]) (h' := (n, sl, wKK kk, (rdI I (nI (pa_sk tx T p28)) (nI (pa_sk tx T p28)) (nI (pa_tk tx T p28)) m28 g28 0 (-1) (nI (ce + cs24.length + cs25.length + cs26.length + cs27.length + cs28.length)) (pa_wr (pa_wr (pa_wr (pa_wr (pa_wr cd ce cs24) (ce + cs24.length) cs25) (ce + cs24.length + cs25.length) cs26) (ce + cs24.length + cs25.length + cs26.length) cs27) (ce + cs24.length + cs25.length + cs26.length + cs27.length) cs28)), L, wQQ q)) 5 rfl ?_
                              refine tv_ifq (nI_eq (a := (pa_tk tx T p28)) (b := 33) (by omega) (by omega)) (fun c240 => ?_) (fun c240 => ?_)
                              · refine tv_b (pc' := 248) (ls' := [some (.ref 57), some (.int (nI o)), some (.int (nI (pa_tk tx T p))), none]) (st' := [.int 1, .ref 57]) (h' := (n, sl, wKK kk, (rdI I (nI (pa_sk tx T p28)) (nI (pa_sk tx T p28)) (nI (pa_tk tx T p28)) m28 g28 0 (-1) (nI (ce + cs24.length + cs25.length + cs26.length + cs27.length + cs28.length)) (pa_wr (pa_wr (pa_wr (pa_wr (pa_wr cd ce cs24) (ce + cs24.length) cs25) (ce + cs24.length + cs25.length) cs26) (ce + cs24.length + cs25.length + cs26.length) cs27) (ce + cs24.length + cs25.length + cs26.length + cs27.length) cs28)), L, wQQ q)) 2 rfl ?_
                                refine tv_cv [.int 1] [] rfl rfl (by omega) rfl (Nat.le_of_ble_eq_true rfl) (Nat.le_of_ble_eq_true rfl) (Or.inr (Or.inr rfl)) (tv_r_ex1 hH (by omega) (by omega) hn28) ?_
                                rintro rv9 h9 ⟨rfl, I9, rfl, ho, hlx⟩
                                rcases rdO_c ho with ⟨k29, l29, s29, w29, m29, g29, f29, y29, c29, d29, hr29, hk29, hc29, rfl⟩ | ⟨p29, cs29, m29, g29, hr29, hp29, hn29, rfl⟩
                                · refine tv_b (pc' := 253) (ls' := [some (.ref 57), some (.int (nI o)), some (.int (nI (pa_tk tx T p))), none]) (st' := [.int (nI (pa_tk tx T p)), .ref 57]) (h' := (n, sl, wKK kk, (rdI I s29 w29 39 m29 g29 f29 y29 (nI c29) d29), L, wQQ q)) 2 rfl ?_
                                  refine tv_cv [.int (nI (pa_tk tx T p))] [] rfl rfl (by omega) rfl (Nat.le_of_ble_eq_true rfl) (Nat.le_of_ble_eq_true rfl) (Or.inr (Or.inr rfl)) (tv_r_emitE hk29 (by omega)) ?_
                                  rintro rv9 h9 ⟨rfl, e7, b7, hb7, rfl⟩
                                  refine tv_b (pc' := 268) (ls' := [some (.ref 57), some (.int (nI o)), some (.int (nI (pa_tk tx T p))), none]) (st' := []) (h' := (n, sl, wKK kk, (rdI I s29 w29 39 m29 g29 f29 y29 (nI e7) b7), L, wQQ q)) 1 rfl ?_
                                  refine tv_rv rfl ⟨rfl, _, rfl, ?_, hlast⟩
                                  unfold pa_part
                                  try dsimp only
                                  rw [if_neg (by omega), if_neg (by omega), if_neg (by omega), if_neg (by omega), if_pos (by omega)]
                                  refine rdO_b (hr24) ?_
                                  try dsimp only
                                  rw [if_pos hb]
                                  rw [if_neg hz]
                                  refine rdO_b (hr25) ?_
                                  try dsimp only
                                  refine rdO_b (hr26) ?_
                                  try dsimp only
                                  refine rdO_b ((pa_ex_t c215).trans hr27) ?_
                                  try dsimp only
                                  refine rdO_b (hr28) ?_
                                  try dsimp only
                                  first | exact rdO_bl ((pa_ex_t c240).trans hr29) (rdO_F ((pa_ex_t c240).trans hr29) ⟨hk29, by omega⟩ rfl) | exact rdO_F ((pa_ex_t c240).trans hr29) ⟨hk29, by omega⟩ rfl
                                · have ht29 := pa_tk_lt (b := tx) (n := T) p29
                                  have hg29 := pa_edo (tx := tx) (T := T) p29
                                  obtain ⟨hl29, hv29⟩ := hlx _ _ hr29
                                  have hj29 := pa_ed_le (b := tx) (n := T) (p := p29) hp29.1
                                  obtain ⟨hq29, hz29⟩ := pa_nx_r hr29
                                  have hy29 : cs29.length = 0 := by rw [hz29]; rfl
                                  refine tv_b (pc' := 253) (ls' := [some (.ref 57), some (.int (nI o)), some (.int (nI (pa_tk tx T p))), none]) (st' := [.int (nI (pa_tk tx T p)), .ref 57]) (h' := (n, sl, wKK kk, (rdI I (nI (pa_sk tx T p29)) (nI (pa_sk tx T p29)) (nI (pa_tk tx T p29)) m29 g29 0 (-1) (nI (ce + cs24.length + cs25.length + cs26.length + cs27.length + cs28.length + cs29.length)) (pa_wr (pa_wr (pa_wr (pa_wr (pa_wr (pa_wr cd ce cs24) (ce + cs24.length) cs25) (ce + cs24.length + cs25.length) cs26) (ce + cs24.length + cs25.length + cs26.length) cs27) (ce + cs24.length + cs25.length + cs26.length + cs27.length) cs28) (ce + cs24.length + cs25.length + cs26.length + cs27.length + cs28.length) cs29)), L, wQQ q)) 2 rfl ?_
                                  refine tv_cvE [.int (nI (pa_tk tx T p))] [] rfl rfl (by omega) rfl (Nat.le_of_ble_eq_true rfl) (Nat.le_of_ble_eq_true rfl) (Or.inr (Or.inr rfl)) (ev_r_emit (by omega)) ?_
                                  refine tv_b (pc' := 268) (ls' := [some (.ref 57), some (.int (nI o)), some (.int (nI (pa_tk tx T p))), none]) (st' := []) (h' := (n, sl, wKK kk, (rdI I (nI (pa_sk tx T p29)) (nI (pa_sk tx T p29)) (nI (pa_tk tx T p29)) m29 g29 0 (-1) (nI (ce + cs24.length + cs25.length + cs26.length + cs27.length + cs28.length + cs29.length + 1)) (upd (pa_wr (pa_wr (pa_wr (pa_wr (pa_wr (pa_wr cd ce cs24) (ce + cs24.length) cs25) (ce + cs24.length + cs25.length) cs26) (ce + cs24.length + cs25.length + cs26.length) cs27) (ce + cs24.length + cs25.length + cs26.length + cs27.length) cs28) (ce + cs24.length + cs25.length + cs26.length + cs27.length + cs28.length) cs29) (ce + cs24.length + cs25.length + cs26.length + cs27.length + cs28.length + cs29.length) (nI (pa_tk tx T p)))), L, wQQ q)) 1 rfl ?_
                                  refine tv_rv rfl ⟨rfl, _, rfl, ?_, hlast⟩
                                  unfold pa_part
                                  try dsimp only
                                  rw [if_neg (by omega), if_neg (by omega), if_neg (by omega), if_neg (by omega), if_pos (by omega)]
                                  refine rdO_b (hr24) ?_
                                  try dsimp only
                                  rw [if_pos hb]
                                  rw [if_neg hz]
                                  refine rdO_b (hr25) ?_
                                  try dsimp only
                                  refine rdO_b (hr26) ?_
                                  try dsimp only
                                  refine rdO_b ((pa_ex_t c215).trans hr27) ?_
                                  try dsimp only
                                  refine rdO_b (hr28) ?_
                                  try dsimp only
                                  refine rdO_b ((pa_ex_t c240).trans hr29) ?_
                                  try dsimp only
                                  exact rdO_em ⟨by omega, by omega⟩ hn29 rfl
                              · refine tv_b (pc' := 248) (ls' := [some (.ref 57), some (.int (nI o)), some (.int (nI (pa_tk tx T p))), none]) (st' := [.int 0, .ref 57]) (h' := (n, sl, wKK kk, (rdI I (nI (pa_sk tx T p28)) (nI (pa_sk tx T p28)) (nI (pa_tk tx T p28)) m28 g28 0 (-1) (nI (ce + cs24.length + cs25.length + cs26.length + cs27.length + cs28.length)) (pa_wr (pa_wr (pa_wr (pa_wr (pa_wr cd ce cs24) (ce + cs24.length) cs25) (ce + cs24.length + cs25.length) cs26) (ce + cs24.length + cs25.length + cs26.length) cs27) (ce + cs24.length + cs25.length + cs26.length + cs27.length) cs28)), L, wQQ q)) 1 rfl ?_
                                refine tv_cvE [.int 0] [] rfl rfl (by omega) rfl (Nat.le_of_ble_eq_true rfl) (Nat.le_of_ble_eq_true rfl) (Or.inr (Or.inr rfl)) (ev_r_ex0) ?_
                                refine tv_b (pc' := 253) (ls' := [some (.ref 57), some (.int (nI o)), some (.int (nI (pa_tk tx T p))), none]) (st' := [.int (nI (pa_tk tx T p)), .ref 57]) (h' := (n, sl, wKK kk, (rdI I (nI (pa_sk tx T p28)) (nI (pa_sk tx T p28)) 39 m28 g28 1 (nI (pa_sk tx T p28)) (nI (ce + cs24.length + cs25.length + cs26.length + cs27.length + cs28.length)) (pa_wr (pa_wr (pa_wr (pa_wr (pa_wr cd ce cs24) (ce + cs24.length) cs25) (ce + cs24.length + cs25.length) cs26) (ce + cs24.length + cs25.length + cs26.length) cs27) (ce + cs24.length + cs25.length + cs26.length + cs27.length) cs28)), L, wQQ q)) 2 rfl ?_
                                refine tv_cvE [.int (nI (pa_tk tx T p))] [] rfl rfl (by omega) rfl (Nat.le_of_ble_eq_true rfl) (Nat.le_of_ble_eq_true rfl) (Or.inr (Or.inr rfl)) (ev_r_emitF (rd_k (rd_L (k := 1) (l := pa_sk tx T p28) (w := nI (pa_sk tx T p28)) (xf := 1) (by decide) rfl))) ?_
                                refine tv_b (pc' := 268) (ls' := [some (.ref 57), some (.int (nI o)), some (.int (nI (pa_tk tx T p))), none]) (st' := []) (h' := (n, sl, wKK kk, (rdI I (nI (pa_sk tx T p28)) (nI (pa_sk tx T p28)) 39 m28 g28 1 (nI (pa_sk tx T p28)) (nI (ce + cs24.length + cs25.length + cs26.length + cs27.length + cs28.length)) (pa_wr (pa_wr (pa_wr (pa_wr (pa_wr cd ce cs24) (ce + cs24.length) cs25) (ce + cs24.length + cs25.length) cs26) (ce + cs24.length + cs25.length + cs26.length) cs27) (ce + cs24.length + cs25.length + cs26.length + cs27.length) cs28)), L, wQQ q)) 1 rfl ?_
                                refine tv_rv rfl ⟨rfl, _, rfl, ?_, hlast⟩
                                unfold pa_part
                                try dsimp only
                                rw [if_neg (by omega), if_neg (by omega), if_neg (by omega), if_neg (by omega), if_pos (by omega)]
                                refine rdO_b (hr24) ?_
                                try dsimp only
                                rw [if_pos hb]
                                rw [if_neg hz]
                                refine rdO_b (hr25) ?_
                                try dsimp only
                                refine rdO_b (hr26) ?_
                                try dsimp only
                                refine rdO_b ((pa_ex_t c215).trans hr27) ?_
                                try dsimp only
                                refine rdO_b (hr28) ?_
                                try dsimp only
                                first | exact rdO_F ((pa_ex_f c240)) ⟨(rd_L (k := 1) (l := pa_sk tx T p28) (w := nI (pa_sk tx T p28)) (xf := 1) (by decide) rfl), by omega⟩ rfl | exact rdO_bl ((pa_ex_f c240)) (rdO_F ((pa_ex_f c240)) ⟨(rd_L (k := 1) (l := pa_sk tx T p28) (w := nI (pa_sk tx T p28)) (xf := 1) (by decide) rfl), by omega⟩ rfl)
                        · refine tv_b (pc' := 223) (ls' := [some (.ref 57), some (.int (nI o)), some (.int (nI (pa_tk tx T p))), none]) (st' := [.int 0, .ref 57]) (h' := (n, sl, wKK kk, (rdI I (nI (pa_sk tx T p26)) (nI (pa_sk tx T p26)) (nI (pa_tk tx T p26)) m26 g26 0 (-1) (nI (ce + cs24.length + cs25.length + cs26.length)) (pa_wr (pa_wr (pa_wr cd ce cs24) (ce + cs24.length) cs25) (ce + cs24.length + cs25.length) cs26)), L, wQQ q)) 1 rfl ?_
                          refine tv_cvE [.int 0] [] rfl rfl (by omega) rfl (Nat.le_of_ble_eq_true rfl) (Nat.le_of_ble_eq_true rfl) (Or.inr (Or.inr rfl)) (ev_r_ex0) ?_
                          refine tv_b (pc' := 229) (ls' := [some (.ref 57), some (.int (nI o)), some (.int (nI (pa_tk tx T p))), none]) (st' := [.int 1, .int (nI o), .ref 57]) (h' := (n, sl, wKK kk, (rdI I (nI (pa_sk tx T p26)) (nI (pa_sk tx T p26)) 39 m26 g26 1 (nI (pa_sk tx T p26)) (nI (ce + cs24.length + cs25.length + cs26.length)) (pa_wr (pa_wr (pa_wr cd ce cs24) (ce + cs24.length) cs25) (ce + cs24.length + cs25.length) cs26)), L, wQQ q)) 3 rfl ?_
                          refine tv_b (pc' := 230) (ls' := [some (.ref 57), some (.int (nI o)), some (.int (nI (pa_tk tx T p))), none]) (st' := [.int ((nI o) + 1), .ref 57]) (h' := (n, sl, wKK kk, (rdI I (nI (pa_sk tx T p26)) (nI (pa_sk tx T p26)) 39 m26 g26 1 (nI (pa_sk tx T p26)) (nI (ce + cs24.length + cs25.length + cs26.length)) (pa_wr (pa_wr (pa_wr cd ce cs24) (ce + cs24.length) cs25) (ce + cs24.length + cs25.length) cs26)), L, wQQ q)) 1 rfl ?_
                          refine tv_top (show (nI o) + 1 = nI (o + 1) from nI_add o 1) ?_
                          refine tv_cvE [.int (nI (o + 1))] [] rfl rfl (by omega) rfl (Nat.le_of_ble_eq_true rfl) (Nat.le_of_ble_eq_true rfl) (Or.inr (Or.inr rfl)) (ev_r_sumE (rd_L (k := 1) (l := pa_sk tx T p26) (w := nI (pa_sk tx T p26)) (xf := 1) (by decide) rfl)) ?_
                          refine tv_b (pc' := 248) (ls' := [some (.ref 57), some (.int (nI o)), some (.int (nI (pa_tk tx T p))), none]) (st' := [.int 0, .ref 57]) (h' := (n, sl, wKK kk, (rdI I (nI (pa_sk tx T p26)) (nI (pa_sk tx T p26)) 39 m26 g26 (nI 1) (nI (pa_sk tx T p26)) (nI (ce + cs24.length + cs25.length + cs26.length)) (pa_wr (pa_wr (pa_wr cd ce cs24) (ce + cs24.length) cs25) (ce + cs24.length + cs25.length) cs26)), L, wQQ q)) 6 rfl ?_
                          refine tv_cvE [.int 0] [] rfl rfl (by omega) rfl (Nat.le_of_ble_eq_true rfl) (Nat.le_of_ble_eq_true rfl) (Or.inr (Or.inr rfl)) (ev_r_expectE (rd_F (rd_L (k := 1) (l := pa_sk tx T p26) (w := nI (pa_sk tx T p26)) (xf := 1) (by decide) rfl))) ?_
                          refine tv_b (pc' := 253) (ls' := [some (.ref 57), some (.int (nI o)), some (.int (nI (pa_tk tx T p))), none]) (st' := [.int (nI (pa_tk tx T p)), .ref 57]) (h' := (n, sl, wKK kk, (rdI I (nI (pa_sk tx T p26)) (nI (pa_sk tx T p26)) 39 m26 g26 (nI 1) (nI (pa_sk tx T p26)) (nI (ce + cs24.length + cs25.length + cs26.length)) (pa_wr (pa_wr (pa_wr cd ce cs24) (ce + cs24.length) cs25) (ce + cs24.length + cs25.length) cs26)), L, wQQ q)) 2 rfl ?_
                          refine tv_cvE [.int (nI (pa_tk tx T p))] [] rfl rfl (by omega) rfl (Nat.le_of_ble_eq_true rfl) (Nat.le_of_ble_eq_true rfl) (Or.inr (Or.inr rfl)) (ev_r_emitF (rd_k (rd_F (rd_F (rd_L (k := 1) (l := pa_sk tx T p26) (w := nI (pa_sk tx T p26)) (xf := 1) (by decide) rfl))))) ?_
                          refine tv_b (pc' := 268) (ls' := [some (.ref 57), some (.int (nI o)), some (.int (nI (pa_tk tx T p))), none]) (st' := []) (h' := (n, sl, wKK kk, (rdI I (nI (pa_sk tx T p26)) (nI (pa_sk tx T p26)) 39 m26 g26 (nI 1) (nI (pa_sk tx T p26)) (nI (ce + cs24.length + cs25.length + cs26.length)) (pa_wr (pa_wr (pa_wr cd ce cs24) (ce + cs24.length) cs25) (ce + cs24.length + cs25.length) cs26)), L, wQQ q)) 1 rfl ?_
                          refine tv_rv rfl ⟨rfl, _, rfl, ?_, hlast⟩
                          unfold pa_part
                          try dsimp only
                          rw [if_neg (by omega), if_neg (by omega), if_neg (by omega), if_neg (by omega), if_pos (by omega)]
                          refine rdO_b (hr24) ?_
                          try dsimp only
                          rw [if_pos hb]
                          rw [if_neg hz]
                          refine rdO_b (hr25) ?_
                          try dsimp only
                          refine rdO_b (hr26) ?_
                          try dsimp only
                          first | exact rdO_F ((pa_ex_f c215)) ⟨(rd_F (rd_F (rd_L (k := 1) (l := pa_sk tx T p26) (w := nI (pa_sk tx T p26)) (xf := 1) (by decide) rfl))), by omega⟩ rfl | exact rdO_bl ((pa_ex_f c215)) (rdO_F ((pa_ex_f c215)) ⟨(rd_F (rd_F (rd_L (k := 1) (l := pa_sk tx T p26) (w := nI (pa_sk tx T p26)) (xf := 1) (by decide) rfl))), by omega⟩ rfl)
                  · refine tv_b (pc' := 195) (ls' := [some (.ref 57), some (.int (nI o)), some (.int (nI (pa_tk tx T p))), none]) (st' := [.int (nI o), .int 32, .ref 57]) (h' := (n, sl, wKK kk, (rdI I (nI (pa_sk tx T p24)) (nI (pa_sk tx T p24)) (nI (pa_tk tx T p24)) m24 g24 0 (-1) (nI (ce + cs24.length)) (pa_wr cd ce cs24)), L, wQQ q)) 3 rfl ?_
                    refine tv_cvE [.int 32, .int (nI o)] [] rfl rfl (by omega) rfl (Nat.le_of_ble_eq_true rfl) (Nat.le_of_ble_eq_true rfl) (Or.inr (Or.inr rfl)) (ev_r_op1_32 hb (by omega)) ?_
                    refine tv_b (pc' := 268) (ls' := [some (.ref 57), some (.int (nI o)), some (.int (nI (pa_tk tx T p))), none]) (st' := []) (h' := (n, sl, wKK kk, (rdI I (nI (pa_sk tx T p24)) (nI (pa_sk tx T p24)) 39 m24 g24 1 (nI (pa_sk tx T p24)) (nI (ce + cs24.length)) (pa_wr cd ce cs24)), L, wQQ q)) 1 rfl ?_
                    refine tv_rv rfl ⟨rfl, _, rfl, ?_, hlast⟩
                    unfold pa_part
                    try dsimp only
                    rw [if_neg (by omega), if_neg (by omega), if_neg (by omega), if_neg (by omega), if_pos (by omega)]
                    refine rdO_b (hr24) ?_
                    try dsimp only
                    rw [if_neg hb]
                    first | exact rdO_F (rfl) ⟨(rd_L (k := 1) (l := pa_sk tx T p24) (w := nI (pa_sk tx T p24)) (xf := 1) (by decide) rfl), by omega⟩ rfl | exact rdO_bl (rfl) (rdO_F (rfl) ⟨(rd_L (k := 1) (l := pa_sk tx T p24) (w := nI (pa_sk tx T p24)) (xf := 1) (by decide) rfl), by omega⟩ rfl)
              · refine tv_b (pc' := (if (nI (pa_tk tx T p)) = 20 then 187 else 259)) (ls' := [some (.ref 57), some (.int (nI o)), some (.int (nI (pa_tk tx T p))), none]) (st' := []) (h' := (n, sl, wKK kk, (rdI I (nI (pa_sk tx T p)) (nI (pa_sk tx T p)) (nI (pa_tk tx T p)) nm gn 0 (-1) (nI ce) cd), L, wQQ q)) 3 rfl ?_
                refine tv_ifq (nI_eq (a := (pa_tk tx T p)) (b := 20) (by omega) (by omega)) (fun c184 => ?_) (fun c184 => ?_)
                · refine tv_b (pc' := 188) (ls' := [some (.ref 57), some (.int (nI o)), some (.int (nI (pa_tk tx T p))), none]) (st' := [.ref 57]) (h' := (n, sl, wKK kk, (rdI I (nI (pa_sk tx T p)) (nI (pa_sk tx T p)) (nI (pa_tk tx T p)) nm gn 0 (-1) (nI ce) cd), L, wQQ q)) 1 rfl ?_
                  refine tv_cv [] [] rfl rfl (by omega) rfl (Nat.le_of_ble_eq_true rfl) (Nat.le_of_ble_eq_true rfl) (Or.inr (Or.inr rfl)) (tv_r_nx hH (by omega) (by omega) hnm) ?_
                  rintro rv9 h9 ⟨rfl, I9, rfl, ho, hlx⟩
                  rcases rdO_c ho with ⟨k30, l30, s30, w30, m30, g30, f30, y30, c30, d30, hr30, hk30, hc30, rfl⟩ | ⟨p30, cs30, m30, g30, hr30, hp30, hn30, rfl⟩
                  · refine tv_b (pc' := 195) (ls' := [some (.ref 57), some (.int (nI o)), some (.int (nI (pa_tk tx T p))), none]) (st' := [.int (nI o), .int 32, .ref 57]) (h' := (n, sl, wKK kk, (rdI I s30 w30 39 m30 g30 f30 y30 (nI c30) d30), L, wQQ q)) 3 rfl ?_
                    refine tv_cvE [.int 32, .int (nI o)] [] rfl rfl (by omega) rfl (Nat.le_of_ble_eq_true rfl) (Nat.le_of_ble_eq_true rfl) (Or.inr (Or.inr rfl)) (ev_r_opensE32 hk30) ?_
                    refine tv_b (pc' := 268) (ls' := [some (.ref 57), some (.int (nI o)), some (.int (nI (pa_tk tx T p))), none]) (st' := []) (h' := (n, sl, wKK kk, (rdI I s30 w30 39 m30 g30 (nI k30) (nI l30) (nI c30) d30), L, wQQ q)) 1 rfl ?_
                    refine tv_rv rfl ⟨rfl, _, rfl, ?_, hlast⟩
                    unfold pa_part
                    try dsimp only
                    rw [if_neg (by omega), if_neg (by omega), if_neg (by omega), if_neg (by omega), if_pos (by omega)]
                    first | exact rdO_bl (hr30) (rdO_F (hr30) ⟨(rd_F hk30), by omega⟩ rfl) | exact rdO_F (hr30) ⟨(rd_F hk30), by omega⟩ rfl
                  · have ht30 := pa_tk_lt (b := tx) (n := T) p30
                    have hg30 := pa_edo (tx := tx) (T := T) p30
                    obtain ⟨hl30, hv30⟩ := hlx _ _ hr30
                    have hj30 := pa_ed_le (b := tx) (n := T) (p := p30) hp30.1
                    obtain ⟨hq30, hz30⟩ := pa_nx_r hr30
                    have hy30 : cs30.length = 0 := by rw [hz30]; rfl
                    by_cases hb : pa_tk tx T p30 = 32
                    · refine tv_b (pc' := 195) (ls' := [some (.ref 57), some (.int (nI o)), some (.int (nI (pa_tk tx T p))), none]) (st' := [.int (nI o), .int 32, .ref 57]) (h' := (n, sl, wKK kk, (rdI I (nI (pa_sk tx T p30)) (nI (pa_sk tx T p30)) (nI (pa_tk tx T p30)) m30 g30 0 (-1) (nI (ce + cs30.length)) (pa_wr cd ce cs30)), L, wQQ q)) 3 rfl ?_
                      refine tv_cv [.int 32, .int (nI o)] [] rfl rfl (by omega) rfl (Nat.le_of_ble_eq_true rfl) (Nat.le_of_ble_eq_true rfl) (Or.inr (Or.inr rfl)) (tv_r_op_32 hH (by omega) (by omega) hb (by omega) hn30) ?_
                      rintro rv9 h9 ⟨hv1, hv2, I9, rfl, ho, hlx⟩
                      rcases rdO_d hv1 hv2 ho with ⟨k31, l31, s31, w31, m31, g31, f31, y31, c31, d31, hr31, hk31, hc31, rfl, rfl⟩ | ⟨k31, l31, s31, w31, m31, g31, f31, y31, c31, d31, hr31, hk31, hc31, rfl, rfl⟩ | ⟨p31, cs31, m31, g31, hr31, hp31, hn31, rfl, rfl⟩
                      · refine tv_b (pc' := 204) (ls' := [some (.ref 57), some (.int (nI o)), some (.int (nI (pa_tk tx T p))), none]) (st' := [.int 1, .int (nI o), .ref 57]) (h' := (n, sl, wKK kk, (rdI I s31 w31 39 m31 g31 f31 y31 (nI c31) d31), L, wQQ q)) 4 rfl ?_
                        refine tv_b (pc' := 205) (ls' := [some (.ref 57), some (.int (nI o)), some (.int (nI (pa_tk tx T p))), none]) (st' := [.int ((nI o) + 1), .ref 57]) (h' := (n, sl, wKK kk, (rdI I s31 w31 39 m31 g31 f31 y31 (nI c31) d31), L, wQQ q)) 1 rfl ?_
                        refine tv_top (show (nI o) + 1 = nI (o + 1) from nI_add o 1) ?_
                        refine tv_cvE [.int (nI (o + 1))] [] rfl rfl (by omega) rfl (Nat.le_of_ble_eq_true rfl) (Nat.le_of_ble_eq_true rfl) (Or.inr (Or.inr rfl)) (ev_r_sumE hk31) ?_
                        refine tv_b (pc' := 223) (ls' := [some (.ref 57), some (.int (nI o)), some (.int (nI (pa_tk tx T p))), none]) (st' := [.int 0, .ref 57]) (h' := (n, sl, wKK kk, (rdI I s31 w31 39 m31 g31 (nI k31) (nI l31) (nI c31) d31), L, wQQ q)) 6 rfl ?_
                        refine tv_cvE [.int 0] [] rfl rfl (by omega) rfl (Nat.le_of_ble_eq_true rfl) (Nat.le_of_ble_eq_true rfl) (Or.inr (Or.inr rfl)) (ev_r_expectE (rd_F hk31)) ?_
                        refine tv_b (pc' := 229) (ls' := [some (.ref 57), some (.int (nI o)), some (.int (nI (pa_tk tx T p))), none]) (st' := [.int 1, .int (nI o), .ref 57]) (h' := (n, sl, wKK kk, (rdI I s31 w31 39 m31 g31 (nI k31) (nI l31) (nI c31) d31), L, wQQ q)) 3 rfl ?_
                        refine tv_b (pc' := 230) (ls' := [some (.ref 57), some (.int (nI o)), some (.int (nI (pa_tk tx T p))), none]) (st' := [.int ((nI o) + 1), .ref 57]) (h' := (n, sl, wKK kk, (rdI I s31 w31 39 m31 g31 (nI k31) (nI l31) (nI c31) d31), L, wQQ q)) 1 rfl ?_
                        refine tv_top (show (nI o) + 1 = nI (o + 1) from nI_add o 1) ?_
                        refine tv_cvE [.int (nI (o + 1))] [] rfl rfl (by omega) rfl (Nat.le_of_ble_eq_true rfl) (Nat.le_of_ble_eq_true rfl) (Or.inr (Or.inr rfl)) (ev_r_sumE (rd_F (rd_F hk31))) ?_
                        refine tv_b (pc' := 248) (ls' := [some (.ref 57), some (.int (nI o)), some (.int (nI (pa_tk tx T p))), none]) (st' := [.int 0, .ref 57]) (h' := (n, sl, wKK kk, (rdI I s31 w31 39 m31 g31 (nI k31) (nI l31) (nI c31) d31), L, wQQ q)) 6 rfl ?_
                        refine tv_cvE [.int 0] [] rfl rfl (by omega) rfl (Nat.le_of_ble_eq_true rfl) (Nat.le_of_ble_eq_true rfl) (Or.inr (Or.inr rfl)) (ev_r_expectE (rd_F (rd_F (rd_F hk31)))) ?_
                        refine tv_b (pc' := 253) (ls' := [some (.ref 57), some (.int (nI o)), some (.int (nI (pa_tk tx T p))), none]) (st' := [.int (nI (pa_tk tx T p)), .ref 57]) (h' := (n, sl, wKK kk, (rdI I s31 w31 39 m31 g31 (nI k31) (nI l31) (nI c31) d31), L, wQQ q)) 2 rfl ?_
                        refine tv_cvE [.int (nI (pa_tk tx T p))] [] rfl rfl (by omega) rfl (Nat.le_of_ble_eq_true rfl) (Nat.le_of_ble_eq_true rfl) (Or.inr (Or.inr rfl)) (ev_r_emitF (rd_k (rd_F (rd_F (rd_F (rd_F hk31)))))) ?_
                        refine tv_b (pc' := 268) (ls' := [some (.ref 57), some (.int (nI o)), some (.int (nI (pa_tk tx T p))), none]) (st' := []) (h' := (n, sl, wKK kk, (rdI I s31 w31 39 m31 g31 (nI k31) (nI l31) (nI c31) d31), L, wQQ q)) 1 rfl ?_
                        refine tv_rv rfl ⟨rfl, _, rfl, ?_, hlast⟩
                        unfold pa_part
                        try dsimp only
                        rw [if_neg (by omega), if_neg (by omega), if_neg (by omega), if_neg (by omega), if_pos (by omega)]
                        refine rdO_b (hr30) ?_
                        try dsimp only
                        rw [if_pos hb]
                        rw [if_neg hz]
                        first | exact rdO_bl (hr31) (rdO_F (hr31) ⟨(rd_F (rd_F (rd_F (rd_F hk31)))), by omega⟩ rfl) | exact rdO_F (hr31) ⟨(rd_F (rd_F (rd_F (rd_F hk31)))), by omega⟩ rfl
                      · refine tv_b (pc' := 268) (ls' := [some (.ref 57), some (.int (nI o)), some (.int (nI (pa_tk tx T p))), none]) (st' := []) (h' := (n, sl, wKK kk, (rdI I s31 w31 39 m31 g31 f31 y31 (nI c31) d31), L, wQQ q)) 1 rfl ?_
                        refine tv_rv rfl ⟨rfl, _, rfl, ?_, hlast⟩
                        unfold pa_part
                        try dsimp only
                        rw [if_neg (by omega), if_neg (by omega), if_neg (by omega), if_neg (by omega), if_pos (by omega)]
                        refine rdO_b (hr30) ?_
                        try dsimp only
                        rw [if_pos hb]
                        rw [if_neg hz]
                        first | exact rdO_bl (hr31) (rdO_F (hr31) ⟨hk31, by omega⟩ rfl) | exact rdO_F (hr31) ⟨hk31, by omega⟩ rfl
                      · have ht31 := pa_tk_lt (b := tx) (n := T) p31
                        have hg31 := pa_edo (tx := tx) (T := T) p31
                        obtain ⟨hl31, hv31⟩ := hlx _ _ hr31
                        have hj31 := pa_ed_le (b := tx) (n := T) (p := p31) hp31.1
                        obtain ⟨hq31, hz31⟩ := pa_nx_r hr31
                        have hy31 : cs31.length = 0 := by rw [hz31]; rfl
                        refine tv_b (pc' := 204) (ls' := [some (.ref 57), some (.int (nI o)), some (.int (nI (pa_tk tx T p))), none]) (st' := [.int 1, .int (nI o), .ref 57]) (h' := (n, sl, wKK kk, (rdI I (nI (pa_sk tx T p31)) (nI (pa_sk tx T p31)) (nI (pa_tk tx T p31)) m31 g31 0 (-1) (nI (ce + cs30.length + cs31.length)) (pa_wr (pa_wr cd ce cs30) (ce + cs30.length) cs31)), L, wQQ q)) 4 rfl ?_
                        refine tv_b (pc' := 205) (ls' := [some (.ref 57), some (.int (nI o)), some (.int (nI (pa_tk tx T p))), none]) (st' := [.int ((nI o) + 1), .ref 57]) (h' := (n, sl, wKK kk, (rdI I (nI (pa_sk tx T p31)) (nI (pa_sk tx T p31)) (nI (pa_tk tx T p31)) m31 g31 0 (-1) (nI (ce + cs30.length + cs31.length)) (pa_wr (pa_wr cd ce cs30) (ce + cs30.length) cs31)), L, wQQ q)) 1 rfl ?_
                        refine tv_top (show (nI o) + 1 = nI (o + 1) from nI_add o 1) ?_
                        refine tv_cv [.int (nI (o + 1))] [] rfl rfl (by omega) rfl (Nat.le_of_ble_eq_true rfl) (Nat.le_of_ble_eq_true rfl) (Or.inr (Or.inr rfl)) ((hI hz0) _ p31 _ _ _ _ (by omega) (by omega) (by omega) hn31 hl31) ?_
                        rintro rv9 h9 ⟨rfl, I9, rfl, ho, hlx⟩
                        rcases rdO_c ho with ⟨k32, l32, s32, w32, m32, g32, f32, y32, c32, d32, hr32, hk32, hc32, rfl⟩ | ⟨p32, cs32, m32, g32, hr32, hp32, hn32, rfl⟩
                        · refine tv_b (pc' := 223) (ls' := [some (.ref 57), some (.int (nI o)), some (.int (nI (pa_tk tx T p))), none]) (st' := [.int 0, .ref 57]) (h' := (n, sl, wKK kk, (rdI I s32 w32 39 m32 g32 f32 y32 (nI c32) d32), L, wQQ q)) 6 rfl ?_
                          refine tv_cvE [.int 0] [] rfl rfl (by omega) rfl (Nat.le_of_ble_eq_true rfl) (Nat.le_of_ble_eq_true rfl) (Or.inr (Or.inr rfl)) (ev_r_expectE hk32) ?_
                          refine tv_b (pc' := 229) (ls' := [some (.ref 57), some (.int (nI o)), some (.int (nI (pa_tk tx T p))), none]) (st' := [.int 1, .int (nI o), .ref 57]) (h' := (n, sl, wKK kk, (rdI I s32 w32 39 m32 g32 (nI k32) (nI l32) (nI c32) d32), L, wQQ q)) 3 rfl ?_
                          refine tv_b (pc' := 230) (ls' := [some (.ref 57), some (.int (nI o)), some (.int (nI (pa_tk tx T p))), none]) (st' := [.int ((nI o) + 1), .ref 57]) (h' := (n, sl, wKK kk, (rdI I s32 w32 39 m32 g32 (nI k32) (nI l32) (nI c32) d32), L, wQQ q)) 1 rfl ?_
                          refine tv_top (show (nI o) + 1 = nI (o + 1) from nI_add o 1) ?_
                          refine tv_cvE [.int (nI (o + 1))] [] rfl rfl (by omega) rfl (Nat.le_of_ble_eq_true rfl) (Nat.le_of_ble_eq_true rfl) (Or.inr (Or.inr rfl)) (ev_r_sumE (rd_F hk32)) ?_
                          refine tv_b (pc' := 248) (ls' := [some (.ref 57), some (.int (nI o)), some (.int (nI (pa_tk tx T p))), none]) (st' := [.int 0, .ref 57]) (h' := (n, sl, wKK kk, (rdI I s32 w32 39 m32 g32 (nI k32) (nI l32) (nI c32) d32), L, wQQ q)) 6 rfl ?_
                          refine tv_cvE [.int 0] [] rfl rfl (by omega) rfl (Nat.le_of_ble_eq_true rfl) (Nat.le_of_ble_eq_true rfl) (Or.inr (Or.inr rfl)) (ev_r_expectE (rd_F (rd_F hk32))) ?_
                          refine tv_b (pc' := 253) (ls' := [some (.ref 57), some (.int (nI o)), some (.int (nI (pa_tk tx T p))), none]) (st' := [.int (nI (pa_tk tx T p)), .ref 57]) (h' := (n, sl, wKK kk, (rdI I s32 w32 39 m32 g32 (nI k32) (nI l32) (nI c32) d32), L, wQQ q)) 2 rfl ?_
                          refine tv_cvE [.int (nI (pa_tk tx T p))] [] rfl rfl (by omega) rfl (Nat.le_of_ble_eq_true rfl) (Nat.le_of_ble_eq_true rfl) (Or.inr (Or.inr rfl)) (ev_r_emitF (rd_k (rd_F (rd_F (rd_F hk32))))) ?_
                          refine tv_b (pc' := 268) (ls' := [some (.ref 57), some (.int (nI o)), some (.int (nI (pa_tk tx T p))), none]) (st' := []) (h' := (n, sl, wKK kk, (rdI I s32 w32 39 m32 g32 (nI k32) (nI l32) (nI c32) d32), L, wQQ q)) 1 rfl ?_
                          refine tv_rv rfl ⟨rfl, _, rfl, ?_, hlast⟩
                          unfold pa_part
                          try dsimp only
                          rw [if_neg (by omega), if_neg (by omega), if_neg (by omega), if_neg (by omega), if_pos (by omega)]
                          refine rdO_b (hr30) ?_
                          try dsimp only
                          rw [if_pos hb]
                          rw [if_neg hz]
                          refine rdO_b (hr31) ?_
                          try dsimp only
                          first | exact rdO_bl (hr32) (rdO_F (hr32) ⟨(rd_F (rd_F (rd_F hk32))), by omega⟩ rfl) | exact rdO_F (hr32) ⟨(rd_F (rd_F (rd_F hk32))), by omega⟩ rfl
                        · have ht32 := pa_tk_lt (b := tx) (n := T) p32
                          have hg32 := pa_edo (tx := tx) (T := T) p32
                          obtain ⟨hl32, hv32⟩ := hlx _ _ hr32
                          have hj32 := pa_ed_le (b := tx) (n := T) (p := p32) hp32.1
                          refine tv_b (pc' := (if (nI (pa_tk tx T p32)) = 36 then 218 else 222)) (ls' := [some (.ref 57), some (.int (nI o)), some (.int (nI (pa_tk tx T p))), none]) (st' := [.ref 57]) (h' := (n, sl, wKK kk, (rdI I (nI (pa_sk tx T p32)) (nI (pa_sk tx T p32)) (nI (pa_tk tx T p32)) m32 g32 0 (-1) (nI (ce + cs30.length + cs31.length + cs32.length)) (pa_wr (pa_wr (pa_wr cd ce cs30) (ce + cs30.length) cs31) (ce + cs30.length + cs31.length) cs32)), L, wQQ q)) 5 rfl ?_
                          refine tv_ifq (nI_eq (a := (pa_tk tx T p32)) (b := 36) (by omega) (by omega)) (fun c215 => ?_) (fun c215 => ?_)
                          · refine tv_b (pc' := 223) (ls' := [some (.ref 57), some (.int (nI o)), some (.int (nI (pa_tk tx T p))), none]) (st' := [.int 1, .ref 57]) (h' := (n, sl, wKK kk, (rdI I (nI (pa_sk tx T p32)) (nI (pa_sk tx T p32)) (nI (pa_tk tx T p32)) m32 g32 0 (-1) (nI (ce + cs30.length + cs31.length + cs32.length)) (pa_wr (pa_wr (pa_wr cd ce cs30) (ce + cs30.length) cs31) (ce + cs30.length + cs31.length) cs32)), L, wQQ q)) 2 rfl ?_
                            refine tv_cv [.int 1] [] rfl rfl (by omega) rfl (Nat.le_of_ble_eq_true rfl) (Nat.le_of_ble_eq_true rfl) (Or.inr (Or.inr rfl)) (tv_r_ex1 hH (by omega) (by omega) hn32) ?_
                            rintro rv9 h9 ⟨rfl, I9, rfl, ho, hlx⟩
                            rcases rdO_c ho with ⟨k33, l33, s33, w33, m33, g33, f33, y33, c33, d33, hr33, hk33, hc33, rfl⟩ | ⟨p33, cs33, m33, g33, hr33, hp33, hn33, rfl⟩
                            · refine tv_b (pc' := 229) (ls' := [some (.ref 57), some (.int (nI o)), some (.int (nI (pa_tk tx T p))), none]) (st' := [.int 1, .int (nI o), .ref 57]) (h' := (n, sl, wKK kk, (rdI I s33 w33 39 m33 g33 f33 y33 (nI c33) d33), L, wQQ q)) 3 rfl ?_
                              refine tv_b (pc' := 230) (ls' := [some (.ref 57), some (.int (nI o)), some (.int (nI (pa_tk tx T p))), none]) (st' := [.int ((nI o) + 1), .ref 57]) (h' := (n, sl, wKK kk, (rdI I s33 w33 39 m33 g33 f33 y33 (nI c33) d33), L, wQQ q)) 1 rfl ?_
                              refine tv_top (show (nI o) + 1 = nI (o + 1) from nI_add o 1) ?_
                              refine tv_cvE [.int (nI (o + 1))] [] rfl rfl (by omega) rfl (Nat.le_of_ble_eq_true rfl) (Nat.le_of_ble_eq_true rfl) (Or.inr (Or.inr rfl)) (ev_r_sumE hk33) ?_
                              refine tv_b (pc' := 248) (ls' := [some (.ref 57), some (.int (nI o)), some (.int (nI (pa_tk tx T p))), none]) (st' := [.int 0, .ref 57]) (h' := (n, sl, wKK kk, (rdI I s33 w33 39 m33 g33 (nI k33) (nI l33) (nI c33) d33), L, wQQ q)) 6 rfl ?_
                              refine tv_cvE [.int 0] [] rfl rfl (by omega) rfl (Nat.le_of_ble_eq_true rfl) (Nat.le_of_ble_eq_true rfl) (Or.inr (Or.inr rfl)) (ev_r_expectE (rd_F hk33)) ?_
                              refine tv_b (pc' := 253) (ls' := [some (.ref 57), some (.int (nI o)), some (.int (nI (pa_tk tx T p))), none]) (st' := [.int (nI (pa_tk tx T p)), .ref 57]) (h' := (n, sl, wKK kk, (rdI I s33 w33 39 m33 g33 (nI k33) (nI l33) (nI c33) d33), L, wQQ q)) 2 rfl ?_
                              refine tv_cvE [.int (nI (pa_tk tx T p))] [] rfl rfl (by omega) rfl (Nat.le_of_ble_eq_true rfl) (Nat.le_of_ble_eq_true rfl) (Or.inr (Or.inr rfl)) (ev_r_emitF (rd_k (rd_F (rd_F hk33)))) ?_
                              refine tv_b (pc' := 268) (ls' := [some (.ref 57), some (.int (nI o)), some (.int (nI (pa_tk tx T p))), none]) (st' := []) (h' := (n, sl, wKK kk, (rdI I s33 w33 39 m33 g33 (nI k33) (nI l33) (nI c33) d33), L, wQQ q)) 1 rfl ?_
                              refine tv_rv rfl ⟨rfl, _, rfl, ?_, hlast⟩
                              unfold pa_part
                              try dsimp only
                              rw [if_neg (by omega), if_neg (by omega), if_neg (by omega), if_neg (by omega), if_pos (by omega)]
                              refine rdO_b (hr30) ?_
                              try dsimp only
                              rw [if_pos hb]
                              rw [if_neg hz]
                              refine rdO_b (hr31) ?_
                              try dsimp only
                              refine rdO_b (hr32) ?_
                              try dsimp only
                              first | exact rdO_bl ((pa_ex_t c215).trans hr33) (rdO_F ((pa_ex_t c215).trans hr33) ⟨(rd_F (rd_F hk33)), by omega⟩ rfl) | exact rdO_F ((pa_ex_t c215).trans hr33) ⟨(rd_F (rd_F hk33)), by omega⟩ rfl
                            · have ht33 := pa_tk_lt (b := tx) (n := T) p33
                              have hg33 := pa_edo (tx := tx) (T := T) p33
                              obtain ⟨hl33, hv33⟩ := hlx _ _ hr33
                              have hj33 := pa_ed_le (b := tx) (n := T) (p := p33) hp33.1
                              obtain ⟨hq33, hz33⟩ := pa_nx_r hr33
                              have hy33 : cs33.length = 0 := by rw [hz33]; rfl
                              refine tv_b (pc' := 229) (ls' := [some (.ref 57), some (.int (nI o)), some (.int (nI (pa_tk tx T p))), none]) (st' := [.int 1, .int (nI o), .ref 57]) (h' := (n, sl, wKK kk, (rdI I (nI (pa_sk tx T p33)) (nI (pa_sk tx T p33)) (nI (pa_tk tx T p33)) m33 g33 0 (-1) (nI (ce + cs30.length + cs31.length + cs32.length + cs33.length)) (pa_wr (pa_wr (pa_wr (pa_wr cd ce cs30) (ce + cs30.length) cs31) (ce + cs30.length + cs31.length) cs32) (ce + cs30.length + cs31.length + cs32.length) cs33)), L, wQQ q)) 3 rfl ?_
                              refine tv_b (pc' := 230) (ls' := [some (.ref 57), some (.int (nI o)), some (.int (nI (pa_tk tx T p))), none]) (st' := [.int ((nI o) + 1), .ref 57]) (h' := (n, sl, wKK kk, (rdI I (nI (pa_sk tx T p33)) (nI (pa_sk tx T p33)) (nI (pa_tk tx T p33)) m33 g33 0 (-1) (nI (ce + cs30.length + cs31.length + cs32.length + cs33.length)) (pa_wr (pa_wr (pa_wr (pa_wr cd ce cs30) (ce + cs30.length) cs31) (ce + cs30.length + cs31.length) cs32) (ce + cs30.length + cs31.length + cs32.length) cs33)), L, wQQ q)) 1 rfl ?_
                              refine tv_top (show (nI o) + 1 = nI (o + 1) from nI_add o 1) ?_
                              refine tv_cv [.int (nI (o + 1))] [] rfl rfl (by omega) rfl (Nat.le_of_ble_eq_true rfl) (Nat.le_of_ble_eq_true rfl) (Or.inr (Or.inr rfl)) ((hI hz0) _ p33 _ _ _ _ (by omega) (by omega) (by omega) hn33 hl33) ?_
                              rintro rv9 h9 ⟨rfl, I9, rfl, ho, hlx⟩
                              rcases rdO_c ho with ⟨k34, l34, s34, w34, m34, g34, f34, y34, c34, d34, hr34, hk34, hc34, rfl⟩ | ⟨p34, cs34, m34, g34, hr34, hp34, hn34, rfl⟩
                              · refine tv_b (pc' := 248) (ls' := [some (.ref 57), some (.int (nI o)), some (.int (nI (pa_tk tx T p))), none]) (st' := [.int 0, .ref 57]) (h' := (n, sl, wKK kk, (rdI I s34 w34 39 m34 g34 f34 y34 (nI c34) d34), L, wQQ q)) 6 rfl ?_
                                refine tv_cvE [.int 0] [] rfl rfl (by omega) rfl (Nat.le_of_ble_eq_true rfl) (Nat.le_of_ble_eq_true rfl) (Or.inr (Or.inr rfl)) (ev_r_expectE hk34) ?_
                                refine tv_b (pc' := 253) (ls' := [some (.ref 57), some (.int (nI o)), some (.int (nI (pa_tk tx T p))), none]) (st' := [.int (nI (pa_tk tx T p)), .ref 57]) (h' := (n, sl, wKK kk, (rdI I s34 w34 39 m34 g34 (nI k34) (nI l34) (nI c34) d34), L, wQQ q)) 2 rfl ?_
                                refine tv_cvE [.int (nI (pa_tk tx T p))] [] rfl rfl (by omega) rfl (Nat.le_of_ble_eq_true rfl) (Nat.le_of_ble_eq_true rfl) (Or.inr (Or.inr rfl)) (ev_r_emitF (rd_k (rd_F hk34))) ?_
                                refine tv_b (pc' := 268) (ls' := [some (.ref 57), some (.int (nI o)), some (.int (nI (pa_tk tx T p))), none]) (st' := []) (h' := (n, sl, wKK kk, (rdI I s34 w34 39 m34 g34 (nI k34) (nI l34) (nI c34) d34), L, wQQ q)) 1 rfl ?_
                                refine tv_rv rfl ⟨rfl, _, rfl, ?_, hlast⟩
                                unfold pa_part
                                try dsimp only
                                rw [if_neg (by omega), if_neg (by omega), if_neg (by omega), if_neg (by omega), if_pos (by omega)]
                                refine rdO_b (hr30) ?_
                                try dsimp only
                                rw [if_pos hb]
                                rw [if_neg hz]
                                refine rdO_b (hr31) ?_
                                try dsimp only
                                refine rdO_b (hr32) ?_
                                try dsimp only
                                refine rdO_b ((pa_ex_t c215).trans hr33) ?_
                                try dsimp only
                                first | exact rdO_bl (hr34) (rdO_F (hr34) ⟨(rd_F hk34), by omega⟩ rfl) | exact rdO_F (hr34) ⟨(rd_F hk34), by omega⟩ rfl
                              · have ht34 := pa_tk_lt (b := tx) (n := T) p34
                                have hg34 := pa_edo (tx := tx) (T := T) p34
                                obtain ⟨hl34, hv34⟩ := hlx _ _ hr34
                                have hj34 := pa_ed_le (b := tx) (n := T) (p := p34) hp34.1
                                refine tv_b (pc' := (if (nI (pa_tk tx T p34)) = 33 then 243 else 247)) (ls' := [some (.ref 57), some (.int (nI o)), some (.int (nI (pa_tk tx T p))), none]) (st' := [.ref 57]) (h' := (n, sl, wKK kk, (rdI I (nI (pa_sk tx T p34)) (nI (pa_sk tx T p34)) (nI (pa_tk tx T p34)) m34 g34 0 (-1) (nI (ce + cs30.length + cs31.length + cs32.length + cs33.length + cs34.length)) (pa_wr (pa_wr (pa_wr (pa_wr (pa_wr cd ce cs30) (ce + cs30.length) cs31) (ce + cs30.length + cs31.length) cs32) (ce + cs30.length + cs31.length + cs32.length) cs33) (ce + cs30.length + cs31.length + cs32.length + cs33.length) cs34)), L, wQQ q)) 5 rfl ?_
                                refine tv_ifq (nI_eq (a := (pa_tk tx T p34)) (b := 33) (by omega) (by omega)) (fun c240 => ?_) (fun c240 => ?_)
                                · refine tv_b (pc' := 248) (ls' := [some (.ref 57), some (.int (nI o)), some (.int (nI (pa_tk tx T p))), none]) (st' := [.int 1, .ref 57]) (h' := (n, sl, wKK kk, (rdI I (nI (pa_sk tx T p34)) (nI (pa_sk tx T p34)) (nI (pa_tk tx T p34)) m34 g34 0 (-1) (nI (ce + cs30.length + cs31.length + cs32.length + cs33.length + cs34.length)) (pa_wr (pa_wr (pa_wr (pa_wr (pa_wr cd ce cs30) (ce + cs30.length) cs31) (ce + cs30.length + cs31.length) cs32) (ce + cs30.length + cs31.length + cs32.length) cs33) (ce + cs30.length + cs31.length + cs32.length + cs33.length) cs34)), L, wQQ q)) 2 rfl ?_
                                  refine tv_cv [.int 1] [] rfl rfl (by omega) rfl (Nat.le_of_ble_eq_true rfl) (Nat.le_of_ble_eq_true rfl) (Or.inr (Or.inr rfl)) (tv_r_ex1 hH (by omega) (by omega) hn34) ?_
                                  rintro rv9 h9 ⟨rfl, I9, rfl, ho, hlx⟩
                                  rcases rdO_c ho with ⟨k35, l35, s35, w35, m35, g35, f35, y35, c35, d35, hr35, hk35, hc35, rfl⟩ | ⟨p35, cs35, m35, g35, hr35, hp35, hn35, rfl⟩
                                  · refine tv_b (pc' := 253) (ls' := [some (.ref 57), some (.int (nI o)), some (.int (nI (pa_tk tx T p))), none]) (st' := [.int (nI (pa_tk tx T p)), .ref 57]) (h' := (n, sl, wKK kk, (rdI I s35 w35 39 m35 g35 f35 y35 (nI c35) d35), L, wQQ q)) 2 rfl ?_
                                    refine tv_cv [.int (nI (pa_tk tx T p))] [] rfl rfl (by omega) rfl (Nat.le_of_ble_eq_true rfl) (Nat.le_of_ble_eq_true rfl) (Or.inr (Or.inr rfl)) (tv_r_emitE hk35 (by omega)) ?_
                                    rintro rv9 h9 ⟨rfl, e8, b8, hb8, rfl⟩
                                    refine tv_b (pc' := 268) (ls' := [some (.ref 57), some (.int (nI o)), some (.int (nI (pa_tk tx T p))), none]) (st' := []) (h' := (n, sl, wKK kk, (rdI I s35 w35 39 m35 g35 f35 y35 (nI e8) b8), L, wQQ q)) 1 rfl ?_
                                    refine tv_rv rfl ⟨rfl, _, rfl, ?_, hlast⟩
                                    unfold pa_part
                                    try dsimp only
                                    rw [if_neg (by omega), if_neg (by omega), if_neg (by omega), if_neg (by omega), if_pos (by omega)]
                                    refine rdO_b (hr30) ?_
                                    try dsimp only
                                    rw [if_pos hb]
                                    rw [if_neg hz]
                                    refine rdO_b (hr31) ?_
                                    try dsimp only
                                    refine rdO_b (hr32) ?_
                                    try dsimp only
                                    refine rdO_b ((pa_ex_t c215).trans hr33) ?_
                                    try dsimp only
                                    refine rdO_b (hr34) ?_
                                    try dsimp only
                                    first | exact rdO_bl ((pa_ex_t c240).trans hr35) (rdO_F ((pa_ex_t c240).trans hr35) ⟨hk35, by omega⟩ rfl) | exact rdO_F ((pa_ex_t c240).trans hr35) ⟨hk35, by omega⟩ rfl
                                  · have ht35 := pa_tk_lt (b := tx) (n := T) p35
                                    have hg35 := pa_edo (tx := tx) (T := T) p35
                                    obtain ⟨hl35, hv35⟩ := hlx _ _ hr35
                                    have hj35 := pa_ed_le (b := tx) (n := T) (p := p35) hp35.1
                                    obtain ⟨hq35, hz35⟩ := pa_nx_r hr35
                                    have hy35 : cs35.length = 0 := by rw [hz35]; rfl
                                    refine tv_b (pc' := 253) (ls' := [some (.ref 57), some (.int (nI o)), some (.int (nI (pa_tk tx T p))), none]) (st' := [.int (nI (pa_tk tx T p)), .ref 57]) (h' := (n, sl, wKK kk, (rdI I (nI (pa_sk tx T p35)) (nI (pa_sk tx T p35)) (nI (pa_tk tx T p35)) m35 g35 0 (-1) (nI (ce + cs30.length + cs31.length + cs32.length + cs33.length + cs34.length + cs35.length)) (pa_wr (pa_wr (pa_wr (pa_wr (pa_wr (pa_wr cd ce cs30) (ce + cs30.length) cs31) (ce + cs30.length + cs31.length) cs32) (ce + cs30.length + cs31.length + cs32.length) cs33) (ce + cs30.length + cs31.length + cs32.length + cs33.length) cs34) (ce + cs30.length + cs31.length + cs32.length + cs33.length + cs34.length) cs35)), L, wQQ q)) 2 rfl ?_
                                    refine tv_cvE [.int (nI (pa_tk tx T p))] [] rfl rfl (by omega) rfl (Nat.le_of_ble_eq_true rfl) (Nat.le_of_ble_eq_true rfl) (Or.inr (Or.inr rfl)) (ev_r_emit (by omega)) ?_
                                    refine tv_b (pc' := 268) (ls' := [some (.ref 57), some (.int (nI o)), some (.int (nI (pa_tk tx T p))), none]) (st' := []) (h' := (n, sl, wKK kk, (rdI I (nI (pa_sk tx T p35)) (nI (pa_sk tx T p35)) (nI (pa_tk tx T p35)) m35 g35 0 (-1) (nI (ce + cs30.length + cs31.length + cs32.length + cs33.length + cs34.length + cs35.length + 1)) (upd (pa_wr (pa_wr (pa_wr (pa_wr (pa_wr (pa_wr cd ce cs30) (ce + cs30.length) cs31) (ce + cs30.length + cs31.length) cs32) (ce + cs30.length + cs31.length + cs32.length) cs33) (ce + cs30.length + cs31.length + cs32.length + cs33.length) cs34) (ce + cs30.length + cs31.length + cs32.length + cs33.length + cs34.length) cs35) (ce + cs30.length + cs31.length + cs32.length + cs33.length + cs34.length + cs35.length) (nI (pa_tk tx T p)))), L, wQQ q)) 1 rfl ?_
                                    refine tv_rv rfl ⟨rfl, _, rfl, ?_, hlast⟩
                                    unfold pa_part
                                    try dsimp only
                                    rw [if_neg (by omega), if_neg (by omega), if_neg (by omega), if_neg (by omega), if_pos (by omega)]
                                    refine rdO_b (hr30) ?_
                                    try dsimp only
                                    rw [if_pos hb]
                                    rw [if_neg hz]
                                    refine rdO_b (hr31) ?_
                                    try dsimp only
                                    refine rdO_b (hr32) ?_
                                    try dsimp only
                                    refine rdO_b ((pa_ex_t c215).trans hr33) ?_
                                    try dsimp only
                                    refine rdO_b (hr34) ?_
                                    try dsimp only
                                    refine rdO_b ((pa_ex_t c240).trans hr35) ?_
                                    try dsimp only
                                    exact rdO_em ⟨by omega, by omega⟩ hn35 rfl
                                · refine tv_b (pc' := 248) (ls' := [some (.ref 57), some (.int (nI o)), some (.int (nI (pa_tk tx T p))), none]) (st' := [.int 0, .ref 57]) (h' := (n, sl, wKK kk, (rdI I (nI (pa_sk tx T p34)) (nI (pa_sk tx T p34)) (nI (pa_tk tx T p34)) m34 g34 0 (-1) (nI (ce + cs30.length + cs31.length + cs32.length + cs33.length + cs34.length)) (pa_wr (pa_wr (pa_wr (pa_wr (pa_wr cd ce cs30) (ce + cs30.length) cs31) (ce + cs30.length + cs31.length) cs32) (ce + cs30.length + cs31.length + cs32.length) cs33) (ce + cs30.length + cs31.length + cs32.length + cs33.length) cs34)), L, wQQ q)) 1 rfl ?_
                                  refine tv_cvE [.int 0] [] rfl rfl (by omega) rfl (Nat.le_of_ble_eq_true rfl) (Nat.le_of_ble_eq_true rfl) (Or.inr (Or.inr rfl)) (ev_r_ex0) ?_
                                  refine tv_b (pc' := 253) (ls' := [some (.ref 57), some (.int (nI o)), some (.int (nI (pa_tk tx T p))), none]) (st' := [.int (nI (pa_tk tx T p)), .ref 57]) (h' := (n, sl, wKK kk, (rdI I (nI (pa_sk tx T p34)) (nI (pa_sk tx T p34)) 39 m34 g34 1 (nI (pa_sk tx T p34)) (nI (ce + cs30.length + cs31.length + cs32.length + cs33.length + cs34.length)) (pa_wr (pa_wr (pa_wr (pa_wr (pa_wr cd ce cs30) (ce + cs30.length) cs31) (ce + cs30.length + cs31.length) cs32) (ce + cs30.length + cs31.length + cs32.length) cs33) (ce + cs30.length + cs31.length + cs32.length + cs33.length) cs34)), L, wQQ q)) 2 rfl ?_
                                  refine tv_cvE [.int (nI (pa_tk tx T p))] [] rfl rfl (by omega) rfl (Nat.le_of_ble_eq_true rfl) (Nat.le_of_ble_eq_true rfl) (Or.inr (Or.inr rfl)) (ev_r_emitF (rd_k (rd_L (k := 1) (l := pa_sk tx T p34) (w := nI (pa_sk tx T p34)) (xf := 1) (by decide) rfl))) ?_
                                  refine tv_b (pc' := 268) (ls' := [some (.ref 57), some (.int (nI o)), some (.int (nI (pa_tk tx T p))), none]) (st' := []) (h' := (n, sl, wKK kk, (rdI I (nI (pa_sk tx T p34)) (nI (pa_sk tx T p34)) 39 m34 g34 1 (nI (pa_sk tx T p34)) (nI (ce + cs30.length + cs31.length + cs32.length + cs33.length + cs34.length)) (pa_wr (pa_wr (pa_wr (pa_wr (pa_wr cd ce cs30) (ce + cs30.length) cs31) (ce + cs30.length + cs31.length) cs32) (ce + cs30.length + cs31.length + cs32.length) cs33) (ce + cs30.length + cs31.length + cs32.length + cs33.length) cs34)), L, wQQ q)) 1 rfl ?_
                                  refine tv_rv rfl ⟨rfl, _, rfl, ?_, hlast⟩
                                  unfold pa_part
                                  try dsimp only
                                  rw [if_neg (by omega), if_neg (by omega), if_neg (by omega), if_neg (by omega), if_pos (by omega)]
                                  refine rdO_b (hr30) ?_
                                  try dsimp only
                                  rw [if_pos hb]
                                  rw [if_neg hz]
                                  refine rdO_b (hr31) ?_
                                  try dsimp only
                                  refine rdO_b (hr32) ?_
                                  try dsimp only
                                  refine rdO_b ((pa_ex_t c215).trans hr33) ?_
                                  try dsimp only
                                  refine rdO_b (hr34) ?_
                                  try dsimp only
                                  first | exact rdO_F ((pa_ex_f c240)) ⟨(rd_L (k := 1) (l := pa_sk tx T p34) (w := nI (pa_sk tx T p34)) (xf := 1) (by decide) rfl), by omega⟩ rfl | exact rdO_bl ((pa_ex_f c240)) (rdO_F ((pa_ex_f c240)) ⟨(rd_L (k := 1) (l := pa_sk tx T p34) (w := nI (pa_sk tx T p34)) (xf := 1) (by decide) rfl), by omega⟩ rfl)
                          · refine tv_b (pc' := 223) (ls' := [some (.ref 57), some (.int (nI o)), some (.int (nI (pa_tk tx T p))), none]) (st' := [.int 0, .ref 57]) (h' := (n, sl, wKK kk, (rdI I (nI (pa_sk tx T p32)) (nI (pa_sk tx T p32)) (nI (pa_tk tx T p32)) m32 g32 0 (-1) (nI (ce + cs30.length + cs31.length + cs32.length)) (pa_wr (pa_wr (pa_wr cd ce cs30) (ce + cs30.length) cs31) (ce + cs30.length + cs31.length) cs32)), L, wQQ q)) 1 rfl ?_
                            refine tv_cvE [.int 0] [] rfl rfl (by omega) rfl (Nat.le_of_ble_eq_true rfl) (Nat.le_of_ble_eq_true rfl) (Or.inr (Or.inr rfl)) (ev_r_ex0) ?_
                            refine tv_b (pc' := 229) (ls' := [some (.ref 57), some (.int (nI o)), some (.int (nI (pa_tk tx T p))), none]) (st' := [.int 1, .int (nI o), .ref 57]) (h' := (n, sl, wKK kk, (rdI I (nI (pa_sk tx T p32)) (nI (pa_sk tx T p32)) 39 m32 g32 1 (nI (pa_sk tx T p32)) (nI (ce + cs30.length + cs31.length + cs32.length)) (pa_wr (pa_wr (pa_wr cd ce cs30) (ce + cs30.length) cs31) (ce + cs30.length + cs31.length) cs32)), L, wQQ q)) 3 rfl ?_
                            refine tv_b (pc' := 230) (ls' := [some (.ref 57), some (.int (nI o)), some (.int (nI (pa_tk tx T p))), none]) (st' := [.int ((nI o) + 1), .ref 57]) (h' := (n, sl, wKK kk, (rdI I (nI (pa_sk tx T p32)) (nI (pa_sk tx T p32)) 39 m32 g32 1 (nI (pa_sk tx T p32)) (nI (ce + cs30.length + cs31.length + cs32.length)) (pa_wr (pa_wr (pa_wr cd ce cs30) (ce + cs30.length) cs31) (ce + cs30.length + cs31.length) cs32)), L, wQQ q)) 1 rfl ?_
                            refine tv_top (show (nI o) + 1 = nI (o + 1) from nI_add o 1) ?_
                            refine tv_cvE [.int (nI (o + 1))] [] rfl rfl (by omega) rfl (Nat.le_of_ble_eq_true rfl) (Nat.le_of_ble_eq_true rfl) (Or.inr (Or.inr rfl)) (ev_r_sumE (rd_L (k := 1) (l := pa_sk tx T p32) (w := nI (pa_sk tx T p32)) (xf := 1) (by decide) rfl)) ?_
                            refine tv_b (pc' := 248) (ls' := [some (.ref 57), some (.int (nI o)), some (.int (nI (pa_tk tx T p))), none]) (st' := [.int 0, .ref 57]) (h' := (n, sl, wKK kk, (rdI I (nI (pa_sk tx T p32)) (nI (pa_sk tx T p32)) 39 m32 g32 (nI 1) (nI (pa_sk tx T p32)) (nI (ce + cs30.length + cs31.length + cs32.length)) (pa_wr (pa_wr (pa_wr cd ce cs30) (ce + cs30.length) cs31) (ce + cs30.length + cs31.length) cs32)), L, wQQ q)) 6 rfl ?_
                            refine tv_cvE [.int 0] [] rfl rfl (by omega) rfl (Nat.le_of_ble_eq_true rfl) (Nat.le_of_ble_eq_true rfl) (Or.inr (Or.inr rfl)) (ev_r_expectE (rd_F (rd_L (k := 1) (l := pa_sk tx T p32) (w := nI (pa_sk tx T p32)) (xf := 1) (by decide) rfl))) ?_
                            refine tv_b (pc' := 253) (ls' := [some (.ref 57), some (.int (nI o)), some (.int (nI (pa_tk tx T p))), none]) (st' := [.int (nI (pa_tk tx T p)), .ref 57]) (h' := (n, sl, wKK kk, (rdI I (nI (pa_sk tx T p32)) (nI (pa_sk tx T p32)) 39 m32 g32 (nI 1) (nI (pa_sk tx T p32)) (nI (ce + cs30.length + cs31.length + cs32.length)) (pa_wr (pa_wr (pa_wr cd ce cs30) (ce + cs30.length) cs31) (ce + cs30.length + cs31.length) cs32)), L, wQQ q)) 2 rfl ?_
                            refine tv_cvE [.int (nI (pa_tk tx T p))] [] rfl rfl (by omega) rfl (Nat.le_of_ble_eq_true rfl) (Nat.le_of_ble_eq_true rfl) (Or.inr (Or.inr rfl)) (ev_r_emitF (rd_k (rd_F (rd_F (rd_L (k := 1) (l := pa_sk tx T p32) (w := nI (pa_sk tx T p32)) (xf := 1) (by decide) rfl))))) ?_
                            refine tv_b (pc' := 268) (ls' := [some (.ref 57), some (.int (nI o)), some (.int (nI (pa_tk tx T p))), none]) (st' := []) (h' := (n, sl, wKK kk, (rdI I (nI (pa_sk tx T p32)) (nI (pa_sk tx T p32)) 39 m32 g32 (nI 1) (nI (pa_sk tx T p32)) (nI (ce + cs30.length + cs31.length + cs32.length)) (pa_wr (pa_wr (pa_wr cd ce cs30) (ce + cs30.length) cs31) (ce + cs30.length + cs31.length) cs32)), L, wQQ q)) 1 rfl ?_
                            refine tv_rv rfl ⟨rfl, _, rfl, ?_, hlast⟩
                            unfold pa_part
                            try dsimp only
                            rw [if_neg (by omega), if_neg (by omega), if_neg (by omega), if_neg (by omega), if_pos (by omega)]
                            refine rdO_b (hr30) ?_
                            try dsimp only
                            rw [if_pos hb]
                            rw [if_neg hz]
                            refine rdO_b (hr31) ?_
                            try dsimp only
                            refine rdO_b (hr32) ?_
                            try dsimp only
                            first | exact rdO_F ((pa_ex_f c215)) ⟨(rd_F (rd_F (rd_L (k := 1) (l := pa_sk tx T p32) (w := nI (pa_sk tx T p32)) (xf := 1) (by decide) rfl))), by omega⟩ rfl | exact rdO_bl ((pa_ex_f c215)) (rdO_F ((pa_ex_f c215)) ⟨(rd_F (rd_F (rd_L (k := 1) (l := pa_sk tx T p32) (w := nI (pa_sk tx T p32)) (xf := 1) (by decide) rfl))), by omega⟩ rfl)
                    · refine tv_b (pc' := 195) (ls' := [some (.ref 57), some (.int (nI o)), some (.int (nI (pa_tk tx T p))), none]) (st' := [.int (nI o), .int 32, .ref 57]) (h' := (n, sl, wKK kk, (rdI I (nI (pa_sk tx T p30)) (nI (pa_sk tx T p30)) (nI (pa_tk tx T p30)) m30 g30 0 (-1) (nI (ce + cs30.length)) (pa_wr cd ce cs30)), L, wQQ q)) 3 rfl ?_
                      refine tv_cvE [.int 32, .int (nI o)] [] rfl rfl (by omega) rfl (Nat.le_of_ble_eq_true rfl) (Nat.le_of_ble_eq_true rfl) (Or.inr (Or.inr rfl)) (ev_r_op1_32 hb (by omega)) ?_
                      refine tv_b (pc' := 268) (ls' := [some (.ref 57), some (.int (nI o)), some (.int (nI (pa_tk tx T p))), none]) (st' := []) (h' := (n, sl, wKK kk, (rdI I (nI (pa_sk tx T p30)) (nI (pa_sk tx T p30)) 39 m30 g30 1 (nI (pa_sk tx T p30)) (nI (ce + cs30.length)) (pa_wr cd ce cs30)), L, wQQ q)) 1 rfl ?_
                      refine tv_rv rfl ⟨rfl, _, rfl, ?_, hlast⟩
                      unfold pa_part
                      try dsimp only
                      rw [if_neg (by omega), if_neg (by omega), if_neg (by omega), if_neg (by omega), if_pos (by omega)]
                      refine rdO_b (hr30) ?_
                      try dsimp only
                      rw [if_neg hb]
                      first | exact rdO_F (rfl) ⟨(rd_L (k := 1) (l := pa_sk tx T p30) (w := nI (pa_sk tx T p30)) (xf := 1) (by decide) rfl), by omega⟩ rfl | exact rdO_bl (rfl) (rdO_F (rfl) ⟨(rd_L (k := 1) (l := pa_sk tx T p30) (w := nI (pa_sk tx T p30)) (xf := 1) (by decide) rfl), by omega⟩ rfl)
                · refine tv_b (pc' := 265) (ls' := [some (.ref 57), some (.int (nI o)), some (.int (nI (pa_tk tx T p))), none]) (st' := [.int (nI (pa_sk tx T p)), .int 1, .ref 57]) (h' := (n, sl, wKK kk, (rdI I (nI (pa_sk tx T p)) (nI (pa_sk tx T p)) (nI (pa_tk tx T p)) nm gn 0 (-1) (nI ce) cd), L, wQQ q)) 4 rfl ?_
                  refine tv_cvE [.int 1, .int (nI (pa_sk tx T p))] [] rfl rfl (by omega) rfl (Nat.le_of_ble_eq_true rfl) (Nat.le_of_ble_eq_true rfl) (Or.inr (Or.inr rfl)) (ev_r_fail0) ?_
                  refine tv_rv rfl ⟨rfl, _, rfl, ?_, hlast⟩
                  unfold pa_part
                  try dsimp only
                  rw [if_neg (by omega), if_neg (by omega), if_neg (by omega), if_neg (by omega), if_neg (by omega)]
                  first | exact rdO_F (rfl) ⟨(rd_L (k := 1) (l := pa_sk tx T p) (w := nI (pa_sk tx T p)) (xf := 1) (by decide) rfl), by omega⟩ rfl | exact rdO_bl (rfl) (rdO_F (rfl) ⟨(rd_L (k := 1) (l := pa_sk tx T p) (w := nI (pa_sk tx T p)) (xf := 1) (by decide) rfl), by omega⟩ rfl)
        · refine tv_b (pc' := 46) (ls' := [some (.ref 57), some (.int (nI o)), some (.int (nI (pa_tk tx T p))), none]) (st' := [.int (nI (pa_tk tx T p)), .ref 57]) (h' := (n, sl, wKK kk, (rdI I (nI (pa_sk tx T p)) (nI (pa_sk tx T p)) (nI (pa_tk tx T p)) nm gn 0 (-1) (nI ce) cd), L, wQQ q)) 2 rfl ?_
          refine tv_cvE [.int (nI (pa_tk tx T p))] [] rfl rfl (by omega) rfl (Nat.le_of_ble_eq_true rfl) (Nat.le_of_ble_eq_true rfl) (Or.inr (Or.inr rfl)) (ev_r_emit (by omega)) ?_
          refine tv_b (pc' := 50) (ls' := [some (.ref 57), some (.int (nI o)), some (.int (nI (pa_tk tx T p))), none]) (st' := [.ref 57]) (h' := (n, sl, wKK kk, (rdI I (nI (pa_sk tx T p)) (nI (pa_sk tx T p)) (nI (pa_tk tx T p)) nm gn 0 (-1) (nI (ce + 1)) (upd cd ce (nI (pa_tk tx T p)))), L, wQQ q)) 1 rfl ?_
          refine tv_cv [] [] rfl rfl (by omega) rfl (Nat.le_of_ble_eq_true rfl) (Nat.le_of_ble_eq_true rfl) (Or.inr (Or.inr rfl)) (tv_r_nx hH (by omega) (by omega) hnm) ?_
          rintro rv9 h9 ⟨rfl, I9, rfl, ho, hlx⟩
          rcases rdO_c ho with ⟨k36, l36, s36, w36, m36, g36, f36, y36, c36, d36, hr36, hk36, hc36, rfl⟩ | ⟨p36, cs36, m36, g36, hr36, hp36, hn36, rfl⟩
          · refine tv_b (pc' := 268) (ls' := [some (.ref 57), some (.int (nI o)), some (.int (nI (pa_tk tx T p))), none]) (st' := []) (h' := (n, sl, wKK kk, (rdI I s36 w36 39 m36 g36 f36 y36 (nI c36) d36), L, wQQ q)) 1 rfl ?_
            refine tv_rv rfl ⟨rfl, _, rfl, ?_, hlast⟩
            unfold pa_part
            try dsimp only
            rw [if_neg (by omega), if_pos (by omega)]
            first | exact rdO_bl (hr36) (rdO_F (hr36) ⟨hk36, by omega⟩ rfl) | exact rdO_F (hr36) ⟨hk36, by omega⟩ rfl
          · have ht36 := pa_tk_lt (b := tx) (n := T) p36
            have hg36 := pa_edo (tx := tx) (T := T) p36
            obtain ⟨hl36, hv36⟩ := hlx _ _ hr36
            have hj36 := pa_ed_le (b := tx) (n := T) (p := p36) hp36.1
            obtain ⟨hq36, hz36⟩ := pa_nx_r hr36
            have hy36 : cs36.length = 0 := by rw [hz36]; rfl
            refine tv_b (pc' := 268) (ls' := [some (.ref 57), some (.int (nI o)), some (.int (nI (pa_tk tx T p))), none]) (st' := []) (h' := (n, sl, wKK kk, (rdI I (nI (pa_sk tx T p36)) (nI (pa_sk tx T p36)) (nI (pa_tk tx T p36)) m36 g36 0 (-1) (nI (ce + 1 + cs36.length)) (pa_wr (upd cd ce (nI (pa_tk tx T p))) (ce + 1) cs36)), L, wQQ q)) 1 rfl ?_
            subst hz36
            refine tv_rv rfl ⟨rfl, _, rfl, ?_, hlast⟩
            unfold pa_part
            try dsimp only
            rw [if_neg (by omega), if_pos (by omega)]
            refine rdO_b hr36 ?_
            exact rdO_N (cs := [_]) rfl ⟨by omega, by simp only [List.length_cons, List.length_nil]; omega⟩ hn36 rfl
