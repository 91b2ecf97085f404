/-! THE CLASS'S READER: the part, the product, the sum -/
section RL
variable {tx : Nat → Nat} {T : Nat}
theorem pa_ex_lf {c : Bool} {p p' : Nat} {cs : List Nat} (h : pa_ex tx T c p = .inr (p', cs)) : pa_lf tx T p' = none := pa_nx_lf (pa_ex_r h).2
theorem pa_nx_gt {p p' : Nat} {cs : List Nat} (h : pa_nx tx T p = .inr (p', cs)) (ht : pa_tk tx T p ≠ 38) : p < p' ∧ cs = [] := by
  obtain ⟨h1, h2⟩ := pa_nx_r h
  rw [h1]
  exact ⟨(pa_ed_gt ht).1, h2⟩
theorem pa_part_lf {lev p p' : Nat} {cs : List Nat} {inner : Nat → pa_E} (hin : ∀ p p' cs, inner p = .inr (p', cs) → p + cs.length ≤ p') (h : pa_part tx T lev inner p = .inr (p', cs)) : pa_lf tx T p' = none ∧ p + cs.length ≤ p' := by
  unfold pa_part at h
  dsimp only at h
  split at h
  · rename_i ht
    obtain ⟨p1, c1, c2, h1, h2, e⟩ := pa_bnd_r h
    obtain ⟨a1, a2⟩ := pa_em_r h2
    obtain ⟨a3, a4⟩ := pa_nx_gt h1 (by omega)
    rw [a1, e, a2, a4]
    exact ⟨pa_nx_lf h1, a3⟩
  split at h
  · rename_i ht _
    obtain ⟨p1, c1, c2, h1, h2, e⟩ := pa_bnd_r h
    obtain ⟨a1, a2⟩ := pa_em_r h2
    obtain ⟨a3, a4⟩ := pa_nx_gt h1 (by omega)
    rw [a1, e, a2, a4]
    exact ⟨pa_nx_lf h1, a3⟩
  split at h
  · obtain ⟨p1, c1, c2, h1, h2, e⟩ := pa_bnd_r h
    split at h2
    · split at h2
      · cases h2
      · obtain ⟨p3, c3, c4, h3, h4, e2⟩ := pa_bnd_r h2
        obtain ⟨a1, a2⟩ := pa_em_r h4
        obtain ⟨a3, a4⟩ := pa_nx_gt h1 (by omega)
        obtain ⟨a5, a6⟩ := pa_nx_gt h3 (by omega)
        rw [a1, e, e2, a2, a4, a6]
        exact ⟨pa_nx_lf h3, by simp only [List.nil_append, List.length_cons, List.length_nil]; omega⟩
    · cases h2
  split at h
  · split at h
    · cases h
    · obtain ⟨p1, c1, c2, h1, h2, e⟩ := pa_bnd_r h
      obtain ⟨p3, c3, c4, h3, h4, e2⟩ := pa_bnd_r h2
      obtain ⟨a3, a4⟩ := pa_nx_gt h1 (by omega)
      obtain ⟨b1, b2⟩ := pa_ex_r h4
      obtain ⟨a5, a6⟩ := pa_nx_gt b2 (by rw [Nat.eq_of_beq_eq_true b1]; decide)
      have := hin _ _ _ h3
      rw [e, e2, a4, a6]
      exact ⟨pa_ex_lf h4, by simp only [List.nil_append, List.append_nil]; omega⟩
  split at h
  · obtain ⟨p1, c1, c2, h1, h2, e⟩ := pa_bnd_r h
    split at h2
    · split at h2
      · cases h2
      · obtain ⟨p3, c3, c4, h3, h4, e2⟩ := pa_bnd_r h2
        obtain ⟨p5, c5, c6, h5, h6, e3⟩ := pa_bnd_r h4
        obtain ⟨p7, c7, c8, h7, h8, e4⟩ := pa_bnd_r h6
        obtain ⟨p9, c9, c10, h9, h10, e5⟩ := pa_bnd_r h8
        obtain ⟨p11, c11, c12, h11, h12, e6⟩ := pa_bnd_r h10
        obtain ⟨a1, a2⟩ := pa_em_r h12
        obtain ⟨a3, a4⟩ := pa_nx_gt h1 (by omega)
        obtain ⟨a5, a6⟩ := pa_nx_gt h3 (by omega)
        obtain ⟨b1, b2⟩ := pa_ex_r h7
        obtain ⟨a7, a8⟩ := pa_nx_gt b2 (by rw [Nat.eq_of_beq_eq_true b1]; decide)
        obtain ⟨b3, b4⟩ := pa_ex_r h11
        obtain ⟨a9, a10⟩ := pa_nx_gt b4 (by rw [Nat.eq_of_beq_eq_true b3]; decide)
        have i1 := hin _ _ _ h5
        have i2 := hin _ _ _ h9
        rw [a1, e, e2, e3, e4, e5, e6, a4, a6, a8, a10, a2]
        exact ⟨pa_ex_lf h11, by simp only [List.nil_append, List.length_append, List.length_cons, List.length_nil]; omega⟩
    · cases h2
  · cases h
theorem pa_lp_lf {op : Nat → Bool} {q : Nat → pa_E} (ho : op 38 = false) (hq : ∀ p p' cs, q p = .inr (p', cs) → pa_lf tx T p' = none ∧ p + cs.length ≤ p') : ∀ (f p p' : Nat) (cs : List Nat), pa_lf tx T p = none → pa_lp tx T op q f p = .inr (p', cs) → pa_lf tx T p' = none ∧ p + cs.length ≤ p' := by
  intro f
  induction f with
  | zero =>
    intro p p' cs h0 h
    have h3 := Sum.inr.inj h
    rw [← (Prod.mk.inj h3).1, ← (Prod.mk.inj h3).2]
    exact ⟨h0, Nat.le_refl _⟩
  | succ f ih =>
    intro p p' cs h0 h
    have e1 : pa_lp tx T op q (f + 1) p = cond (op (pa_tk tx T p)) (pa_bnd (pa_nx tx T p) (fun p1 => pa_bnd (q p1) (fun p2 => pa_bnd (pa_em (pa_tk tx T p) p2) (pa_lp tx T op q f)))) (.inr (p, [])) := rfl
    rw [e1] at h
    cases hc : op (pa_tk tx T p) with
    | false =>
      rw [hc] at h
      have h3 := Sum.inr.inj h
      rw [← (Prod.mk.inj h3).1, ← (Prod.mk.inj h3).2]
      exact ⟨h0, Nat.le_refl _⟩
    | true =>
      rw [hc] at h
      obtain ⟨p1, c1, c2, h1, h2, e⟩ := pa_bnd_r h
      obtain ⟨p3, c3, c4, h3, h4, e2⟩ := pa_bnd_r h2
      obtain ⟨p5, c5, c6, h5, h6, e3⟩ := pa_bnd_r h4
      obtain ⟨a1, a2⟩ := pa_em_r h5
      obtain ⟨a3, a4⟩ := pa_nx_gt h1 (fun q => by rw [q, ho] at hc; cases hc)
      obtain ⟨q1, q2⟩ := hq _ _ _ h3
      obtain ⟨i1, i2⟩ := ih _ _ _ (by rw [a1]; exact q1) h6
      rw [e, e2, e3, a4, a2]
      exact ⟨i1, by simp only [List.nil_append, List.length_append, List.length_cons, List.length_nil]; omega⟩
theorem pa_row_lf {op : Nat → Bool} {q : Nat → pa_E} (ho : op 38 = false) (hq : ∀ p p' cs, q p = .inr (p', cs) → pa_lf tx T p' = none ∧ p + cs.length ≤ p') {f p p' : Nat} {cs : List Nat} (h : pa_bnd (q p) (pa_lp tx T op q f) = .inr (p', cs)) : pa_lf tx T p' = none ∧ p + cs.length ≤ p' := by
  obtain ⟨p1, c1, c2, h1, h2, e⟩ := pa_bnd_r h
  obtain ⟨a1, a2⟩ := hq _ _ _ h1
  obtain ⟨i1, i2⟩ := pa_lp_lf ho hq _ _ _ _ a1 h2
  rw [e]
  exact ⟨i1, by rw [List.length_append]; omega⟩
end RL
set_option maxHeartbeats 4000000 in
theorem tv_r_part {n sl : Nat} {kk : Nat → Nat × Nat} {I : Nat → Nat → Int32} {L : Nat → Nat → Int64} {q : Nat → Nat → Option Nat} {tx : Nat → Nat} {T : Nat} {lev o dp : Nat} {inner : Nat → pa_E} (hH : rdH tx T I) (hW : rdW kk I) (ho : o + lev = 8) (hdp : 5 ≤ dp) (hin : ∀ p p' cs, inner p = .inr (p', cs) → p + cs.length ≤ p') (hI : 0 < lev → rdC tx T n sl kk I L q 75 4 (dp - 1) (o + 1) inner) : rdC tx T n sl kk I L q 77 4 dp o (pa_part tx T lev inner) := by
  intro d p ce cd nm hd hp hce hnm hl0
  obtain ⟨d, rfl⟩ : ∃ e, d = e + 5 := ⟨d - 5, by omega⟩
  have hT := hH.2.1
  have ht0 := pa_tk_lt (b := tx) (n := T) p
  have hg0 := pa_edo (tx := tx) (T := T) p
  have hj0 := pa_ed_le (b := tx) (n := T) (p := p) hp
  have hlast : ∀ p' cs, pa_part tx T lev inner p = .inr (p', cs) → pa_lf tx T p' = none ∧ p + cs.length ≤ p' := fun p' cs h => pa_part_lf hin h
  by_cases hz : lev = 0
  · show am_T _ _ 0 [some (.ref 57), some (.int (nI o)), none, none] _ (n, sl, wKK kk, (rdI I (nI (pa_sk tx T p)) (nI (pa_ed tx T p)) (nI (pa_tk tx T p)) nm 0 (-1) (nI ce) cd), L, wQQ q) _
    refine tv_b (pc' := (if (nI (pa_tk tx T p)) = 21 then 11 else 32)) (ls' := [some (.ref 57), some (.int (nI o)), some (.int (nI (pa_tk tx T p))), none]) (st' := []) (h' := (n, sl, wKK kk, (rdI I (nI (pa_sk tx T p)) (nI (pa_ed tx T p)) (nI (pa_tk tx T p)) nm 0 (-1) (nI ce) cd), L, wQQ q)) 6 rfl ?_
    refine tv_ifq (nI_eq (a := (pa_tk tx T p)) (b := 21) (by omega) (by omega)) (fun c8 => ?_) (fun c8 => ?_)
    · have hsub := hnm c8
      subst hsub
      refine tv_b (pc' := 18) (ls' := [some (.ref 57), some (.int (nI o)), some (.int (nI (pa_tk tx T p))), none]) (st' := [.int 32, .int (nI (pa_nm tx T p)), .ref 57]) (h' := (n, sl, wKK kk, (rdI I (nI (pa_sk tx T p)) (nI (pa_ed tx T p)) (nI (pa_tk tx T p)) (nI (pa_nm tx T p)) 0 (-1) (nI ce) cd), L, wQQ q)) 4 rfl ?_
      refine tv_b (pc' := 19) (ls' := [some (.ref 57), some (.int (nI o)), some (.int (nI (pa_tk tx T p))), none]) (st' := [.int ((nI (pa_nm tx T p)) * 32), .ref 57]) (h' := (n, sl, wKK kk, (rdI I (nI (pa_sk tx T p)) (nI (pa_ed tx T p)) (nI (pa_tk tx T p)) (nI (pa_nm tx T p)) 0 (-1) (nI ce) cd), L, wQQ q)) 1 rfl ?_
      refine tv_top (show (nI (pa_nm tx T p)) * 32 = nI ((pa_nm tx T p) * 32) from nI_mul (pa_nm tx T p) 32) ?_
      refine tv_b (pc' := 21) (ls' := [some (.ref 57), some (.int (nI o)), some (.int (nI (pa_tk tx T p))), none]) (st' := [.int 21, .int (nI ((pa_nm tx T p) * 32)), .ref 57]) (h' := (n, sl, wKK kk, (rdI I (nI (pa_sk tx T p)) (nI (pa_ed tx T p)) (nI (pa_tk tx T p)) (nI (pa_nm tx T p)) 0 (-1) (nI ce) cd), L, wQQ q)) 1 rfl ?_
      refine tv_b (pc' := 22) (ls' := [some (.ref 57), some (.int (nI o)), some (.int (nI (pa_tk tx T p))), none]) (st' := [.int ((nI ((pa_nm tx T p) * 32)) + 21), .ref 57]) (h' := (n, sl, wKK kk, (rdI I (nI (pa_sk tx T p)) (nI (pa_ed tx T p)) (nI (pa_tk tx T p)) (nI (pa_nm tx T p)) 0 (-1) (nI ce) cd), L, wQQ q)) 1 rfl ?_
      refine tv_top (show (nI ((pa_nm tx T p) * 32)) + 21 = nI (((pa_nm tx T p) * 32) + 21) from nI_add ((pa_nm tx T p) * 32) 21) ?_
      refine tv_cvE [.int (nI (((pa_nm tx T p) * 32) + 21))] [] rfl rfl (by omega) rfl (Nat.le_of_ble_eq_true rfl) (Nat.le_of_ble_eq_true rfl) (Or.inr (Or.inr rfl)) (ev_r_emit (by omega)) ?_
      refine tv_b (pc' := 26) (ls' := [some (.ref 57), some (.int (nI o)), some (.int (nI (pa_tk tx T p))), none]) (st' := [.ref 57]) (h' := (n, sl, wKK kk, (rdI I (nI (pa_sk tx T p)) (nI (pa_ed tx T p)) (nI (pa_tk tx T p)) (nI (pa_nm tx T p)) 0 (-1) (nI (ce + 1)) (upd cd ce (nI (((pa_nm tx T p) * 32) + 21)))), L, wQQ q)) 1 rfl ?_
      refine tv_cv [] [] rfl rfl (by omega) rfl (Nat.le_of_ble_eq_true rfl) (Nat.le_of_ble_eq_true rfl) (Or.inr (Or.inr rfl)) (tv_r_nx hH hW (by omega) (by omega)) ?_
      rintro rv9 h9 ⟨rfl, I9, rfl, ho, hlx⟩
      rcases rdO_c ho with ⟨k1, l1, s1, a1, m1, c1, d1, hr1, hk1, rfl⟩ | ⟨p1, cs1, m1, hr1, hp1, hn1, rfl⟩
      · refine tv_b (pc' := 268) (ls' := [some (.ref 57), some (.int (nI o)), some (.int (nI (pa_tk tx T p))), none]) (st' := []) (h' := (n, sl, wKK kk, (rdI I (nI s1) (nI a1) 39 m1 (nI k1) (nI l1) (nI c1) d1), L, wQQ q)) 1 rfl ?_
        refine tv_rv rfl ⟨rfl, _, rfl, ?_, hlast⟩
        unfold pa_part
        try dsimp only
        rw [if_pos c8]
        first | exact rdO_bl (hr1) (rdO_F (hr1) hk1 rfl) | exact rdO_F (hr1) hk1 rfl
      · have ht1 := pa_tk_lt (b := tx) (n := T) p1
        have hg1 := pa_edo (tx := tx) (T := T) p1
        obtain ⟨hl1, hv1⟩ := hlx _ _ hr1
        have hj1 := pa_ed_le (b := tx) (n := T) (p := p1) hp1.1
        obtain ⟨hq1, hz1⟩ := pa_nx_r hr1
        have hy1 : cs1.length = 0 := by rw [hz1]; rfl
        refine tv_b (pc' := 268) (ls' := [some (.ref 57), some (.int (nI o)), some (.int (nI (pa_tk tx T p))), none]) (st' := []) (h' := (n, sl, wKK kk, (rdI I (nI (pa_sk tx T p1)) (nI (pa_ed tx T p1)) (nI (pa_tk tx T p1)) m1 0 (-1) (nI (ce + 1 + cs1.length)) (pa_wr (upd cd ce (nI (((pa_nm tx T p) * 32) + 21))) (ce + 1) cs1)), L, wQQ q)) 1 rfl ?_
        subst hz1
        refine tv_rv rfl ⟨rfl, _, rfl, ?_, hlast⟩
        unfold pa_part
        try dsimp only
        rw [if_pos c8]
        refine rdO_b hr1 ?_
        exact rdO_N (cs := [_]) rfl ⟨by omega, by simp only [List.length_cons, List.length_nil]; omega⟩ hn1 rfl
    · refine tv_b (pc' := (if (nI (pa_tk tx T p)) < 11 then 56 else 38)) (ls' := [some (.ref 57), some (.int (nI o)), some (.int (nI (pa_tk tx T p))), none]) (st' := []) (h' := (n, sl, wKK kk, (rdI I (nI (pa_sk tx T p)) (nI (pa_ed tx T p)) (nI (pa_tk tx T p)) nm 0 (-1) (nI ce) cd), L, wQQ q)) 3 rfl ?_
      refine tv_ifq (nI_ltI (a := (pa_tk tx T p)) (b := 11) (by omega) (by omega)) (fun c35 => ?_) (fun c35 => ?_)
      · refine tv_b (pc' := (if (nI (pa_tk tx T p)) = 18 then 62 else 131)) (ls' := [some (.ref 57), some (.int (nI o)), some (.int (nI (pa_tk tx T p))), none]) (st' := []) (h' := (n, sl, wKK kk, (rdI I (nI (pa_sk tx T p)) (nI (pa_ed tx T p)) (nI (pa_tk tx T p)) nm 0 (-1) (nI ce) cd), L, wQQ q)) 3 rfl ?_
        refine tv_ifq (nI_eq (a := (pa_tk tx T p)) (b := 18) (by omega) (by omega)) (fun c59 => ?_) (fun c59 => ?_)
        · refine tv_b (pc' := 63) (ls' := [some (.ref 57), some (.int (nI o)), some (.int (nI (pa_tk tx T p))), none]) (st' := [.ref 57]) (h' := (n, sl, wKK kk, (rdI I (nI (pa_sk tx T p)) (nI (pa_ed tx T p)) (nI (pa_tk tx T p)) nm 0 (-1) (nI ce) cd), L, wQQ q)) 1 rfl ?_
          refine tv_cv [] [] rfl rfl (by omega) rfl (Nat.le_of_ble_eq_true rfl) (Nat.le_of_ble_eq_true rfl) (Or.inr (Or.inr rfl)) (tv_r_nx hH hW (by omega) (by omega)) ?_
          rintro rv9 h9 ⟨rfl, I9, rfl, ho, hlx⟩
          rcases rdO_c ho with ⟨k2, l2, s2, a2, m2, c2, d2, hr2, hk2, rfl⟩ | ⟨p2, cs2, m2, hr2, hp2, hn2, rfl⟩
          · refine tv_b (pc' := 114) (ls' := [some (.ref 57), some (.int (nI o)), some (.int (nI (pa_tk tx T p))), some (.int m2)]) (st' := [.int 0, .ref 57]) (h' := (n, sl, wKK kk, (rdI I (nI s2) (nI a2) 39 m2 (nI k2) (nI l2) (nI c2) d2), L, wQQ q)) 13 rfl ?_
            refine tv_cvE [.int 0] [] rfl rfl (by omega) rfl (Nat.le_of_ble_eq_true rfl) (Nat.le_of_ble_eq_true rfl) (Or.inr (Or.inr rfl)) (ev_r_expectF0 (rd_k hk2)) ?_
            refine tv_b (pc' := 125) (ls' := [some (.ref 57), some (.int (nI o)), some (.int (nI (pa_tk tx T p))), some (.int m2)]) (st' := [.int ((m2 * 32) + 18), .ref 57]) (h' := (n, sl, wKK kk, (rdI I (nI s2) (nI a2) 39 m2 (nI k2) (nI l2) (nI c2) d2), L, wQQ q)) 6 rfl ?_
            refine tv_cvE [.int ((m2 * 32) + 18)] [] rfl rfl (by omega) rfl (Nat.le_of_ble_eq_true rfl) (Nat.le_of_ble_eq_true rfl) (Or.inr (Or.inr rfl)) (ev_r_emitF (rd_k hk2)) ?_
            refine tv_b (pc' := 268) (ls' := [some (.ref 57), some (.int (nI o)), some (.int (nI (pa_tk tx T p))), some (.int m2)]) (st' := []) (h' := (n, sl, wKK kk, (rdI I (nI s2) (nI a2) 39 m2 (nI k2) (nI l2) (nI c2) d2), L, wQQ q)) 1 rfl ?_
            refine tv_rv rfl ⟨rfl, _, rfl, ?_, hlast⟩
            unfold pa_part
            try dsimp only
            rw [if_neg (by omega), if_neg (by omega), if_pos (by omega)]
            first | exact rdO_bl (hr2) (rdO_F (hr2) hk2 rfl) | exact rdO_F (hr2) hk2 rfl
          · have ht2 := pa_tk_lt (b := tx) (n := T) p2
            have hg2 := pa_edo (tx := tx) (T := T) p2
            obtain ⟨hl2, hv2⟩ := hlx _ _ hr2
            have hj2 := pa_ed_le (b := tx) (n := T) (p := p2) hp2.1
            obtain ⟨hq2, hz2⟩ := pa_nx_r hr2
            have hy2 : cs2.length = 0 := by rw [hz2]; rfl
            refine tv_b (pc' := (if (nI (pa_tk tx T p2)) = 21 then 75 else 94)) (ls' := [some (.ref 57), some (.int (nI o)), some (.int (nI (pa_tk tx T p))), none]) (st' := []) (h' := (n, sl, wKK kk, (rdI I (nI (pa_sk tx T p2)) (nI (pa_ed tx T p2)) (nI (pa_tk tx T p2)) m2 0 (-1) (nI (ce + cs2.length)) (pa_wr cd ce cs2)), L, wQQ q)) 4 rfl ?_
            refine tv_ifq (nI_eq (a := (pa_tk tx T p2)) (b := 21) (by omega) (by omega)) (fun c72 => ?_) (fun c72 => ?_)
            · have hsub := hn2 c72
              subst hsub
              refine tv_b (pc' := 79) (ls' := [some (.ref 57), some (.int (nI o)), some (.int (nI (pa_tk tx T p))), none]) (st' := [.int (nI (pa_nm tx T p2))]) (h' := (n, sl, wKK kk, (rdI I (nI (pa_sk tx T p2)) (nI (pa_ed tx T p2)) (nI (pa_tk tx T p2)) (nI (pa_nm tx T p2)) 0 (-1) (nI (ce + cs2.length)) (pa_wr cd ce cs2)), L, wQQ q)) 2 rfl ?_
              have hnl := pa_nm_lt hl2 c72
              refine tv_csE [.int (nI (pa_nm tx T p2))] [] rfl rfl (by omega) rfl (Nat.le_of_ble_eq_true rfl) (Nat.le_of_ble_eq_true rfl) (ev_r_isCol (by omega)) ?_
              refine tv_b (pc' := (if (if pa_nm tx T p2 < 16 then 1 else 0) = 0 then 85 else 94)) (ls' := [some (.ref 57), some (.int (nI o)), some (.int (nI (pa_tk tx T p))), none]) (st' := []) (h' := (n, sl, wKK kk, (rdI I (nI (pa_sk tx T p2)) (nI (pa_ed tx T p2)) (nI (pa_tk tx T p2)) (nI (pa_nm tx T p2)) 0 (-1) (nI (ce + cs2.length)) (pa_wr cd ce cs2)), L, wQQ q)) 1 rfl ?_
              refine tv_b0 (fun c82 => ?_) (fun c82 => ?_)
              · refine tv_b (pc' := 91) (ls' := [some (.ref 57), some (.int (nI o)), some (.int (nI (pa_tk tx T p))), none]) (st' := [.int (nI (pa_sk tx T p2)), .int 4, .ref 57]) (h' := (n, sl, wKK kk, (rdI I (nI (pa_sk tx T p2)) (nI (pa_ed tx T p2)) (nI (pa_tk tx T p2)) (nI (pa_nm tx T p2)) 0 (-1) (nI (ce + cs2.length)) (pa_wr cd ce cs2)), L, wQQ q)) 4 rfl ?_
                refine tv_cvE [.int 4, .int (nI (pa_sk tx T p2))] [] rfl rfl (by omega) rfl (Nat.le_of_ble_eq_true rfl) (Nat.le_of_ble_eq_true rfl) (Or.inr (Or.inr rfl)) (ev_r_fail0) ?_
                refine tv_b (pc' := 114) (ls' := [some (.ref 57), some (.int (nI o)), some (.int (nI (pa_tk tx T p))), some (.int (nI (pa_nm tx T p2)))]) (st' := [.int 0, .ref 57]) (h' := (n, sl, wKK kk, (rdI I (nI (pa_sk tx T p2)) (nI (pa_ed tx T p2)) 39 (nI (pa_nm tx T p2)) 4 (nI (pa_sk tx T p2)) (nI (ce + cs2.length)) (pa_wr cd ce cs2)), L, wQQ q)) 9 rfl ?_
                refine tv_cvE [.int 0] [] rfl rfl (by omega) rfl (Nat.le_of_ble_eq_true rfl) (Nat.le_of_ble_eq_true rfl) (Or.inr (Or.inr rfl)) (ev_r_expectF0 (by decide)) ?_
                refine tv_b (pc' := 125) (ls' := [some (.ref 57), some (.int (nI o)), some (.int (nI (pa_tk tx T p))), some (.int (nI (pa_nm tx T p2)))]) (st' := [.int (((nI (pa_nm tx T p2)) * 32) + 18), .ref 57]) (h' := (n, sl, wKK kk, (rdI I (nI (pa_sk tx T p2)) (nI (pa_ed tx T p2)) 39 (nI (pa_nm tx T p2)) 4 (nI (pa_sk tx T p2)) (nI (ce + cs2.length)) (pa_wr cd ce cs2)), L, wQQ q)) 6 rfl ?_
                refine tv_cvE [.int (((nI (pa_nm tx T p2)) * 32) + 18)] [] rfl rfl (by omega) rfl (Nat.le_of_ble_eq_true rfl) (Nat.le_of_ble_eq_true rfl) (Or.inr (Or.inr rfl)) (ev_r_emitF (by decide)) ?_
                refine tv_b (pc' := 268) (ls' := [some (.ref 57), some (.int (nI o)), some (.int (nI (pa_tk tx T p))), some (.int (nI (pa_nm tx T p2)))]) (st' := []) (h' := (n, sl, wKK kk, (rdI I (nI (pa_sk tx T p2)) (nI (pa_ed tx T p2)) 39 (nI (pa_nm tx T p2)) 4 (nI (pa_sk tx T p2)) (nI (ce + cs2.length)) (pa_wr cd ce cs2)), L, wQQ q)) 1 rfl ?_
                refine tv_rv rfl ⟨rfl, _, rfl, ?_, hlast⟩
                unfold pa_part
                try dsimp only
                rw [if_neg (by omega), if_neg (by omega), if_pos (by omega)]
                refine rdO_b (hr2) ?_
                try dsimp only
                rw [if_pos c72]
                rw [if_pos (by omega)]
                first | exact rdO_F (rfl) ⟨by decide, by decide, by omega, by omega⟩ rfl | exact rdO_bl (rfl) (rdO_F (rfl) ⟨by decide, by decide, by omega, by omega⟩ rfl)
              · refine tv_b (pc' := (if (nI (pa_tk tx T p2)) = 21 then 109 else 113)) (ls' := [some (.ref 57), some (.int (nI o)), some (.int (nI (pa_tk tx T p))), some (.int (nI (pa_nm tx T p2)))]) (st' := [.ref 57]) (h' := (n, sl, wKK kk, (rdI I (nI (pa_sk tx T p2)) (nI (pa_ed tx T p2)) (nI (pa_tk tx T p2)) (nI (pa_nm tx T p2)) 0 (-1) (nI (ce + cs2.length)) (pa_wr cd ce cs2)), L, wQQ q)) 8 rfl ?_
                refine tv_t ((nI_eq (a := (pa_tk tx T p2)) (b := 21) (by omega) (by omega)).mpr (by omega)) ?_
                refine tv_b (pc' := 114) (ls' := [some (.ref 57), some (.int (nI o)), some (.int (nI (pa_tk tx T p))), some (.int (nI (pa_nm tx T p2)))]) (st' := [.int 1, .ref 57]) (h' := (n, sl, wKK kk, (rdI I (nI (pa_sk tx T p2)) (nI (pa_ed tx T p2)) (nI (pa_tk tx T p2)) (nI (pa_nm tx T p2)) 0 (-1) (nI (ce + cs2.length)) (pa_wr cd ce cs2)), L, wQQ q)) 2 rfl ?_
                refine tv_cv [.int 1] [] rfl rfl (by omega) rfl (Nat.le_of_ble_eq_true rfl) (Nat.le_of_ble_eq_true rfl) (Or.inr (Or.inr rfl)) (tv_r_ex1 hH hW (by omega) (by omega)) ?_
                rintro rv9 h9 ⟨rfl, I9, rfl, ho, hlx⟩
                rcases rdO_c ho with ⟨k3, l3, s3, a3, m3, c3, d3, hr3, hk3, rfl⟩ | ⟨p3, cs3, m3, hr3, hp3, hn3, rfl⟩
                · refine tv_b (pc' := 121) (ls' := [some (.ref 57), some (.int (nI o)), some (.int (nI (pa_tk tx T p))), some (.int (nI (pa_nm tx T p2)))]) (st' := [.int 32, .int (nI (pa_nm tx T p2)), .ref 57]) (h' := (n, sl, wKK kk, (rdI I (nI s3) (nI a3) 39 m3 (nI k3) (nI l3) (nI c3) d3), L, wQQ q)) 3 rfl ?_
                  refine tv_b (pc' := 122) (ls' := [some (.ref 57), some (.int (nI o)), some (.int (nI (pa_tk tx T p))), some (.int (nI (pa_nm tx T p2)))]) (st' := [.int ((nI (pa_nm tx T p2)) * 32), .ref 57]) (h' := (n, sl, wKK kk, (rdI I (nI s3) (nI a3) 39 m3 (nI k3) (nI l3) (nI c3) d3), L, wQQ q)) 1 rfl ?_
                  refine tv_top (show (nI (pa_nm tx T p2)) * 32 = nI ((pa_nm tx T p2) * 32) from nI_mul (pa_nm tx T p2) 32) ?_
                  refine tv_b (pc' := 124) (ls' := [some (.ref 57), some (.int (nI o)), some (.int (nI (pa_tk tx T p))), some (.int (nI (pa_nm tx T p2)))]) (st' := [.int 18, .int (nI ((pa_nm tx T p2) * 32)), .ref 57]) (h' := (n, sl, wKK kk, (rdI I (nI s3) (nI a3) 39 m3 (nI k3) (nI l3) (nI c3) d3), L, wQQ q)) 1 rfl ?_
                  refine tv_b (pc' := 125) (ls' := [some (.ref 57), some (.int (nI o)), some (.int (nI (pa_tk tx T p))), some (.int (nI (pa_nm tx T p2)))]) (st' := [.int ((nI ((pa_nm tx T p2) * 32)) + 18), .ref 57]) (h' := (n, sl, wKK kk, (rdI I (nI s3) (nI a3) 39 m3 (nI k3) (nI l3) (nI c3) d3), L, wQQ q)) 1 rfl ?_
                  refine tv_top (show (nI ((pa_nm tx T p2) * 32)) + 18 = nI (((pa_nm tx T p2) * 32) + 18) from nI_add ((pa_nm tx T p2) * 32) 18) ?_
                  refine tv_cvE [.int (nI (((pa_nm tx T p2) * 32) + 18))] [] rfl rfl (by omega) rfl (Nat.le_of_ble_eq_true rfl) (Nat.le_of_ble_eq_true rfl) (Or.inr (Or.inr rfl)) (ev_r_emitF (rd_k hk3)) ?_
                  refine tv_b (pc' := 268) (ls' := [some (.ref 57), some (.int (nI o)), some (.int (nI (pa_tk tx T p))), some (.int (nI (pa_nm tx T p2)))]) (st' := []) (h' := (n, sl, wKK kk, (rdI I (nI s3) (nI a3) 39 m3 (nI k3) (nI l3) (nI c3) d3), L, wQQ q)) 1 rfl ?_
                  refine tv_rv rfl ⟨rfl, _, rfl, ?_, hlast⟩
                  unfold pa_part
                  try dsimp only
                  rw [if_neg (by omega), if_neg (by omega), if_pos (by omega)]
                  refine rdO_b (hr2) ?_
                  try dsimp only
                  rw [if_pos c72]
                  rw [if_neg (by omega)]
                  first | exact rdO_bl (hr3) (rdO_F (hr3) hk3 rfl) | exact rdO_F (hr3) hk3 rfl
                · have ht3 := pa_tk_lt (b := tx) (n := T) p3
                  have hg3 := pa_edo (tx := tx) (T := T) p3
                  obtain ⟨hl3, hv3⟩ := hlx _ _ hr3
                  have hj3 := pa_ed_le (b := tx) (n := T) (p := p3) hp3.1
                  obtain ⟨hq3, hz3⟩ := pa_nx_r hr3
                  have hy3 : cs3.length = 0 := by rw [hz3]; rfl
                  refine tv_b (pc' := 121) (ls' := [some (.ref 57), some (.int (nI o)), some (.int (nI (pa_tk tx T p))), some (.int (nI (pa_nm tx T p2)))]) (st' := [.int 32, .int (nI (pa_nm tx T p2)), .ref 57]) (h' := (n, sl, wKK kk, (rdI I (nI (pa_sk tx T p3)) (nI (pa_ed tx T p3)) (nI (pa_tk tx T p3)) m3 0 (-1) (nI (ce + cs2.length + cs3.length)) (pa_wr (pa_wr cd ce cs2) (ce + cs2.length) cs3)), L, wQQ q)) 3 rfl ?_
                  refine tv_b (pc' := 122) (ls' := [some (.ref 57), some (.int (nI o)), some (.int (nI (pa_tk tx T p))), some (.int (nI (pa_nm tx T p2)))]) (st' := [.int ((nI (pa_nm tx T p2)) * 32), .ref 57]) (h' := (n, sl, wKK kk, (rdI I (nI (pa_sk tx T p3)) (nI (pa_ed tx T p3)) (nI (pa_tk tx T p3)) m3 0 (-1) (nI (ce + cs2.length + cs3.length)) (pa_wr (pa_wr cd ce cs2) (ce + cs2.length) cs3)), L, wQQ q)) 1 rfl ?_
                  refine tv_top (show (nI (pa_nm tx T p2)) * 32 = nI ((pa_nm tx T p2) * 32) from nI_mul (pa_nm tx T p2) 32) ?_
                  refine tv_b (pc' := 124) (ls' := [some (.ref 57), some (.int (nI o)), some (.int (nI (pa_tk tx T p))), some (.int (nI (pa_nm tx T p2)))]) (st' := [.int 18, .int (nI ((pa_nm tx T p2) * 32)), .ref 57]) (h' := (n, sl, wKK kk, (rdI I (nI (pa_sk tx T p3)) (nI (pa_ed tx T p3)) (nI (pa_tk tx T p3)) m3 0 (-1) (nI (ce + cs2.length + cs3.length)) (pa_wr (pa_wr cd ce cs2) (ce + cs2.length) cs3)), L, wQQ q)) 1 rfl ?_
                  refine tv_b (pc' := 125) (ls' := [some (.ref 57), some (.int (nI o)), some (.int (nI (pa_tk tx T p))), some (.int (nI (pa_nm tx T p2)))]) (st' := [.int ((nI ((pa_nm tx T p2) * 32)) + 18), .ref 57]) (h' := (n, sl, wKK kk, (rdI I (nI (pa_sk tx T p3)) (nI (pa_ed tx T p3)) (nI (pa_tk tx T p3)) m3 0 (-1) (nI (ce + cs2.length + cs3.length)) (pa_wr (pa_wr cd ce cs2) (ce + cs2.length) cs3)), L, wQQ q)) 1 rfl ?_
                  refine tv_top (show (nI ((pa_nm tx T p2) * 32)) + 18 = nI (((pa_nm tx T p2) * 32) + 18) from nI_add ((pa_nm tx T p2) * 32) 18) ?_
                  refine tv_cvE [.int (nI (((pa_nm tx T p2) * 32) + 18))] [] rfl rfl (by omega) rfl (Nat.le_of_ble_eq_true rfl) (Nat.le_of_ble_eq_true rfl) (Or.inr (Or.inr rfl)) (ev_r_emit (by omega)) ?_
                  refine tv_b (pc' := 268) (ls' := [some (.ref 57), some (.int (nI o)), some (.int (nI (pa_tk tx T p))), some (.int (nI (pa_nm tx T p2)))]) (st' := []) (h' := (n, sl, wKK kk, (rdI I (nI (pa_sk tx T p3)) (nI (pa_ed tx T p3)) (nI (pa_tk tx T p3)) m3 0 (-1) (nI (ce + cs2.length + cs3.length + 1)) (upd (pa_wr (pa_wr cd ce cs2) (ce + cs2.length) cs3) (ce + cs2.length + cs3.length) (nI (((pa_nm tx T p2) * 32) + 18)))), L, wQQ q)) 1 rfl ?_
                  refine tv_rv rfl ⟨rfl, _, rfl, ?_, hlast⟩
                  unfold pa_part
                  try dsimp only
                  rw [if_neg (by omega), if_neg (by omega), if_pos (by omega)]
                  refine rdO_b (hr2) ?_
                  try dsimp only
                  rw [if_pos c72]
                  rw [if_neg (by omega)]
                  refine rdO_b (hr3) ?_
                  try dsimp only
                  exact rdO_em ⟨by omega, by omega⟩ hn3 rfl
            · refine tv_b (pc' := (if (nI (pa_tk tx T p2)) = 21 then 109 else 113)) (ls' := [some (.ref 57), some (.int (nI o)), some (.int (nI (pa_tk tx T p))), some (.int m2)]) (st' := [.ref 57]) (h' := (n, sl, wKK kk, (rdI I (nI (pa_sk tx T p2)) (nI (pa_ed tx T p2)) (nI (pa_tk tx T p2)) m2 0 (-1) (nI (ce + cs2.length)) (pa_wr cd ce cs2)), L, wQQ q)) 8 rfl ?_
              refine tv_f (fun hq => absurd ((nI_eq (a := (pa_tk tx T p2)) (b := 21) (by omega) (by omega)).mp hq) (by omega)) ?_
              refine tv_b (pc' := 114) (ls' := [some (.ref 57), some (.int (nI o)), some (.int (nI (pa_tk tx T p))), some (.int m2)]) (st' := [.int 0, .ref 57]) (h' := (n, sl, wKK kk, (rdI I (nI (pa_sk tx T p2)) (nI (pa_ed tx T p2)) (nI (pa_tk tx T p2)) m2 0 (-1) (nI (ce + cs2.length)) (pa_wr cd ce cs2)), L, wQQ q)) 1 rfl ?_
              refine tv_cvE [.int 0] [] rfl rfl (by omega) rfl (Nat.le_of_ble_eq_true rfl) (Nat.le_of_ble_eq_true rfl) (Or.inr (Or.inr rfl)) (ev_r_ex0) ?_
              refine tv_b (pc' := 125) (ls' := [some (.ref 57), some (.int (nI o)), some (.int (nI (pa_tk tx T p))), some (.int m2)]) (st' := [.int ((m2 * 32) + 18), .ref 57]) (h' := (n, sl, wKK kk, (rdI I (nI (pa_sk tx T p2)) (nI (pa_ed tx T p2)) 39 m2 1 (nI (pa_sk tx T p2)) (nI (ce + cs2.length)) (pa_wr cd ce cs2)), L, wQQ q)) 6 rfl ?_
              refine tv_cvE [.int ((m2 * 32) + 18)] [] rfl rfl (by omega) rfl (Nat.le_of_ble_eq_true rfl) (Nat.le_of_ble_eq_true rfl) (Or.inr (Or.inr rfl)) (ev_r_emitF (by decide)) ?_
              refine tv_b (pc' := 268) (ls' := [some (.ref 57), some (.int (nI o)), some (.int (nI (pa_tk tx T p))), some (.int m2)]) (st' := []) (h' := (n, sl, wKK kk, (rdI I (nI (pa_sk tx T p2)) (nI (pa_ed tx T p2)) 39 m2 1 (nI (pa_sk tx T p2)) (nI (ce + cs2.length)) (pa_wr cd ce cs2)), L, wQQ q)) 1 rfl ?_
              refine tv_rv rfl ⟨rfl, _, rfl, ?_, hlast⟩
              unfold pa_part
              try dsimp only
              rw [if_neg (by omega), if_neg (by omega), if_pos (by omega)]
              refine rdO_b (hr2) ?_
              try dsimp only
              rw [if_neg c72]
              first | exact rdO_F (rfl) ⟨by decide, by decide, by omega, by omega⟩ rfl | exact rdO_bl (rfl) (rdO_F (rfl) ⟨by decide, by decide, by omega, by omega⟩ rfl)
        · refine tv_b (pc' := (if (nI (pa_tk tx T p)) = 32 then 137 else 175)) (ls' := [some (.ref 57), some (.int (nI o)), some (.int (nI (pa_tk tx T p))), none]) (st' := []) (h' := (n, sl, wKK kk, (rdI I (nI (pa_sk tx T p)) (nI (pa_ed tx T p)) (nI (pa_tk tx T p)) nm 0 (-1) (nI ce) cd), L, wQQ q)) 3 rfl ?_
          refine tv_ifq (nI_eq (a := (pa_tk tx T p)) (b := 32) (by omega) (by omega)) (fun c134 => ?_) (fun c134 => ?_)
          · refine tv_b (pc' := 141) (ls' := [some (.ref 57), some (.int (nI o)), some (.int (nI (pa_tk tx T p))), none]) (st' := [.int (nI o), .int 32, .ref 57]) (h' := (n, sl, wKK kk, (rdI I (nI (pa_sk tx T p)) (nI (pa_ed tx T p)) (nI (pa_tk tx T p)) nm 0 (-1) (nI ce) cd), L, wQQ q)) 3 rfl ?_
            refine tv_cvE [.int 32, .int (nI o)] [] rfl rfl (by omega) rfl (Nat.le_of_ble_eq_true rfl) (Nat.le_of_ble_eq_true rfl) (Or.inr (Or.inr rfl)) (ev_r_op5_32 c134 (by omega) (by omega)) ?_
            refine tv_b (pc' := 268) (ls' := [some (.ref 57), some (.int (nI o)), some (.int (nI (pa_tk tx T p))), none]) (st' := []) (h' := (n, sl, wKK kk, (rdI I (nI (pa_sk tx T p)) (nI (pa_ed tx T p)) 39 nm 5 (nI (pa_sk tx T p)) (nI ce) cd), L, wQQ q)) 1 rfl ?_
            refine tv_rv rfl ⟨rfl, _, rfl, ?_, hlast⟩
            unfold pa_part
            try dsimp only
            rw [if_neg (by omega), if_neg (by omega), if_neg (by omega), if_pos (by omega)]
            rw [if_pos hz]
            first | exact rdO_F (rfl) ⟨by decide, by decide, by omega, by omega⟩ rfl | exact rdO_bl (rfl) (rdO_F (rfl) ⟨by decide, by decide, by omega, by omega⟩ rfl)
          · refine tv_b (pc' := (if (nI (pa_tk tx T p)) = 19 then 187 else 181)) (ls' := [some (.ref 57), some (.int (nI o)), some (.int (nI (pa_tk tx T p))), none]) (st' := []) (h' := (n, sl, wKK kk, (rdI I (nI (pa_sk tx T p)) (nI (pa_ed tx T p)) (nI (pa_tk tx T p)) nm 0 (-1) (nI ce) cd), L, wQQ q)) 3 rfl ?_
            refine tv_ifq (nI_eq (a := (pa_tk tx T p)) (b := 19) (by omega) (by omega)) (fun c178 => ?_) (fun c178 => ?_)
            · refine tv_b (pc' := 188) (ls' := [some (.ref 57), some (.int (nI o)), some (.int (nI (pa_tk tx T p))), none]) (st' := [.ref 57]) (h' := (n, sl, wKK kk, (rdI I (nI (pa_sk tx T p)) (nI (pa_ed tx T p)) (nI (pa_tk tx T p)) nm 0 (-1) (nI ce) cd), L, wQQ q)) 1 rfl ?_
              refine tv_cv [] [] rfl rfl (by omega) rfl (Nat.le_of_ble_eq_true rfl) (Nat.le_of_ble_eq_true rfl) (Or.inr (Or.inr rfl)) (tv_r_nx hH hW (by omega) (by omega)) ?_
              rintro rv9 h9 ⟨rfl, I9, rfl, ho, hlx⟩
              rcases rdO_c ho with ⟨k4, l4, s4, a4, m4, c4, d4, hr4, hk4, rfl⟩ | ⟨p4, cs4, m4, hr4, hp4, hn4, rfl⟩
              · refine tv_b (pc' := 195) (ls' := [some (.ref 57), some (.int (nI o)), some (.int (nI (pa_tk tx T p))), none]) (st' := [.int (nI o), .int 32, .ref 57]) (h' := (n, sl, wKK kk, (rdI I (nI s4) (nI a4) 39 m4 (nI k4) (nI l4) (nI c4) d4), L, wQQ q)) 3 rfl ?_
                refine tv_cvE [.int 32, .int (nI o)] [] rfl rfl (by omega) rfl (Nat.le_of_ble_eq_true rfl) (Nat.le_of_ble_eq_true rfl) (Or.inr (Or.inr rfl)) (ev_r_opensF (rd_k hk4)) ?_
                refine tv_b (pc' := 268) (ls' := [some (.ref 57), some (.int (nI o)), some (.int (nI (pa_tk tx T p))), none]) (st' := []) (h' := (n, sl, wKK kk, (rdI I (nI s4) (nI a4) 39 m4 (nI k4) (nI l4) (nI c4) d4), L, wQQ q)) 1 rfl ?_
                refine tv_rv rfl ⟨rfl, _, rfl, ?_, hlast⟩
                unfold pa_part
                try dsimp only
                rw [if_neg (by omega), if_neg (by omega), if_neg (by omega), if_neg (by omega), if_pos (by omega)]
                first | exact rdO_bl (hr4) (rdO_F (hr4) hk4 rfl) | exact rdO_F (hr4) hk4 rfl
              · have ht4 := pa_tk_lt (b := tx) (n := T) p4
                have hg4 := pa_edo (tx := tx) (T := T) p4
                obtain ⟨hl4, hv4⟩ := hlx _ _ hr4
                have hj4 := pa_ed_le (b := tx) (n := T) (p := p4) hp4.1
                obtain ⟨hq4, hz4⟩ := pa_nx_r hr4
                have hy4 : cs4.length = 0 := by rw [hz4]; rfl
                by_cases hb : pa_tk tx T p4 = 32
                · refine tv_b (pc' := 195) (ls' := [some (.ref 57), some (.int (nI o)), some (.int (nI (pa_tk tx T p))), none]) (st' := [.int (nI o), .int 32, .ref 57]) (h' := (n, sl, wKK kk, (rdI I (nI (pa_sk tx T p4)) (nI (pa_ed tx T p4)) (nI (pa_tk tx T p4)) m4 0 (-1) (nI (ce + cs4.length)) (pa_wr cd ce cs4)), L, wQQ q)) 3 rfl ?_
                  refine tv_cvE [.int 32, .int (nI o)] [] rfl rfl (by omega) rfl (Nat.le_of_ble_eq_true rfl) (Nat.le_of_ble_eq_true rfl) (Or.inr (Or.inr rfl)) (ev_r_op5_32 hb (by omega) (by omega)) ?_
                  refine tv_b (pc' := 268) (ls' := [some (.ref 57), some (.int (nI o)), some (.int (nI (pa_tk tx T p))), none]) (st' := []) (h' := (n, sl, wKK kk, (rdI I (nI (pa_sk tx T p4)) (nI (pa_ed tx T p4)) 39 m4 5 (nI (pa_sk tx T p4)) (nI (ce + cs4.length)) (pa_wr cd ce cs4)), L, wQQ q)) 1 rfl ?_
                  refine tv_rv rfl ⟨rfl, _, rfl, ?_, hlast⟩
                  unfold pa_part
                  try dsimp only
                  rw [if_neg (by omega), if_neg (by omega), if_neg (by omega), if_neg (by omega), if_pos (by omega)]
                  refine rdO_b (hr4) ?_
                  try dsimp only
                  rw [if_pos hb]
                  rw [if_pos hz]
                  first | exact rdO_F (rfl) ⟨by decide, by decide, by omega, by omega⟩ rfl | exact rdO_bl (rfl) (rdO_F (rfl) ⟨by decide, by decide, by omega, by omega⟩ rfl)
                · refine tv_b (pc' := 195) (ls' := [some (.ref 57), some (.int (nI o)), some (.int (nI (pa_tk tx T p))), none]) (st' := [.int (nI o), .int 32, .ref 57]) (h' := (n, sl, wKK kk, (rdI I (nI (pa_sk tx T p4)) (nI (pa_ed tx T p4)) (nI (pa_tk tx T p4)) m4 0 (-1) (nI (ce + cs4.length)) (pa_wr cd ce cs4)), L, wQQ q)) 3 rfl ?_
                  refine tv_cvE [.int 32, .int (nI o)] [] rfl rfl (by omega) rfl (Nat.le_of_ble_eq_true rfl) (Nat.le_of_ble_eq_true rfl) (Or.inr (Or.inr rfl)) (ev_r_op1_32 hb (by omega)) ?_
                  refine tv_b (pc' := 268) (ls' := [some (.ref 57), some (.int (nI o)), some (.int (nI (pa_tk tx T p))), none]) (st' := []) (h' := (n, sl, wKK kk, (rdI I (nI (pa_sk tx T p4)) (nI (pa_ed tx T p4)) 39 m4 1 (nI (pa_sk tx T p4)) (nI (ce + cs4.length)) (pa_wr cd ce cs4)), L, wQQ q)) 1 rfl ?_
                  refine tv_rv rfl ⟨rfl, _, rfl, ?_, hlast⟩
                  unfold pa_part
                  try dsimp only
                  rw [if_neg (by omega), if_neg (by omega), if_neg (by omega), if_neg (by omega), if_pos (by omega)]
                  refine rdO_b (hr4) ?_
                  try dsimp only
                  rw [if_neg hb]
                  first | exact rdO_F (rfl) ⟨by decide, by decide, by omega, by omega⟩ rfl | exact rdO_bl (rfl) (rdO_F (rfl) ⟨by decide, by decide, by omega, by omega⟩ rfl)
            · refine tv_b (pc' := (if (nI (pa_tk tx T p)) = 20 then 187 else 259)) (ls' := [some (.ref 57), some (.int (nI o)), some (.int (nI (pa_tk tx T p))), none]) (st' := []) (h' := (n, sl, wKK kk, (rdI I (nI (pa_sk tx T p)) (nI (pa_ed tx T p)) (nI (pa_tk tx T p)) nm 0 (-1) (nI ce) cd), L, wQQ q)) 3 rfl ?_
              refine tv_ifq (nI_eq (a := (pa_tk tx T p)) (b := 20) (by omega) (by omega)) (fun c184 => ?_) (fun c184 => ?_)
              · refine tv_b (pc' := 188) (ls' := [some (.ref 57), some (.int (nI o)), some (.int (nI (pa_tk tx T p))), none]) (st' := [.ref 57]) (h' := (n, sl, wKK kk, (rdI I (nI (pa_sk tx T p)) (nI (pa_ed tx T p)) (nI (pa_tk tx T p)) nm 0 (-1) (nI ce) cd), L, wQQ q)) 1 rfl ?_
                refine tv_cv [] [] rfl rfl (by omega) rfl (Nat.le_of_ble_eq_true rfl) (Nat.le_of_ble_eq_true rfl) (Or.inr (Or.inr rfl)) (tv_r_nx hH hW (by omega) (by omega)) ?_
                rintro rv9 h9 ⟨rfl, I9, rfl, ho, hlx⟩
                rcases rdO_c ho with ⟨k5, l5, s5, a5, m5, c5, d5, hr5, hk5, rfl⟩ | ⟨p5, cs5, m5, hr5, hp5, hn5, rfl⟩
                · refine tv_b (pc' := 195) (ls' := [some (.ref 57), some (.int (nI o)), some (.int (nI (pa_tk tx T p))), none]) (st' := [.int (nI o), .int 32, .ref 57]) (h' := (n, sl, wKK kk, (rdI I (nI s5) (nI a5) 39 m5 (nI k5) (nI l5) (nI c5) d5), L, wQQ q)) 3 rfl ?_
                  refine tv_cvE [.int 32, .int (nI o)] [] rfl rfl (by omega) rfl (Nat.le_of_ble_eq_true rfl) (Nat.le_of_ble_eq_true rfl) (Or.inr (Or.inr rfl)) (ev_r_opensF (rd_k hk5)) ?_
                  refine tv_b (pc' := 268) (ls' := [some (.ref 57), some (.int (nI o)), some (.int (nI (pa_tk tx T p))), none]) (st' := []) (h' := (n, sl, wKK kk, (rdI I (nI s5) (nI a5) 39 m5 (nI k5) (nI l5) (nI c5) d5), L, wQQ q)) 1 rfl ?_
                  refine tv_rv rfl ⟨rfl, _, rfl, ?_, hlast⟩
                  unfold pa_part
                  try dsimp only
                  rw [if_neg (by omega), if_neg (by omega), if_neg (by omega), if_neg (by omega), if_pos (by omega)]
                  first | exact rdO_bl (hr5) (rdO_F (hr5) hk5 rfl) | exact rdO_F (hr5) hk5 rfl
                · have ht5 := pa_tk_lt (b := tx) (n := T) p5
                  have hg5 := pa_edo (tx := tx) (T := T) p5
                  obtain ⟨hl5, hv5⟩ := hlx _ _ hr5
                  have hj5 := pa_ed_le (b := tx) (n := T) (p := p5) hp5.1
                  obtain ⟨hq5, hz5⟩ := pa_nx_r hr5
                  have hy5 : cs5.length = 0 := by rw [hz5]; rfl
                  by_cases hb : pa_tk tx T p5 = 32
                  · refine tv_b (pc' := 195) (ls' := [some (.ref 57), some (.int (nI o)), some (.int (nI (pa_tk tx T p))), none]) (st' := [.int (nI o), .int 32, .ref 57]) (h' := (n, sl, wKK kk, (rdI I (nI (pa_sk tx T p5)) (nI (pa_ed tx T p5)) (nI (pa_tk tx T p5)) m5 0 (-1) (nI (ce + cs5.length)) (pa_wr cd ce cs5)), L, wQQ q)) 3 rfl ?_
                    refine tv_cvE [.int 32, .int (nI o)] [] rfl rfl (by omega) rfl (Nat.le_of_ble_eq_true rfl) (Nat.le_of_ble_eq_true rfl) (Or.inr (Or.inr rfl)) (ev_r_op5_32 hb (by omega) (by omega)) ?_
                    refine tv_b (pc' := 268) (ls' := [some (.ref 57), some (.int (nI o)), some (.int (nI (pa_tk tx T p))), none]) (st' := []) (h' := (n, sl, wKK kk, (rdI I (nI (pa_sk tx T p5)) (nI (pa_ed tx T p5)) 39 m5 5 (nI (pa_sk tx T p5)) (nI (ce + cs5.length)) (pa_wr cd ce cs5)), L, wQQ q)) 1 rfl ?_
                    refine tv_rv rfl ⟨rfl, _, rfl, ?_, hlast⟩
                    unfold pa_part
                    try dsimp only
                    rw [if_neg (by omega), if_neg (by omega), if_neg (by omega), if_neg (by omega), if_pos (by omega)]
                    refine rdO_b (hr5) ?_
                    try dsimp only
                    rw [if_pos hb]
                    rw [if_pos hz]
                    first | exact rdO_F (rfl) ⟨by decide, by decide, by omega, by omega⟩ rfl | exact rdO_bl (rfl) (rdO_F (rfl) ⟨by decide, by decide, by omega, by omega⟩ rfl)
                  · refine tv_b (pc' := 195) (ls' := [some (.ref 57), some (.int (nI o)), some (.int (nI (pa_tk tx T p))), none]) (st' := [.int (nI o), .int 32, .ref 57]) (h' := (n, sl, wKK kk, (rdI I (nI (pa_sk tx T p5)) (nI (pa_ed tx T p5)) (nI (pa_tk tx T p5)) m5 0 (-1) (nI (ce + cs5.length)) (pa_wr cd ce cs5)), L, wQQ q)) 3 rfl ?_
                    refine tv_cvE [.int 32, .int (nI o)] [] rfl rfl (by omega) rfl (Nat.le_of_ble_eq_true rfl) (Nat.le_of_ble_eq_true rfl) (Or.inr (Or.inr rfl)) (ev_r_op1_32 hb (by omega)) ?_
                    refine tv_b (pc' := 268) (ls' := [some (.ref 57), some (.int (nI o)), some (.int (nI (pa_tk tx T p))), none]) (st' := []) (h' := (n, sl, wKK kk, (rdI I (nI (pa_sk tx T p5)) (nI (pa_ed tx T p5)) 39 m5 1 (nI (pa_sk tx T p5)) (nI (ce + cs5.length)) (pa_wr cd ce cs5)), L, wQQ q)) 1 rfl ?_
                    refine tv_rv rfl ⟨rfl, _, rfl, ?_, hlast⟩
                    unfold pa_part
                    try dsimp only
                    rw [if_neg (by omega), if_neg (by omega), if_neg (by omega), if_neg (by omega), if_pos (by omega)]
                    refine rdO_b (hr5) ?_
                    try dsimp only
                    rw [if_neg hb]
                    first | exact rdO_F (rfl) ⟨by decide, by decide, by omega, by omega⟩ rfl | exact rdO_bl (rfl) (rdO_F (rfl) ⟨by decide, by decide, by omega, by omega⟩ rfl)
              · refine tv_b (pc' := 265) (ls' := [some (.ref 57), some (.int (nI o)), some (.int (nI (pa_tk tx T p))), none]) (st' := [.int (nI (pa_sk tx T p)), .int 1, .ref 57]) (h' := (n, sl, wKK kk, (rdI I (nI (pa_sk tx T p)) (nI (pa_ed tx T p)) (nI (pa_tk tx T p)) nm 0 (-1) (nI ce) cd), L, wQQ q)) 4 rfl ?_
                refine tv_cvE [.int 1, .int (nI (pa_sk tx T p))] [] rfl rfl (by omega) rfl (Nat.le_of_ble_eq_true rfl) (Nat.le_of_ble_eq_true rfl) (Or.inr (Or.inr rfl)) (ev_r_fail0) ?_
                refine tv_rv rfl ⟨rfl, _, rfl, ?_, hlast⟩
                unfold pa_part
                try dsimp only
                rw [if_neg (by omega), if_neg (by omega), if_neg (by omega), if_neg (by omega), if_neg (by omega)]
                first | exact rdO_F (rfl) ⟨by decide, by decide, by omega, by omega⟩ rfl | exact rdO_bl (rfl) (rdO_F (rfl) ⟨by decide, by decide, by omega, by omega⟩ rfl)
      · refine tv_b (pc' := (if 17 < (nI (pa_tk tx T p)) then 56 else 44)) (ls' := [some (.ref 57), some (.int (nI o)), some (.int (nI (pa_tk tx T p))), none]) (st' := []) (h' := (n, sl, wKK kk, (rdI I (nI (pa_sk tx T p)) (nI (pa_ed tx T p)) (nI (pa_tk tx T p)) nm 0 (-1) (nI ce) cd), L, wQQ q)) 3 rfl ?_
        refine tv_ifq (nI_ltI (a := 17) (b := (pa_tk tx T p)) (by omega) (by omega)) (fun c41 => ?_) (fun c41 => ?_)
        · refine tv_b (pc' := (if (nI (pa_tk tx T p)) = 18 then 62 else 131)) (ls' := [some (.ref 57), some (.int (nI o)), some (.int (nI (pa_tk tx T p))), none]) (st' := []) (h' := (n, sl, wKK kk, (rdI I (nI (pa_sk tx T p)) (nI (pa_ed tx T p)) (nI (pa_tk tx T p)) nm 0 (-1) (nI ce) cd), L, wQQ q)) 3 rfl ?_
          refine tv_ifq (nI_eq (a := (pa_tk tx T p)) (b := 18) (by omega) (by omega)) (fun c59 => ?_) (fun c59 => ?_)
          · refine tv_b (pc' := 63) (ls' := [some (.ref 57), some (.int (nI o)), some (.int (nI (pa_tk tx T p))), none]) (st' := [.ref 57]) (h' := (n, sl, wKK kk, (rdI I (nI (pa_sk tx T p)) (nI (pa_ed tx T p)) (nI (pa_tk tx T p)) nm 0 (-1) (nI ce) cd), L, wQQ q)) 1 rfl ?_
            refine tv_cv [] [] rfl rfl (by omega) rfl (Nat.le_of_ble_eq_true rfl) (Nat.le_of_ble_eq_true rfl) (Or.inr (Or.inr rfl)) (tv_r_nx hH hW (by omega) (by omega)) ?_
            rintro rv9 h9 ⟨rfl, I9, rfl, ho, hlx⟩
            rcases rdO_c ho with ⟨k6, l6, s6, a6, m6, c6, d6, hr6, hk6, rfl⟩ | ⟨p6, cs6, m6, hr6, hp6, hn6, rfl⟩
            · refine tv_b (pc' := 114) (ls' := [some (.ref 57), some (.int (nI o)), some (.int (nI (pa_tk tx T p))), some (.int m6)]) (st' := [.int 0, .ref 57]) (h' := (n, sl, wKK kk, (rdI I (nI s6) (nI a6) 39 m6 (nI k6) (nI l6) (nI c6) d6), L, wQQ q)) 13 rfl ?_
              refine tv_cvE [.int 0] [] rfl rfl (by omega) rfl (Nat.le_of_ble_eq_true rfl) (Nat.le_of_ble_eq_true rfl) (Or.inr (Or.inr rfl)) (ev_r_expectF0 (rd_k hk6)) ?_
              refine tv_b (pc' := 125) (ls' := [some (.ref 57), some (.int (nI o)), some (.int (nI (pa_tk tx T p))), some (.int m6)]) (st' := [.int ((m6 * 32) + 18), .ref 57]) (h' := (n, sl, wKK kk, (rdI I (nI s6) (nI a6) 39 m6 (nI k6) (nI l6) (nI c6) d6), L, wQQ q)) 6 rfl ?_
              refine tv_cvE [.int ((m6 * 32) + 18)] [] rfl rfl (by omega) rfl (Nat.le_of_ble_eq_true rfl) (Nat.le_of_ble_eq_true rfl) (Or.inr (Or.inr rfl)) (ev_r_emitF (rd_k hk6)) ?_
              refine tv_b (pc' := 268) (ls' := [some (.ref 57), some (.int (nI o)), some (.int (nI (pa_tk tx T p))), some (.int m6)]) (st' := []) (h' := (n, sl, wKK kk, (rdI I (nI s6) (nI a6) 39 m6 (nI k6) (nI l6) (nI c6) d6), L, wQQ q)) 1 rfl ?_
              refine tv_rv rfl ⟨rfl, _, rfl, ?_, hlast⟩
              unfold pa_part
              try dsimp only
              rw [if_neg (by omega), if_neg (by omega), if_pos (by omega)]
              first | exact rdO_bl (hr6) (rdO_F (hr6) hk6 rfl) | exact rdO_F (hr6) hk6 rfl
            · have ht6 := pa_tk_lt (b := tx) (n := T) p6
              have hg6 := pa_edo (tx := tx) (T := T) p6
              obtain ⟨hl6, hv6⟩ := hlx _ _ hr6
              have hj6 := pa_ed_le (b := tx) (n := T) (p := p6) hp6.1
              obtain ⟨hq6, hz6⟩ := pa_nx_r hr6
              have hy6 : cs6.length = 0 := by rw [hz6]; rfl
              refine tv_b (pc' := (if (nI (pa_tk tx T p6)) = 21 then 75 else 94)) (ls' := [some (.ref 57), some (.int (nI o)), some (.int (nI (pa_tk tx T p))), none]) (st' := []) (h' := (n, sl, wKK kk, (rdI I (nI (pa_sk tx T p6)) (nI (pa_ed tx T p6)) (nI (pa_tk tx T p6)) m6 0 (-1) (nI (ce + cs6.length)) (pa_wr cd ce cs6)), L, wQQ q)) 4 rfl ?_
              refine tv_ifq (nI_eq (a := (pa_tk tx T p6)) (b := 21) (by omega) (by omega)) (fun c72 => ?_) (fun c72 => ?_)
              · have hsub := hn6 c72
                subst hsub
                refine tv_b (pc' := 79) (ls' := [some (.ref 57), some (.int (nI o)), some (.int (nI (pa_tk tx T p))), none]) (st' := [.int (nI (pa_nm tx T p6))]) (h' := (n, sl, wKK kk, (rdI I (nI (pa_sk tx T p6)) (nI (pa_ed tx T p6)) (nI (pa_tk tx T p6)) (nI (pa_nm tx T p6)) 0 (-1) (nI (ce + cs6.length)) (pa_wr cd ce cs6)), L, wQQ q)) 2 rfl ?_
                have hnl := pa_nm_lt hl6 c72
                refine tv_csE [.int (nI (pa_nm tx T p6))] [] rfl rfl (by omega) rfl (Nat.le_of_ble_eq_true rfl) (Nat.le_of_ble_eq_true rfl) (ev_r_isCol (by omega)) ?_
                refine tv_b (pc' := (if (if pa_nm tx T p6 < 16 then 1 else 0) = 0 then 85 else 94)) (ls' := [some (.ref 57), some (.int (nI o)), some (.int (nI (pa_tk tx T p))), none]) (st' := []) (h' := (n, sl, wKK kk, (rdI I (nI (pa_sk tx T p6)) (nI (pa_ed tx T p6)) (nI (pa_tk tx T p6)) (nI (pa_nm tx T p6)) 0 (-1) (nI (ce + cs6.length)) (pa_wr cd ce cs6)), L, wQQ q)) 1 rfl ?_
                refine tv_b0 (fun c82 => ?_) (fun c82 => ?_)
                · refine tv_b (pc' := 91) (ls' := [some (.ref 57), some (.int (nI o)), some (.int (nI (pa_tk tx T p))), none]) (st' := [.int (nI (pa_sk tx T p6)), .int 4, .ref 57]) (h' := (n, sl, wKK kk, (rdI I (nI (pa_sk tx T p6)) (nI (pa_ed tx T p6)) (nI (pa_tk tx T p6)) (nI (pa_nm tx T p6)) 0 (-1) (nI (ce + cs6.length)) (pa_wr cd ce cs6)), L, wQQ q)) 4 rfl ?_
                  refine tv_cvE [.int 4, .int (nI (pa_sk tx T p6))] [] rfl rfl (by omega) rfl (Nat.le_of_ble_eq_true rfl) (Nat.le_of_ble_eq_true rfl) (Or.inr (Or.inr rfl)) (ev_r_fail0) ?_
                  refine tv_b (pc' := 114) (ls' := [some (.ref 57), some (.int (nI o)), some (.int (nI (pa_tk tx T p))), some (.int (nI (pa_nm tx T p6)))]) (st' := [.int 0, .ref 57]) (h' := (n, sl, wKK kk, (rdI I (nI (pa_sk tx T p6)) (nI (pa_ed tx T p6)) 39 (nI (pa_nm tx T p6)) 4 (nI (pa_sk tx T p6)) (nI (ce + cs6.length)) (pa_wr cd ce cs6)), L, wQQ q)) 9 rfl ?_
                  refine tv_cvE [.int 0] [] rfl rfl (by omega) rfl (Nat.le_of_ble_eq_true rfl) (Nat.le_of_ble_eq_true rfl) (Or.inr (Or.inr rfl)) (ev_r_expectF0 (by decide)) ?_
                  refine tv_b (pc' := 125) (ls' := [some (.ref 57), some (.int (nI o)), some (.int (nI (pa_tk tx T p))), some (.int (nI (pa_nm tx T p6)))]) (st' := [.int (((nI (pa_nm tx T p6)) * 32) + 18), .ref 57]) (h' := (n, sl, wKK kk, (rdI I (nI (pa_sk tx T p6)) (nI (pa_ed tx T p6)) 39 (nI (pa_nm tx T p6)) 4 (nI (pa_sk tx T p6)) (nI (ce + cs6.length)) (pa_wr cd ce cs6)), L, wQQ q)) 6 rfl ?_
                  refine tv_cvE [.int (((nI (pa_nm tx T p6)) * 32) + 18)] [] rfl rfl (by omega) rfl (Nat.le_of_ble_eq_true rfl) (Nat.le_of_ble_eq_true rfl) (Or.inr (Or.inr rfl)) (ev_r_emitF (by decide)) ?_
                  refine tv_b (pc' := 268) (ls' := [some (.ref 57), some (.int (nI o)), some (.int (nI (pa_tk tx T p))), some (.int (nI (pa_nm tx T p6)))]) (st' := []) (h' := (n, sl, wKK kk, (rdI I (nI (pa_sk tx T p6)) (nI (pa_ed tx T p6)) 39 (nI (pa_nm tx T p6)) 4 (nI (pa_sk tx T p6)) (nI (ce + cs6.length)) (pa_wr cd ce cs6)), L, wQQ q)) 1 rfl ?_
                  refine tv_rv rfl ⟨rfl, _, rfl, ?_, hlast⟩
                  unfold pa_part
                  try dsimp only
                  rw [if_neg (by omega), if_neg (by omega), if_pos (by omega)]
                  refine rdO_b (hr6) ?_
                  try dsimp only
                  rw [if_pos c72]
                  rw [if_pos (by omega)]
                  first | exact rdO_F (rfl) ⟨by decide, by decide, by omega, by omega⟩ rfl | exact rdO_bl (rfl) (rdO_F (rfl) ⟨by decide, by decide, by omega, by omega⟩ rfl)
                · refine tv_b (pc' := (if (nI (pa_tk tx T p6)) = 21 then 109 else 113)) (ls' := [some (.ref 57), some (.int (nI o)), some (.int (nI (pa_tk tx T p))), some (.int (nI (pa_nm tx T p6)))]) (st' := [.ref 57]) (h' := (n, sl, wKK kk, (rdI I (nI (pa_sk tx T p6)) (nI (pa_ed tx T p6)) (nI (pa_tk tx T p6)) (nI (pa_nm tx T p6)) 0 (-1) (nI (ce + cs6.length)) (pa_wr cd ce cs6)), L, wQQ q)) 8 rfl ?_
                  refine tv_t ((nI_eq (a := (pa_tk tx T p6)) (b := 21) (by omega) (by omega)).mpr (by omega)) ?_
                  refine tv_b (pc' := 114) (ls' := [some (.ref 57), some (.int (nI o)), some (.int (nI (pa_tk tx T p))), some (.int (nI (pa_nm tx T p6)))]) (st' := [.int 1, .ref 57]) (h' := (n, sl, wKK kk, (rdI I (nI (pa_sk tx T p6)) (nI (pa_ed tx T p6)) (nI (pa_tk tx T p6)) (nI (pa_nm tx T p6)) 0 (-1) (nI (ce + cs6.length)) (pa_wr cd ce cs6)), L, wQQ q)) 2 rfl ?_
                  refine tv_cv [.int 1] [] rfl rfl (by omega) rfl (Nat.le_of_ble_eq_true rfl) (Nat.le_of_ble_eq_true rfl) (Or.inr (Or.inr rfl)) (tv_r_ex1 hH hW (by omega) (by omega)) ?_
                  rintro rv9 h9 ⟨rfl, I9, rfl, ho, hlx⟩
                  rcases rdO_c ho with ⟨k7, l7, s7, a7, m7, c7, d7, hr7, hk7, rfl⟩ | ⟨p7, cs7, m7, hr7, hp7, hn7, rfl⟩
                  · refine tv_b (pc' := 121) (ls' := [some (.ref 57), some (.int (nI o)), some (.int (nI (pa_tk tx T p))), some (.int (nI (pa_nm tx T p6)))]) (st' := [.int 32, .int (nI (pa_nm tx T p6)), .ref 57]) (h' := (n, sl, wKK kk, (rdI I (nI s7) (nI a7) 39 m7 (nI k7) (nI l7) (nI c7) d7), L, wQQ q)) 3 rfl ?_
                    refine tv_b (pc' := 122) (ls' := [some (.ref 57), some (.int (nI o)), some (.int (nI (pa_tk tx T p))), some (.int (nI (pa_nm tx T p6)))]) (st' := [.int ((nI (pa_nm tx T p6)) * 32), .ref 57]) (h' := (n, sl, wKK kk, (rdI I (nI s7) (nI a7) 39 m7 (nI k7) (nI l7) (nI c7) d7), L, wQQ q)) 1 rfl ?_
                    refine tv_top (show (nI (pa_nm tx T p6)) * 32 = nI ((pa_nm tx T p6) * 32) from nI_mul (pa_nm tx T p6) 32) ?_
                    refine tv_b (pc' := 124) (ls' := [some (.ref 57), some (.int (nI o)), some (.int (nI (pa_tk tx T p))), some (.int (nI (pa_nm tx T p6)))]) (st' := [.int 18, .int (nI ((pa_nm tx T p6) * 32)), .ref 57]) (h' := (n, sl, wKK kk, (rdI I (nI s7) (nI a7) 39 m7 (nI k7) (nI l7) (nI c7) d7), L, wQQ q)) 1 rfl ?_
                    refine tv_b (pc' := 125) (ls' := [some (.ref 57), some (.int (nI o)), some (.int (nI (pa_tk tx T p))), some (.int (nI (pa_nm tx T p6)))]) (st' := [.int ((nI ((pa_nm tx T p6) * 32)) + 18), .ref 57]) (h' := (n, sl, wKK kk, (rdI I (nI s7) (nI a7) 39 m7 (nI k7) (nI l7) (nI c7) d7), L, wQQ q)) 1 rfl ?_
                    refine tv_top (show (nI ((pa_nm tx T p6) * 32)) + 18 = nI (((pa_nm tx T p6) * 32) + 18) from nI_add ((pa_nm tx T p6) * 32) 18) ?_
                    refine tv_cvE [.int (nI (((pa_nm tx T p6) * 32) + 18))] [] rfl rfl (by omega) rfl (Nat.le_of_ble_eq_true rfl) (Nat.le_of_ble_eq_true rfl) (Or.inr (Or.inr rfl)) (ev_r_emitF (rd_k hk7)) ?_
                    refine tv_b (pc' := 268) (ls' := [some (.ref 57), some (.int (nI o)), some (.int (nI (pa_tk tx T p))), some (.int (nI (pa_nm tx T p6)))]) (st' := []) (h' := (n, sl, wKK kk, (rdI I (nI s7) (nI a7) 39 m7 (nI k7) (nI l7) (nI c7) d7), L, wQQ q)) 1 rfl ?_
                    refine tv_rv rfl ⟨rfl, _, rfl, ?_, hlast⟩
                    unfold pa_part
                    try dsimp only
                    rw [if_neg (by omega), if_neg (by omega), if_pos (by omega)]
                    refine rdO_b (hr6) ?_
                    try dsimp only
                    rw [if_pos c72]
                    rw [if_neg (by omega)]
                    first | exact rdO_bl (hr7) (rdO_F (hr7) hk7 rfl) | exact rdO_F (hr7) hk7 rfl
                  · have ht7 := pa_tk_lt (b := tx) (n := T) p7
                    have hg7 := pa_edo (tx := tx) (T := T) p7
                    obtain ⟨hl7, hv7⟩ := hlx _ _ hr7
                    have hj7 := pa_ed_le (b := tx) (n := T) (p := p7) hp7.1
                    obtain ⟨hq7, hz7⟩ := pa_nx_r hr7
                    have hy7 : cs7.length = 0 := by rw [hz7]; rfl
                    refine tv_b (pc' := 121) (ls' := [some (.ref 57), some (.int (nI o)), some (.int (nI (pa_tk tx T p))), some (.int (nI (pa_nm tx T p6)))]) (st' := [.int 32, .int (nI (pa_nm tx T p6)), .ref 57]) (h' := (n, sl, wKK kk, (rdI I (nI (pa_sk tx T p7)) (nI (pa_ed tx T p7)) (nI (pa_tk tx T p7)) m7 0 (-1) (nI (ce + cs6.length + cs7.length)) (pa_wr (pa_wr cd ce cs6) (ce + cs6.length) cs7)), L, wQQ q)) 3 rfl ?_
                    refine tv_b (pc' := 122) (ls' := [some (.ref 57), some (.int (nI o)), some (.int (nI (pa_tk tx T p))), some (.int (nI (pa_nm tx T p6)))]) (st' := [.int ((nI (pa_nm tx T p6)) * 32), .ref 57]) (h' := (n, sl, wKK kk, (rdI I (nI (pa_sk tx T p7)) (nI (pa_ed tx T p7)) (nI (pa_tk tx T p7)) m7 0 (-1) (nI (ce + cs6.length + cs7.length)) (pa_wr (pa_wr cd ce cs6) (ce + cs6.length) cs7)), L, wQQ q)) 1 rfl ?_
                    refine tv_top (show (nI (pa_nm tx T p6)) * 32 = nI ((pa_nm tx T p6) * 32) from nI_mul (pa_nm tx T p6) 32) ?_
                    refine tv_b (pc' := 124) (ls' := [some (.ref 57), some (.int (nI o)), some (.int (nI (pa_tk tx T p))), some (.int (nI (pa_nm tx T p6)))]) (st' := [.int 18, .int (nI ((pa_nm tx T p6) * 32)), .ref 57]) (h' := (n, sl, wKK kk, (rdI I (nI (pa_sk tx T p7)) (nI (pa_ed tx T p7)) (nI (pa_tk tx T p7)) m7 0 (-1) (nI (ce + cs6.length + cs7.length)) (pa_wr (pa_wr cd ce cs6) (ce + cs6.length) cs7)), L, wQQ q)) 1 rfl ?_
                    refine tv_b (pc' := 125) (ls' := [some (.ref 57), some (.int (nI o)), some (.int (nI (pa_tk tx T p))), some (.int (nI (pa_nm tx T p6)))]) (st' := [.int ((nI ((pa_nm tx T p6) * 32)) + 18), .ref 57]) (h' := (n, sl, wKK kk, (rdI I (nI (pa_sk tx T p7)) (nI (pa_ed tx T p7)) (nI (pa_tk tx T p7)) m7 0 (-1) (nI (ce + cs6.length + cs7.length)) (pa_wr (pa_wr cd ce cs6) (ce + cs6.length) cs7)), L, wQQ q)) 1 rfl ?_
                    refine tv_top (show (nI ((pa_nm tx T p6) * 32)) + 18 = nI (((pa_nm tx T p6) * 32) + 18) from nI_add ((pa_nm tx T p6) * 32) 18) ?_
                    refine tv_cvE [.int (nI (((pa_nm tx T p6) * 32) + 18))] [] rfl rfl (by omega) rfl (Nat.le_of_ble_eq_true rfl) (Nat.le_of_ble_eq_true rfl) (Or.inr (Or.inr rfl)) (ev_r_emit (by omega)) ?_
                    refine tv_b (pc' := 268) (ls' := [some (.ref 57), some (.int (nI o)), some (.int (nI (pa_tk tx T p))), some (.int (nI (pa_nm tx T p6)))]) (st' := []) (h' := (n, sl, wKK kk, (rdI I (nI (pa_sk tx T p7)) (nI (pa_ed tx T p7)) (nI (pa_tk tx T p7)) m7 0 (-1) (nI (ce + cs6.length + cs7.length + 1)) (upd (pa_wr (pa_wr cd ce cs6) (ce + cs6.length) cs7) (ce + cs6.length + cs7.length) (nI (((pa_nm tx T p6) * 32) + 18)))), L, wQQ q)) 1 rfl ?_
                    refine tv_rv rfl ⟨rfl, _, rfl, ?_, hlast⟩
                    unfold pa_part
                    try dsimp only
                    rw [if_neg (by omega), if_neg (by omega), if_pos (by omega)]
                    refine rdO_b (hr6) ?_
                    try dsimp only
                    rw [if_pos c72]
                    rw [if_neg (by omega)]
                    refine rdO_b (hr7) ?_
                    try dsimp only
                    exact rdO_em ⟨by omega, by omega⟩ hn7 rfl
              · refine tv_b (pc' := (if (nI (pa_tk tx T p6)) = 21 then 109 else 113)) (ls' := [some (.ref 57), some (.int (nI o)), some (.int (nI (pa_tk tx T p))), some (.int m6)]) (st' := [.ref 57]) (h' := (n, sl, wKK kk, (rdI I (nI (pa_sk tx T p6)) (nI (pa_ed tx T p6)) (nI (pa_tk tx T p6)) m6 0 (-1) (nI (ce + cs6.length)) (pa_wr cd ce cs6)), L, wQQ q)) 8 rfl ?_
                refine tv_f (fun hq => absurd ((nI_eq (a := (pa_tk tx T p6)) (b := 21) (by omega) (by omega)).mp hq) (by omega)) ?_
                refine tv_b (pc' := 114) (ls' := [some (.ref 57), some (.int (nI o)), some (.int (nI (pa_tk tx T p))), some (.int m6)]) (st' := [.int 0, .ref 57]) (h' := (n, sl, wKK kk, (rdI I (nI (pa_sk tx T p6)) (nI (pa_ed tx T p6)) (nI (pa_tk tx T p6)) m6 0 (-1) (nI (ce + cs6.length)) (pa_wr cd ce cs6)), L, wQQ q)) 1 rfl ?_
                refine tv_cvE [.int 0] [] rfl rfl (by omega) rfl (Nat.le_of_ble_eq_true rfl) (Nat.le_of_ble_eq_true rfl) (Or.inr (Or.inr rfl)) (ev_r_ex0) ?_
                refine tv_b (pc' := 125) (ls' := [some (.ref 57), some (.int (nI o)), some (.int (nI (pa_tk tx T p))), some (.int m6)]) (st' := [.int ((m6 * 32) + 18), .ref 57]) (h' := (n, sl, wKK kk, (rdI I (nI (pa_sk tx T p6)) (nI (pa_ed tx T p6)) 39 m6 1 (nI (pa_sk tx T p6)) (nI (ce + cs6.length)) (pa_wr cd ce cs6)), L, wQQ q)) 6 rfl ?_
                refine tv_cvE [.int ((m6 * 32) + 18)] [] rfl rfl (by omega) rfl (Nat.le_of_ble_eq_true rfl) (Nat.le_of_ble_eq_true rfl) (Or.inr (Or.inr rfl)) (ev_r_emitF (by decide)) ?_
                refine tv_b (pc' := 268) (ls' := [some (.ref 57), some (.int (nI o)), some (.int (nI (pa_tk tx T p))), some (.int m6)]) (st' := []) (h' := (n, sl, wKK kk, (rdI I (nI (pa_sk tx T p6)) (nI (pa_ed tx T p6)) 39 m6 1 (nI (pa_sk tx T p6)) (nI (ce + cs6.length)) (pa_wr cd ce cs6)), L, wQQ q)) 1 rfl ?_
                refine tv_rv rfl ⟨rfl, _, rfl, ?_, hlast⟩
                unfold pa_part
                try dsimp only
                rw [if_neg (by omega), if_neg (by omega), if_pos (by omega)]
                refine rdO_b (hr6) ?_
                try dsimp only
                rw [if_neg c72]
                first | exact rdO_F (rfl) ⟨by decide, by decide, by omega, by omega⟩ rfl | exact rdO_bl (rfl) (rdO_F (rfl) ⟨by decide, by decide, by omega, by omega⟩ rfl)
          · refine tv_b (pc' := (if (nI (pa_tk tx T p)) = 32 then 137 else 175)) (ls' := [some (.ref 57), some (.int (nI o)), some (.int (nI (pa_tk tx T p))), none]) (st' := []) (h' := (n, sl, wKK kk, (rdI I (nI (pa_sk tx T p)) (nI (pa_ed tx T p)) (nI (pa_tk tx T p)) nm 0 (-1) (nI ce) cd), L, wQQ q)) 3 rfl ?_
            refine tv_ifq (nI_eq (a := (pa_tk tx T p)) (b := 32) (by omega) (by omega)) (fun c134 => ?_) (fun c134 => ?_)
            · refine tv_b (pc' := 141) (ls' := [some (.ref 57), some (.int (nI o)), some (.int (nI (pa_tk tx T p))), none]) (st' := [.int (nI o), .int 32, .ref 57]) (h' := (n, sl, wKK kk, (rdI I (nI (pa_sk tx T p)) (nI (pa_ed tx T p)) (nI (pa_tk tx T p)) nm 0 (-1) (nI ce) cd), L, wQQ q)) 3 rfl ?_
              refine tv_cvE [.int 32, .int (nI o)] [] rfl rfl (by omega) rfl (Nat.le_of_ble_eq_true rfl) (Nat.le_of_ble_eq_true rfl) (Or.inr (Or.inr rfl)) (ev_r_op5_32 c134 (by omega) (by omega)) ?_
              refine tv_b (pc' := 268) (ls' := [some (.ref 57), some (.int (nI o)), some (.int (nI (pa_tk tx T p))), none]) (st' := []) (h' := (n, sl, wKK kk, (rdI I (nI (pa_sk tx T p)) (nI (pa_ed tx T p)) 39 nm 5 (nI (pa_sk tx T p)) (nI ce) cd), L, wQQ q)) 1 rfl ?_
              refine tv_rv rfl ⟨rfl, _, rfl, ?_, hlast⟩
              unfold pa_part
              try dsimp only
              rw [if_neg (by omega), if_neg (by omega), if_neg (by omega), if_pos (by omega)]
              rw [if_pos hz]
              first | exact rdO_F (rfl) ⟨by decide, by decide, by omega, by omega⟩ rfl | exact rdO_bl (rfl) (rdO_F (rfl) ⟨by decide, by decide, by omega, by omega⟩ rfl)
            · refine tv_b (pc' := (if (nI (pa_tk tx T p)) = 19 then 187 else 181)) (ls' := [some (.ref 57), some (.int (nI o)), some (.int (nI (pa_tk tx T p))), none]) (st' := []) (h' := (n, sl, wKK kk, (rdI I (nI (pa_sk tx T p)) (nI (pa_ed tx T p)) (nI (pa_tk tx T p)) nm 0 (-1) (nI ce) cd), L, wQQ q)) 3 rfl ?_
              refine tv_ifq (nI_eq (a := (pa_tk tx T p)) (b := 19) (by omega) (by omega)) (fun c178 => ?_) (fun c178 => ?_)
              · refine tv_b (pc' := 188) (ls' := [some (.ref 57), some (.int (nI o)), some (.int (nI (pa_tk tx T p))), none]) (st' := [.ref 57]) (h' := (n, sl, wKK kk, (rdI I (nI (pa_sk tx T p)) (nI (pa_ed tx T p)) (nI (pa_tk tx T p)) nm 0 (-1) (nI ce) cd), L, wQQ q)) 1 rfl ?_
                refine tv_cv [] [] rfl rfl (by omega) rfl (Nat.le_of_ble_eq_true rfl) (Nat.le_of_ble_eq_true rfl) (Or.inr (Or.inr rfl)) (tv_r_nx hH hW (by omega) (by omega)) ?_
                rintro rv9 h9 ⟨rfl, I9, rfl, ho, hlx⟩
                rcases rdO_c ho with ⟨k8, l8, s8, a8, m8, c8, d8, hr8, hk8, rfl⟩ | ⟨p8, cs8, m8, hr8, hp8, hn8, rfl⟩
                · refine tv_b (pc' := 195) (ls' := [some (.ref 57), some (.int (nI o)), some (.int (nI (pa_tk tx T p))), none]) (st' := [.int (nI o), .int 32, .ref 57]) (h' := (n, sl, wKK kk, (rdI I (nI s8) (nI a8) 39 m8 (nI k8) (nI l8) (nI c8) d8), L, wQQ q)) 3 rfl ?_
                  refine tv_cvE [.int 32, .int (nI o)] [] rfl rfl (by omega) rfl (Nat.le_of_ble_eq_true rfl) (Nat.le_of_ble_eq_true rfl) (Or.inr (Or.inr rfl)) (ev_r_opensF (rd_k hk8)) ?_
                  refine tv_b (pc' := 268) (ls' := [some (.ref 57), some (.int (nI o)), some (.int (nI (pa_tk tx T p))), none]) (st' := []) (h' := (n, sl, wKK kk, (rdI I (nI s8) (nI a8) 39 m8 (nI k8) (nI l8) (nI c8) d8), L, wQQ q)) 1 rfl ?_
                  refine tv_rv rfl ⟨rfl, _, rfl, ?_, hlast⟩
                  unfold pa_part
                  try dsimp only
                  rw [if_neg (by omega), if_neg (by omega), if_neg (by omega), if_neg (by omega), if_pos (by omega)]
                  first | exact rdO_bl (hr8) (rdO_F (hr8) hk8 rfl) | exact rdO_F (hr8) hk8 rfl
                · have ht8 := pa_tk_lt (b := tx) (n := T) p8
                  have hg8 := pa_edo (tx := tx) (T := T) p8
                  obtain ⟨hl8, hv8⟩ := hlx _ _ hr8
                  have hj8 := pa_ed_le (b := tx) (n := T) (p := p8) hp8.1
                  obtain ⟨hq8, hz8⟩ := pa_nx_r hr8
                  have hy8 : cs8.length = 0 := by rw [hz8]; rfl
                  by_cases hb : pa_tk tx T p8 = 32
                  · refine tv_b (pc' := 195) (ls' := [some (.ref 57), some (.int (nI o)), some (.int (nI (pa_tk tx T p))), none]) (st' := [.int (nI o), .int 32, .ref 57]) (h' := (n, sl, wKK kk, (rdI I (nI (pa_sk tx T p8)) (nI (pa_ed tx T p8)) (nI (pa_tk tx T p8)) m8 0 (-1) (nI (ce + cs8.length)) (pa_wr cd ce cs8)), L, wQQ q)) 3 rfl ?_
                    refine tv_cvE [.int 32, .int (nI o)] [] rfl rfl (by omega) rfl (Nat.le_of_ble_eq_true rfl) (Nat.le_of_ble_eq_true rfl) (Or.inr (Or.inr rfl)) (ev_r_op5_32 hb (by omega) (by omega)) ?_
                    refine tv_b (pc' := 268) (ls' := [some (.ref 57), some (.int (nI o)), some (.int (nI (pa_tk tx T p))), none]) (st' := []) (h' := (n, sl, wKK kk, (rdI I (nI (pa_sk tx T p8)) (nI (pa_ed tx T p8)) 39 m8 5 (nI (pa_sk tx T p8)) (nI (ce + cs8.length)) (pa_wr cd ce cs8)), L, wQQ q)) 1 rfl ?_
                    refine tv_rv rfl ⟨rfl, _, rfl, ?_, hlast⟩
                    unfold pa_part
                    try dsimp only
                    rw [if_neg (by omega), if_neg (by omega), if_neg (by omega), if_neg (by omega), if_pos (by omega)]
                    refine rdO_b (hr8) ?_
                    try dsimp only
                    rw [if_pos hb]
                    rw [if_pos hz]
                    first | exact rdO_F (rfl) ⟨by decide, by decide, by omega, by omega⟩ rfl | exact rdO_bl (rfl) (rdO_F (rfl) ⟨by decide, by decide, by omega, by omega⟩ rfl)
                  · refine tv_b (pc' := 195) (ls' := [some (.ref 57), some (.int (nI o)), some (.int (nI (pa_tk tx T p))), none]) (st' := [.int (nI o), .int 32, .ref 57]) (h' := (n, sl, wKK kk, (rdI I (nI (pa_sk tx T p8)) (nI (pa_ed tx T p8)) (nI (pa_tk tx T p8)) m8 0 (-1) (nI (ce + cs8.length)) (pa_wr cd ce cs8)), L, wQQ q)) 3 rfl ?_
                    refine tv_cvE [.int 32, .int (nI o)] [] rfl rfl (by omega) rfl (Nat.le_of_ble_eq_true rfl) (Nat.le_of_ble_eq_true rfl) (Or.inr (Or.inr rfl)) (ev_r_op1_32 hb (by omega)) ?_
                    refine tv_b (pc' := 268) (ls' := [some (.ref 57), some (.int (nI o)), some (.int (nI (pa_tk tx T p))), none]) (st' := []) (h' := (n, sl, wKK kk, (rdI I (nI (pa_sk tx T p8)) (nI (pa_ed tx T p8)) 39 m8 1 (nI (pa_sk tx T p8)) (nI (ce + cs8.length)) (pa_wr cd ce cs8)), L, wQQ q)) 1 rfl ?_
                    refine tv_rv rfl ⟨rfl, _, rfl, ?_, hlast⟩
                    unfold pa_part
                    try dsimp only
                    rw [if_neg (by omega), if_neg (by omega), if_neg (by omega), if_neg (by omega), if_pos (by omega)]
                    refine rdO_b (hr8) ?_
                    try dsimp only
                    rw [if_neg hb]
                    first | exact rdO_F (rfl) ⟨by decide, by decide, by omega, by omega⟩ rfl | exact rdO_bl (rfl) (rdO_F (rfl) ⟨by decide, by decide, by omega, by omega⟩ rfl)
              · refine tv_b (pc' := (if (nI (pa_tk tx T p)) = 20 then 187 else 259)) (ls' := [some (.ref 57), some (.int (nI o)), some (.int (nI (pa_tk tx T p))), none]) (st' := []) (h' := (n, sl, wKK kk, (rdI I (nI (pa_sk tx T p)) (nI (pa_ed tx T p)) (nI (pa_tk tx T p)) nm 0 (-1) (nI ce) cd), L, wQQ q)) 3 rfl ?_
                refine tv_ifq (nI_eq (a := (pa_tk tx T p)) (b := 20) (by omega) (by omega)) (fun c184 => ?_) (fun c184 => ?_)
                · refine tv_b (pc' := 188) (ls' := [some (.ref 57), some (.int (nI o)), some (.int (nI (pa_tk tx T p))), none]) (st' := [.ref 57]) (h' := (n, sl, wKK kk, (rdI I (nI (pa_sk tx T p)) (nI (pa_ed tx T p)) (nI (pa_tk tx T p)) nm 0 (-1) (nI ce) cd), L, wQQ q)) 1 rfl ?_
                  refine tv_cv [] [] rfl rfl (by omega) rfl (Nat.le_of_ble_eq_true rfl) (Nat.le_of_ble_eq_true rfl) (Or.inr (Or.inr rfl)) (tv_r_nx hH hW (by omega) (by omega)) ?_
                  rintro rv9 h9 ⟨rfl, I9, rfl, ho, hlx⟩
                  rcases rdO_c ho with ⟨k9, l9, s9, a9, m9, c9, d9, hr9, hk9, rfl⟩ | ⟨p9, cs9, m9, hr9, hp9, hn9, rfl⟩
                  · refine tv_b (pc' := 195) (ls' := [some (.ref 57), some (.int (nI o)), some (.int (nI (pa_tk tx T p))), none]) (st' := [.int (nI o), .int 32, .ref 57]) (h' := (n, sl, wKK kk, (rdI I (nI s9) (nI a9) 39 m9 (nI k9) (nI l9) (nI c9) d9), L, wQQ q)) 3 rfl ?_
                    refine tv_cvE [.int 32, .int (nI o)] [] rfl rfl (by omega) rfl (Nat.le_of_ble_eq_true rfl) (Nat.le_of_ble_eq_true rfl) (Or.inr (Or.inr rfl)) (ev_r_opensF (rd_k hk9)) ?_
                    refine tv_b (pc' := 268) (ls' := [some (.ref 57), some (.int (nI o)), some (.int (nI (pa_tk tx T p))), none]) (st' := []) (h' := (n, sl, wKK kk, (rdI I (nI s9) (nI a9) 39 m9 (nI k9) (nI l9) (nI c9) d9), L, wQQ q)) 1 rfl ?_
                    refine tv_rv rfl ⟨rfl, _, rfl, ?_, hlast⟩
                    unfold pa_part
                    try dsimp only
                    rw [if_neg (by omega), if_neg (by omega), if_neg (by omega), if_neg (by omega), if_pos (by omega)]
                    first | exact rdO_bl (hr9) (rdO_F (hr9) hk9 rfl) | exact rdO_F (hr9) hk9 rfl
                  · have ht9 := pa_tk_lt (b := tx) (n := T) p9
                    have hg9 := pa_edo (tx := tx) (T := T) p9
                    obtain ⟨hl9, hv9⟩ := hlx _ _ hr9
                    have hj9 := pa_ed_le (b := tx) (n := T) (p := p9) hp9.1
                    obtain ⟨hq9, hz9⟩ := pa_nx_r hr9
                    have hy9 : cs9.length = 0 := by rw [hz9]; rfl
                    by_cases hb : pa_tk tx T p9 = 32
                    · refine tv_b (pc' := 195) (ls' := [some (.ref 57), some (.int (nI o)), some (.int (nI (pa_tk tx T p))), none]) (st' := [.int (nI o), .int 32, .ref 57]) (h' := (n, sl, wKK kk, (rdI I (nI (pa_sk tx T p9)) (nI (pa_ed tx T p9)) (nI (pa_tk tx T p9)) m9 0 (-1) (nI (ce + cs9.length)) (pa_wr cd ce cs9)), L, wQQ q)) 3 rfl ?_
                      refine tv_cvE [.int 32, .int (nI o)] [] rfl rfl (by omega) rfl (Nat.le_of_ble_eq_true rfl) (Nat.le_of_ble_eq_true rfl) (Or.inr (Or.inr rfl)) (ev_r_op5_32 hb (by omega) (by omega)) ?_
                      refine tv_b (pc' := 268) (ls' := [some (.ref 57), some (.int (nI o)), some (.int (nI (pa_tk tx T p))), none]) (st' := []) (h' := (n, sl, wKK kk, (rdI I (nI (pa_sk tx T p9)) (nI (pa_ed tx T p9)) 39 m9 5 (nI (pa_sk tx T p9)) (nI (ce + cs9.length)) (pa_wr cd ce cs9)), L, wQQ q)) 1 rfl ?_
                      refine tv_rv rfl ⟨rfl, _, rfl, ?_, hlast⟩
                      unfold pa_part
                      try dsimp only
                      rw [if_neg (by omega), if_neg (by omega), if_neg (by omega), if_neg (by omega), if_pos (by omega)]
                      refine rdO_b (hr9) ?_
                      try dsimp only
                      rw [if_pos hb]
                      rw [if_pos hz]
                      first | exact rdO_F (rfl) ⟨by decide, by decide, by omega, by omega⟩ rfl | exact rdO_bl (rfl) (rdO_F (rfl) ⟨by decide, by decide, by omega, by omega⟩ rfl)
                    · refine tv_b (pc' := 195) (ls' := [some (.ref 57), some (.int (nI o)), some (.int (nI (pa_tk tx T p))), none]) (st' := [.int (nI o), .int 32, .ref 57]) (h' := (n, sl, wKK kk, (rdI I (nI (pa_sk tx T p9)) (nI (pa_ed tx T p9)) (nI (pa_tk tx T p9)) m9 0 (-1) (nI (ce + cs9.length)) (pa_wr cd ce cs9)), L, wQQ q)) 3 rfl ?_
                      refine tv_cvE [.int 32, .int (nI o)] [] rfl rfl (by omega) rfl (Nat.le_of_ble_eq_true rfl) (Nat.le_of_ble_eq_true rfl) (Or.inr (Or.inr rfl)) (ev_r_op1_32 hb (by omega)) ?_
                      refine tv_b (pc' := 268) (ls' := [some (.ref 57), some (.int (nI o)), some (.int (nI (pa_tk tx T p))), none]) (st' := []) (h' := (n, sl, wKK kk, (rdI I (nI (pa_sk tx T p9)) (nI (pa_ed tx T p9)) 39 m9 1 (nI (pa_sk tx T p9)) (nI (ce + cs9.length)) (pa_wr cd ce cs9)), L, wQQ q)) 1 rfl ?_
                      refine tv_rv rfl ⟨rfl, _, rfl, ?_, hlast⟩
                      unfold pa_part
                      try dsimp only
                      rw [if_neg (by omega), if_neg (by omega), if_neg (by omega), if_neg (by omega), if_pos (by omega)]
                      refine rdO_b (hr9) ?_
                      try dsimp only
                      rw [if_neg hb]
                      first | exact rdO_F (rfl) ⟨by decide, by decide, by omega, by omega⟩ rfl | exact rdO_bl (rfl) (rdO_F (rfl) ⟨by decide, by decide, by omega, by omega⟩ rfl)
                · refine tv_b (pc' := 265) (ls' := [some (.ref 57), some (.int (nI o)), some (.int (nI (pa_tk tx T p))), none]) (st' := [.int (nI (pa_sk tx T p)), .int 1, .ref 57]) (h' := (n, sl, wKK kk, (rdI I (nI (pa_sk tx T p)) (nI (pa_ed tx T p)) (nI (pa_tk tx T p)) nm 0 (-1) (nI ce) cd), L, wQQ q)) 4 rfl ?_
                  refine tv_cvE [.int 1, .int (nI (pa_sk tx T p))] [] rfl rfl (by omega) rfl (Nat.le_of_ble_eq_true rfl) (Nat.le_of_ble_eq_true rfl) (Or.inr (Or.inr rfl)) (ev_r_fail0) ?_
                  refine tv_rv rfl ⟨rfl, _, rfl, ?_, hlast⟩
                  unfold pa_part
                  try dsimp only
                  rw [if_neg (by omega), if_neg (by omega), if_neg (by omega), if_neg (by omega), if_neg (by omega)]
                  first | exact rdO_F (rfl) ⟨by decide, by decide, by omega, by omega⟩ rfl | exact rdO_bl (rfl) (rdO_F (rfl) ⟨by decide, by decide, by omega, by omega⟩ rfl)
        · refine tv_b (pc' := 46) (ls' := [some (.ref 57), some (.int (nI o)), some (.int (nI (pa_tk tx T p))), none]) (st' := [.int (nI (pa_tk tx T p)), .ref 57]) (h' := (n, sl, wKK kk, (rdI I (nI (pa_sk tx T p)) (nI (pa_ed tx T p)) (nI (pa_tk tx T p)) nm 0 (-1) (nI ce) cd), L, wQQ q)) 2 rfl ?_
          refine tv_cvE [.int (nI (pa_tk tx T p))] [] rfl rfl (by omega) rfl (Nat.le_of_ble_eq_true rfl) (Nat.le_of_ble_eq_true rfl) (Or.inr (Or.inr rfl)) (ev_r_emit (by omega)) ?_
          refine tv_b (pc' := 50) (ls' := [some (.ref 57), some (.int (nI o)), some (.int (nI (pa_tk tx T p))), none]) (st' := [.ref 57]) (h' := (n, sl, wKK kk, (rdI I (nI (pa_sk tx T p)) (nI (pa_ed tx T p)) (nI (pa_tk tx T p)) nm 0 (-1) (nI (ce + 1)) (upd cd ce (nI (pa_tk tx T p)))), L, wQQ q)) 1 rfl ?_
          refine tv_cv [] [] rfl rfl (by omega) rfl (Nat.le_of_ble_eq_true rfl) (Nat.le_of_ble_eq_true rfl) (Or.inr (Or.inr rfl)) (tv_r_nx hH hW (by omega) (by omega)) ?_
          rintro rv9 h9 ⟨rfl, I9, rfl, ho, hlx⟩
          rcases rdO_c ho with ⟨k10, l10, s10, a10, m10, c10, d10, hr10, hk10, rfl⟩ | ⟨p10, cs10, m10, hr10, hp10, hn10, rfl⟩
          · refine tv_b (pc' := 268) (ls' := [some (.ref 57), some (.int (nI o)), some (.int (nI (pa_tk tx T p))), none]) (st' := []) (h' := (n, sl, wKK kk, (rdI I (nI s10) (nI a10) 39 m10 (nI k10) (nI l10) (nI c10) d10), L, wQQ q)) 1 rfl ?_
            refine tv_rv rfl ⟨rfl, _, rfl, ?_, hlast⟩
            unfold pa_part
            try dsimp only
            rw [if_neg (by omega), if_pos (by omega)]
            first | exact rdO_bl (hr10) (rdO_F (hr10) hk10 rfl) | exact rdO_F (hr10) hk10 rfl
          · have ht10 := pa_tk_lt (b := tx) (n := T) p10
            have hg10 := pa_edo (tx := tx) (T := T) p10
            obtain ⟨hl10, hv10⟩ := hlx _ _ hr10
            have hj10 := pa_ed_le (b := tx) (n := T) (p := p10) hp10.1
            obtain ⟨hq10, hz10⟩ := pa_nx_r hr10
            have hy10 : cs10.length = 0 := by rw [hz10]; rfl
            refine tv_b (pc' := 268) (ls' := [some (.ref 57), some (.int (nI o)), some (.int (nI (pa_tk tx T p))), none]) (st' := []) (h' := (n, sl, wKK kk, (rdI I (nI (pa_sk tx T p10)) (nI (pa_ed tx T p10)) (nI (pa_tk tx T p10)) m10 0 (-1) (nI (ce + 1 + cs10.length)) (pa_wr (upd cd ce (nI (pa_tk tx T p))) (ce + 1) cs10)), L, wQQ q)) 1 rfl ?_
            subst hz10
            refine tv_rv rfl ⟨rfl, _, rfl, ?_, hlast⟩
            unfold pa_part
            try dsimp only
            rw [if_neg (by omega), if_pos (by omega)]
            refine rdO_b hr10 ?_
            exact rdO_N (cs := [_]) rfl ⟨by omega, by simp only [List.length_cons, List.length_nil]; omega⟩ hn10 rfl
  · have hz0 : 0 < lev := by omega
    show am_T _ _ 0 [some (.ref 57), some (.int (nI o)), none, none] _ (n, sl, wKK kk, (rdI I (nI (pa_sk tx T p)) (nI (pa_ed tx T p)) (nI (pa_tk tx T p)) nm 0 (-1) (nI ce) cd), L, wQQ q) _
    refine tv_b (pc' := (if (nI (pa_tk tx T p)) = 21 then 11 else 32)) (ls' := [some (.ref 57), some (.int (nI o)), some (.int (nI (pa_tk tx T p))), none]) (st' := []) (h' := (n, sl, wKK kk, (rdI I (nI (pa_sk tx T p)) (nI (pa_ed tx T p)) (nI (pa_tk tx T p)) nm 0 (-1) (nI ce) cd), L, wQQ q)) 6 rfl ?_
    refine tv_ifq (nI_eq (a := (pa_tk tx T p)) (b := 21) (by omega) (by omega)) (fun c8 => ?_) (fun c8 => ?_)
    · have hsub := hnm c8
      subst hsub
      refine tv_b (pc' := 18) (ls' := [some (.ref 57), some (.int (nI o)), some (.int (nI (pa_tk tx T p))), none]) (st' := [.int 32, .int (nI (pa_nm tx T p)), .ref 57]) (h' := (n, sl, wKK kk, (rdI I (nI (pa_sk tx T p)) (nI (pa_ed tx T p)) (nI (pa_tk tx T p)) (nI (pa_nm tx T p)) 0 (-1) (nI ce) cd), L, wQQ q)) 4 rfl ?_
      refine tv_b (pc' := 19) (ls' := [some (.ref 57), some (.int (nI o)), some (.int (nI (pa_tk tx T p))), none]) (st' := [.int ((nI (pa_nm tx T p)) * 32), .ref 57]) (h' := (n, sl, wKK kk, (rdI I (nI (pa_sk tx T p)) (nI (pa_ed tx T p)) (nI (pa_tk tx T p)) (nI (pa_nm tx T p)) 0 (-1) (nI ce) cd), L, wQQ q)) 1 rfl ?_
      refine tv_top (show (nI (pa_nm tx T p)) * 32 = nI ((pa_nm tx T p) * 32) from nI_mul (pa_nm tx T p) 32) ?_
      refine tv_b (pc' := 21) (ls' := [some (.ref 57), some (.int (nI o)), some (.int (nI (pa_tk tx T p))), none]) (st' := [.int 21, .int (nI ((pa_nm tx T p) * 32)), .ref 57]) (h' := (n, sl, wKK kk, (rdI I (nI (pa_sk tx T p)) (nI (pa_ed tx T p)) (nI (pa_tk tx T p)) (nI (pa_nm tx T p)) 0 (-1) (nI ce) cd), L, wQQ q)) 1 rfl ?_
      refine tv_b (pc' := 22) (ls' := [some (.ref 57), some (.int (nI o)), some (.int (nI (pa_tk tx T p))), none]) (st' := [.int ((nI ((pa_nm tx T p) * 32)) + 21), .ref 57]) (h' := (n, sl, wKK kk, (rdI I (nI (pa_sk tx T p)) (nI (pa_ed tx T p)) (nI (pa_tk tx T p)) (nI (pa_nm tx T p)) 0 (-1) (nI ce) cd), L, wQQ q)) 1 rfl ?_
      refine tv_top (show (nI ((pa_nm tx T p) * 32)) + 21 = nI (((pa_nm tx T p) * 32) + 21) from nI_add ((pa_nm tx T p) * 32) 21) ?_
      refine tv_cvE [.int (nI (((pa_nm tx T p) * 32) + 21))] [] rfl rfl (by omega) rfl (Nat.le_of_ble_eq_true rfl) (Nat.le_of_ble_eq_true rfl) (Or.inr (Or.inr rfl)) (ev_r_emit (by omega)) ?_
      refine tv_b (pc' := 26) (ls' := [some (.ref 57), some (.int (nI o)), some (.int (nI (pa_tk tx T p))), none]) (st' := [.ref 57]) (h' := (n, sl, wKK kk, (rdI I (nI (pa_sk tx T p)) (nI (pa_ed tx T p)) (nI (pa_tk tx T p)) (nI (pa_nm tx T p)) 0 (-1) (nI (ce + 1)) (upd cd ce (nI (((pa_nm tx T p) * 32) + 21)))), L, wQQ q)) 1 rfl ?_
      refine tv_cv [] [] rfl rfl (by omega) rfl (Nat.le_of_ble_eq_true rfl) (Nat.le_of_ble_eq_true rfl) (Or.inr (Or.inr rfl)) (tv_r_nx hH hW (by omega) (by omega)) ?_
      rintro rv9 h9 ⟨rfl, I9, rfl, ho, hlx⟩
      rcases rdO_c ho with ⟨k1, l1, s1, a1, m1, c1, d1, hr1, hk1, rfl⟩ | ⟨p1, cs1, m1, hr1, hp1, hn1, rfl⟩
      · refine tv_b (pc' := 268) (ls' := [some (.ref 57), some (.int (nI o)), some (.int (nI (pa_tk tx T p))), none]) (st' := []) (h' := (n, sl, wKK kk, (rdI I (nI s1) (nI a1) 39 m1 (nI k1) (nI l1) (nI c1) d1), L, wQQ q)) 1 rfl ?_
        refine tv_rv rfl ⟨rfl, _, rfl, ?_, hlast⟩
        unfold pa_part
        try dsimp only
        rw [if_pos c8]
        first | exact rdO_bl (hr1) (rdO_F (hr1) hk1 rfl) | exact rdO_F (hr1) hk1 rfl
      · have ht1 := pa_tk_lt (b := tx) (n := T) p1
        have hg1 := pa_edo (tx := tx) (T := T) p1
        obtain ⟨hl1, hv1⟩ := hlx _ _ hr1
        have hj1 := pa_ed_le (b := tx) (n := T) (p := p1) hp1.1
        obtain ⟨hq1, hz1⟩ := pa_nx_r hr1
        have hy1 : cs1.length = 0 := by rw [hz1]; rfl
        refine tv_b (pc' := 268) (ls' := [some (.ref 57), some (.int (nI o)), some (.int (nI (pa_tk tx T p))), none]) (st' := []) (h' := (n, sl, wKK kk, (rdI I (nI (pa_sk tx T p1)) (nI (pa_ed tx T p1)) (nI (pa_tk tx T p1)) m1 0 (-1) (nI (ce + 1 + cs1.length)) (pa_wr (upd cd ce (nI (((pa_nm tx T p) * 32) + 21))) (ce + 1) cs1)), L, wQQ q)) 1 rfl ?_
        subst hz1
        refine tv_rv rfl ⟨rfl, _, rfl, ?_, hlast⟩
        unfold pa_part
        try dsimp only
        rw [if_pos c8]
        refine rdO_b hr1 ?_
        exact rdO_N (cs := [_]) rfl ⟨by omega, by simp only [List.length_cons, List.length_nil]; omega⟩ hn1 rfl
    · refine tv_b (pc' := (if (nI (pa_tk tx T p)) < 11 then 56 else 38)) (ls' := [some (.ref 57), some (.int (nI o)), some (.int (nI (pa_tk tx T p))), none]) (st' := []) (h' := (n, sl, wKK kk, (rdI I (nI (pa_sk tx T p)) (nI (pa_ed tx T p)) (nI (pa_tk tx T p)) nm 0 (-1) (nI ce) cd), L, wQQ q)) 3 rfl ?_
      refine tv_ifq (nI_ltI (a := (pa_tk tx T p)) (b := 11) (by omega) (by omega)) (fun c35 => ?_) (fun c35 => ?_)
      · refine tv_b (pc' := (if (nI (pa_tk tx T p)) = 18 then 62 else 131)) (ls' := [some (.ref 57), some (.int (nI o)), some (.int (nI (pa_tk tx T p))), none]) (st' := []) (h' := (n, sl, wKK kk, (rdI I (nI (pa_sk tx T p)) (nI (pa_ed tx T p)) (nI (pa_tk tx T p)) nm 0 (-1) (nI ce) cd), L, wQQ q)) 3 rfl ?_
        refine tv_ifq (nI_eq (a := (pa_tk tx T p)) (b := 18) (by omega) (by omega)) (fun c59 => ?_) (fun c59 => ?_)
        · refine tv_b (pc' := 63) (ls' := [some (.ref 57), some (.int (nI o)), some (.int (nI (pa_tk tx T p))), none]) (st' := [.ref 57]) (h' := (n, sl, wKK kk, (rdI I (nI (pa_sk tx T p)) (nI (pa_ed tx T p)) (nI (pa_tk tx T p)) nm 0 (-1) (nI ce) cd), L, wQQ q)) 1 rfl ?_
          refine tv_cv [] [] rfl rfl (by omega) rfl (Nat.le_of_ble_eq_true rfl) (Nat.le_of_ble_eq_true rfl) (Or.inr (Or.inr rfl)) (tv_r_nx hH hW (by omega) (by omega)) ?_
          rintro rv9 h9 ⟨rfl, I9, rfl, ho, hlx⟩
          rcases rdO_c ho with ⟨k2, l2, s2, a2, m2, c2, d2, hr2, hk2, rfl⟩ | ⟨p2, cs2, m2, hr2, hp2, hn2, rfl⟩
          · refine tv_b (pc' := 114) (ls' := [some (.ref 57), some (.int (nI o)), some (.int (nI (pa_tk tx T p))), some (.int m2)]) (st' := [.int 0, .ref 57]) (h' := (n, sl, wKK kk, (rdI I (nI s2) (nI a2) 39 m2 (nI k2) (nI l2) (nI c2) d2), L, wQQ q)) 13 rfl ?_
            refine tv_cvE [.int 0] [] rfl rfl (by omega) rfl (Nat.le_of_ble_eq_true rfl) (Nat.le_of_ble_eq_true rfl) (Or.inr (Or.inr rfl)) (ev_r_expectF0 (rd_k hk2)) ?_
            refine tv_b (pc' := 125) (ls' := [some (.ref 57), some (.int (nI o)), some (.int (nI (pa_tk tx T p))), some (.int m2)]) (st' := [.int ((m2 * 32) + 18), .ref 57]) (h' := (n, sl, wKK kk, (rdI I (nI s2) (nI a2) 39 m2 (nI k2) (nI l2) (nI c2) d2), L, wQQ q)) 6 rfl ?_
            refine tv_cvE [.int ((m2 * 32) + 18)] [] rfl rfl (by omega) rfl (Nat.le_of_ble_eq_true rfl) (Nat.le_of_ble_eq_true rfl) (Or.inr (Or.inr rfl)) (ev_r_emitF (rd_k hk2)) ?_
            refine tv_b (pc' := 268) (ls' := [some (.ref 57), some (.int (nI o)), some (.int (nI (pa_tk tx T p))), some (.int m2)]) (st' := []) (h' := (n, sl, wKK kk, (rdI I (nI s2) (nI a2) 39 m2 (nI k2) (nI l2) (nI c2) d2), L, wQQ q)) 1 rfl ?_
            refine tv_rv rfl ⟨rfl, _, rfl, ?_, hlast⟩
            unfold pa_part
            try dsimp only
            rw [if_neg (by omega), if_neg (by omega), if_pos (by omega)]
            first | exact rdO_bl (hr2) (rdO_F (hr2) hk2 rfl) | exact rdO_F (hr2) hk2 rfl
          · have ht2 := pa_tk_lt (b := tx) (n := T) p2
            have hg2 := pa_edo (tx := tx) (T := T) p2
            obtain ⟨hl2, hv2⟩ := hlx _ _ hr2
            have hj2 := pa_ed_le (b := tx) (n := T) (p := p2) hp2.1
            obtain ⟨hq2, hz2⟩ := pa_nx_r hr2
            have hy2 : cs2.length = 0 := by rw [hz2]; rfl
            refine tv_b (pc' := (if (nI (pa_tk tx T p2)) = 21 then 75 else 94)) (ls' := [some (.ref 57), some (.int (nI o)), some (.int (nI (pa_tk tx T p))), none]) (st' := []) (h' := (n, sl, wKK kk, (rdI I (nI (pa_sk tx T p2)) (nI (pa_ed tx T p2)) (nI (pa_tk tx T p2)) m2 0 (-1) (nI (ce + cs2.length)) (pa_wr cd ce cs2)), L, wQQ q)) 4 rfl ?_
            refine tv_ifq (nI_eq (a := (pa_tk tx T p2)) (b := 21) (by omega) (by omega)) (fun c72 => ?_) (fun c72 => ?_)
            · have hsub := hn2 c72
              subst hsub
              refine tv_b (pc' := 79) (ls' := [some (.ref 57), some (.int (nI o)), some (.int (nI (pa_tk tx T p))), none]) (st' := [.int (nI (pa_nm tx T p2))]) (h' := (n, sl, wKK kk, (rdI I (nI (pa_sk tx T p2)) (nI (pa_ed tx T p2)) (nI (pa_tk tx T p2)) (nI (pa_nm tx T p2)) 0 (-1) (nI (ce + cs2.length)) (pa_wr cd ce cs2)), L, wQQ q)) 2 rfl ?_
              have hnl := pa_nm_lt hl2 c72
              refine tv_csE [.int (nI (pa_nm tx T p2))] [] rfl rfl (by omega) rfl (Nat.le_of_ble_eq_true rfl) (Nat.le_of_ble_eq_true rfl) (ev_r_isCol (by omega)) ?_
              refine tv_b (pc' := (if (if pa_nm tx T p2 < 16 then 1 else 0) = 0 then 85 else 94)) (ls' := [some (.ref 57), some (.int (nI o)), some (.int (nI (pa_tk tx T p))), none]) (st' := []) (h' := (n, sl, wKK kk, (rdI I (nI (pa_sk tx T p2)) (nI (pa_ed tx T p2)) (nI (pa_tk tx T p2)) (nI (pa_nm tx T p2)) 0 (-1) (nI (ce + cs2.length)) (pa_wr cd ce cs2)), L, wQQ q)) 1 rfl ?_
              refine tv_b0 (fun c82 => ?_) (fun c82 => ?_)
              · refine tv_b (pc' := 91) (ls' := [some (.ref 57), some (.int (nI o)), some (.int (nI (pa_tk tx T p))), none]) (st' := [.int (nI (pa_sk tx T p2)), .int 4, .ref 57]) (h' := (n, sl, wKK kk, (rdI I (nI (pa_sk tx T p2)) (nI (pa_ed tx T p2)) (nI (pa_tk tx T p2)) (nI (pa_nm tx T p2)) 0 (-1) (nI (ce + cs2.length)) (pa_wr cd ce cs2)), L, wQQ q)) 4 rfl ?_
                refine tv_cvE [.int 4, .int (nI (pa_sk tx T p2))] [] rfl rfl (by omega) rfl (Nat.le_of_ble_eq_true rfl) (Nat.le_of_ble_eq_true rfl) (Or.inr (Or.inr rfl)) (ev_r_fail0) ?_
                refine tv_b (pc' := 114) (ls' := [some (.ref 57), some (.int (nI o)), some (.int (nI (pa_tk tx T p))), some (.int (nI (pa_nm tx T p2)))]) (st' := [.int 0, .ref 57]) (h' := (n, sl, wKK kk, (rdI I (nI (pa_sk tx T p2)) (nI (pa_ed tx T p2)) 39 (nI (pa_nm tx T p2)) 4 (nI (pa_sk tx T p2)) (nI (ce + cs2.length)) (pa_wr cd ce cs2)), L, wQQ q)) 9 rfl ?_
                refine tv_cvE [.int 0] [] rfl rfl (by omega) rfl (Nat.le_of_ble_eq_true rfl) (Nat.le_of_ble_eq_true rfl) (Or.inr (Or.inr rfl)) (ev_r_expectF0 (by decide)) ?_
                refine tv_b (pc' := 125) (ls' := [some (.ref 57), some (.int (nI o)), some (.int (nI (pa_tk tx T p))), some (.int (nI (pa_nm tx T p2)))]) (st' := [.int (((nI (pa_nm tx T p2)) * 32) + 18), .ref 57]) (h' := (n, sl, wKK kk, (rdI I (nI (pa_sk tx T p2)) (nI (pa_ed tx T p2)) 39 (nI (pa_nm tx T p2)) 4 (nI (pa_sk tx T p2)) (nI (ce + cs2.length)) (pa_wr cd ce cs2)), L, wQQ q)) 6 rfl ?_
                refine tv_cvE [.int (((nI (pa_nm tx T p2)) * 32) + 18)] [] rfl rfl (by omega) rfl (Nat.le_of_ble_eq_true rfl) (Nat.le_of_ble_eq_true rfl) (Or.inr (Or.inr rfl)) (ev_r_emitF (by decide)) ?_
                refine tv_b (pc' := 268) (ls' := [some (.ref 57), some (.int (nI o)), some (.int (nI (pa_tk tx T p))), some (.int (nI (pa_nm tx T p2)))]) (st' := []) (h' := (n, sl, wKK kk, (rdI I (nI (pa_sk tx T p2)) (nI (pa_ed tx T p2)) 39 (nI (pa_nm tx T p2)) 4 (nI (pa_sk tx T p2)) (nI (ce + cs2.length)) (pa_wr cd ce cs2)), L, wQQ q)) 1 rfl ?_
                refine tv_rv rfl ⟨rfl, _, rfl, ?_, hlast⟩
                unfold pa_part
                try dsimp only
                rw [if_neg (by omega), if_neg (by omega), if_pos (by omega)]
                refine rdO_b (hr2) ?_
                try dsimp only
                rw [if_pos c72]
                rw [if_pos (by omega)]
                first | exact rdO_F (rfl) ⟨by decide, by decide, by omega, by omega⟩ rfl | exact rdO_bl (rfl) (rdO_F (rfl) ⟨by decide, by decide, by omega, by omega⟩ rfl)
              · refine tv_b (pc' := (if (nI (pa_tk tx T p2)) = 21 then 109 else 113)) (ls' := [some (.ref 57), some (.int (nI o)), some (.int (nI (pa_tk tx T p))), some (.int (nI (pa_nm tx T p2)))]) (st' := [.ref 57]) (h' := (n, sl, wKK kk, (rdI I (nI (pa_sk tx T p2)) (nI (pa_ed tx T p2)) (nI (pa_tk tx T p2)) (nI (pa_nm tx T p2)) 0 (-1) (nI (ce + cs2.length)) (pa_wr cd ce cs2)), L, wQQ q)) 8 rfl ?_
                refine tv_t ((nI_eq (a := (pa_tk tx T p2)) (b := 21) (by omega) (by omega)).mpr (by omega)) ?_
                refine tv_b (pc' := 114) (ls' := [some (.ref 57), some (.int (nI o)), some (.int (nI (pa_tk tx T p))), some (.int (nI (pa_nm tx T p2)))]) (st' := [.int 1, .ref 57]) (h' := (n, sl, wKK kk, (rdI I (nI (pa_sk tx T p2)) (nI (pa_ed tx T p2)) (nI (pa_tk tx T p2)) (nI (pa_nm tx T p2)) 0 (-1) (nI (ce + cs2.length)) (pa_wr cd ce cs2)), L, wQQ q)) 2 rfl ?_
                refine tv_cv [.int 1] [] rfl rfl (by omega) rfl (Nat.le_of_ble_eq_true rfl) (Nat.le_of_ble_eq_true rfl) (Or.inr (Or.inr rfl)) (tv_r_ex1 hH hW (by omega) (by omega)) ?_
                rintro rv9 h9 ⟨rfl, I9, rfl, ho, hlx⟩
                rcases rdO_c ho with ⟨k3, l3, s3, a3, m3, c3, d3, hr3, hk3, rfl⟩ | ⟨p3, cs3, m3, hr3, hp3, hn3, rfl⟩
                · refine tv_b (pc' := 121) (ls' := [some (.ref 57), some (.int (nI o)), some (.int (nI (pa_tk tx T p))), some (.int (nI (pa_nm tx T p2)))]) (st' := [.int 32, .int (nI (pa_nm tx T p2)), .ref 57]) (h' := (n, sl, wKK kk, (rdI I (nI s3) (nI a3) 39 m3 (nI k3) (nI l3) (nI c3) d3), L, wQQ q)) 3 rfl ?_
                  refine tv_b (pc' := 122) (ls' := [some (.ref 57), some (.int (nI o)), some (.int (nI (pa_tk tx T p))), some (.int (nI (pa_nm tx T p2)))]) (st' := [.int ((nI (pa_nm tx T p2)) * 32), .ref 57]) (h' := (n, sl, wKK kk, (rdI I (nI s3) (nI a3) 39 m3 (nI k3) (nI l3) (nI c3) d3), L, wQQ q)) 1 rfl ?_
                  refine tv_top (show (nI (pa_nm tx T p2)) * 32 = nI ((pa_nm tx T p2) * 32) from nI_mul (pa_nm tx T p2) 32) ?_
                  refine tv_b (pc' := 124) (ls' := [some (.ref 57), some (.int (nI o)), some (.int (nI (pa_tk tx T p))), some (.int (nI (pa_nm tx T p2)))]) (st' := [.int 18, .int (nI ((pa_nm tx T p2) * 32)), .ref 57]) (h' := (n, sl, wKK kk, (rdI I (nI s3) (nI a3) 39 m3 (nI k3) (nI l3) (nI c3) d3), L, wQQ q)) 1 rfl ?_
                  refine tv_b (pc' := 125) (ls' := [some (.ref 57), some (.int (nI o)), some (.int (nI (pa_tk tx T p))), some (.int (nI (pa_nm tx T p2)))]) (st' := [.int ((nI ((pa_nm tx T p2) * 32)) + 18), .ref 57]) (h' := (n, sl, wKK kk, (rdI I (nI s3) (nI a3) 39 m3 (nI k3) (nI l3) (nI c3) d3), L, wQQ q)) 1 rfl ?_
                  refine tv_top (show (nI ((pa_nm tx T p2) * 32)) + 18 = nI (((pa_nm tx T p2) * 32) + 18) from nI_add ((pa_nm tx T p2) * 32) 18) ?_
                  refine tv_cvE [.int (nI (((pa_nm tx T p2) * 32) + 18))] [] rfl rfl (by omega) rfl (Nat.le_of_ble_eq_true rfl) (Nat.le_of_ble_eq_true rfl) (Or.inr (Or.inr rfl)) (ev_r_emitF (rd_k hk3)) ?_
                  refine tv_b (pc' := 268) (ls' := [some (.ref 57), some (.int (nI o)), some (.int (nI (pa_tk tx T p))), some (.int (nI (pa_nm tx T p2)))]) (st' := []) (h' := (n, sl, wKK kk, (rdI I (nI s3) (nI a3) 39 m3 (nI k3) (nI l3) (nI c3) d3), L, wQQ q)) 1 rfl ?_
                  refine tv_rv rfl ⟨rfl, _, rfl, ?_, hlast⟩
                  unfold pa_part
                  try dsimp only
                  rw [if_neg (by omega), if_neg (by omega), if_pos (by omega)]
                  refine rdO_b (hr2) ?_
                  try dsimp only
                  rw [if_pos c72]
                  rw [if_neg (by omega)]
                  first | exact rdO_bl (hr3) (rdO_F (hr3) hk3 rfl) | exact rdO_F (hr3) hk3 rfl
                · have ht3 := pa_tk_lt (b := tx) (n := T) p3
                  have hg3 := pa_edo (tx := tx) (T := T) p3
                  obtain ⟨hl3, hv3⟩ := hlx _ _ hr3
                  have hj3 := pa_ed_le (b := tx) (n := T) (p := p3) hp3.1
                  obtain ⟨hq3, hz3⟩ := pa_nx_r hr3
                  have hy3 : cs3.length = 0 := by rw [hz3]; rfl
                  refine tv_b (pc' := 121) (ls' := [some (.ref 57), some (.int (nI o)), some (.int (nI (pa_tk tx T p))), some (.int (nI (pa_nm tx T p2)))]) (st' := [.int 32, .int (nI (pa_nm tx T p2)), .ref 57]) (h' := (n, sl, wKK kk, (rdI I (nI (pa_sk tx T p3)) (nI (pa_ed tx T p3)) (nI (pa_tk tx T p3)) m3 0 (-1) (nI (ce + cs2.length + cs3.length)) (pa_wr (pa_wr cd ce cs2) (ce + cs2.length) cs3)), L, wQQ q)) 3 rfl ?_
                  refine tv_b (pc' := 122) (ls' := [some (.ref 57), some (.int (nI o)), some (.int (nI (pa_tk tx T p))), some (.int (nI (pa_nm tx T p2)))]) (st' := [.int ((nI (pa_nm tx T p2)) * 32), .ref 57]) (h' := (n, sl, wKK kk, (rdI I (nI (pa_sk tx T p3)) (nI (pa_ed tx T p3)) (nI (pa_tk tx T p3)) m3 0 (-1) (nI (ce + cs2.length + cs3.length)) (pa_wr (pa_wr cd ce cs2) (ce + cs2.length) cs3)), L, wQQ q)) 1 rfl ?_
                  refine tv_top (show (nI (pa_nm tx T p2)) * 32 = nI ((pa_nm tx T p2) * 32) from nI_mul (pa_nm tx T p2) 32) ?_
                  refine tv_b (pc' := 124) (ls' := [some (.ref 57), some (.int (nI o)), some (.int (nI (pa_tk tx T p))), some (.int (nI (pa_nm tx T p2)))]) (st' := [.int 18, .int (nI ((pa_nm tx T p2) * 32)), .ref 57]) (h' := (n, sl, wKK kk, (rdI I (nI (pa_sk tx T p3)) (nI (pa_ed tx T p3)) (nI (pa_tk tx T p3)) m3 0 (-1) (nI (ce + cs2.length + cs3.length)) (pa_wr (pa_wr cd ce cs2) (ce + cs2.length) cs3)), L, wQQ q)) 1 rfl ?_
                  refine tv_b (pc' := 125) (ls' := [some (.ref 57), some (.int (nI o)), some (.int (nI (pa_tk tx T p))), some (.int (nI (pa_nm tx T p2)))]) (st' := [.int ((nI ((pa_nm tx T p2) * 32)) + 18), .ref 57]) (h' := (n, sl, wKK kk, (rdI I (nI (pa_sk tx T p3)) (nI (pa_ed tx T p3)) (nI (pa_tk tx T p3)) m3 0 (-1) (nI (ce + cs2.length + cs3.length)) (pa_wr (pa_wr cd ce cs2) (ce + cs2.length) cs3)), L, wQQ q)) 1 rfl ?_
                  refine tv_top (show (nI ((pa_nm tx T p2) * 32)) + 18 = nI (((pa_nm tx T p2) * 32) + 18) from nI_add ((pa_nm tx T p2) * 32) 18) ?_
                  refine tv_cvE [.int (nI (((pa_nm tx T p2) * 32) + 18))] [] rfl rfl (by omega) rfl (Nat.le_of_ble_eq_true rfl) (Nat.le_of_ble_eq_true rfl) (Or.inr (Or.inr rfl)) (ev_r_emit (by omega)) ?_
                  refine tv_b (pc' := 268) (ls' := [some (.ref 57), some (.int (nI o)), some (.int (nI (pa_tk tx T p))), some (.int (nI (pa_nm tx T p2)))]) (st' := []) (h' := (n, sl, wKK kk, (rdI I (nI (pa_sk tx T p3)) (nI (pa_ed tx T p3)) (nI (pa_tk tx T p3)) m3 0 (-1) (nI (ce + cs2.length + cs3.length + 1)) (upd (pa_wr (pa_wr cd ce cs2) (ce + cs2.length) cs3) (ce + cs2.length + cs3.length) (nI (((pa_nm tx T p2) * 32) + 18)))), L, wQQ q)) 1 rfl ?_
                  refine tv_rv rfl ⟨rfl, _, rfl, ?_, hlast⟩
                  unfold pa_part
                  try dsimp only
                  rw [if_neg (by omega), if_neg (by omega), if_pos (by omega)]
                  refine rdO_b (hr2) ?_
                  try dsimp only
                  rw [if_pos c72]
                  rw [if_neg (by omega)]
                  refine rdO_b (hr3) ?_
                  try dsimp only
                  exact rdO_em ⟨by omega, by omega⟩ hn3 rfl
            · refine tv_b (pc' := (if (nI (pa_tk tx T p2)) = 21 then 109 else 113)) (ls' := [some (.ref 57), some (.int (nI o)), some (.int (nI (pa_tk tx T p))), some (.int m2)]) (st' := [.ref 57]) (h' := (n, sl, wKK kk, (rdI I (nI (pa_sk tx T p2)) (nI (pa_ed tx T p2)) (nI (pa_tk tx T p2)) m2 0 (-1) (nI (ce + cs2.length)) (pa_wr cd ce cs2)), L, wQQ q)) 8 rfl ?_
              refine tv_f (fun hq => absurd ((nI_eq (a := (pa_tk tx T p2)) (b := 21) (by omega) (by omega)).mp hq) (by omega)) ?_
              refine tv_b (pc' := 114) (ls' := [some (.ref 57), some (.int (nI o)), some (.int (nI (pa_tk tx T p))), some (.int m2)]) (st' := [.int 0, .ref 57]) (h' := (n, sl, wKK kk, (rdI I (nI (pa_sk tx T p2)) (nI (pa_ed tx T p2)) (nI (pa_tk tx T p2)) m2 0 (-1) (nI (ce + cs2.length)) (pa_wr cd ce cs2)), L, wQQ q)) 1 rfl ?_
              refine tv_cvE [.int 0] [] rfl rfl (by omega) rfl (Nat.le_of_ble_eq_true rfl) (Nat.le_of_ble_eq_true rfl) (Or.inr (Or.inr rfl)) (ev_r_ex0) ?_
              refine tv_b (pc' := 125) (ls' := [some (.ref 57), some (.int (nI o)), some (.int (nI (pa_tk tx T p))), some (.int m2)]) (st' := [.int ((m2 * 32) + 18), .ref 57]) (h' := (n, sl, wKK kk, (rdI I (nI (pa_sk tx T p2)) (nI (pa_ed tx T p2)) 39 m2 1 (nI (pa_sk tx T p2)) (nI (ce + cs2.length)) (pa_wr cd ce cs2)), L, wQQ q)) 6 rfl ?_
              refine tv_cvE [.int ((m2 * 32) + 18)] [] rfl rfl (by omega) rfl (Nat.le_of_ble_eq_true rfl) (Nat.le_of_ble_eq_true rfl) (Or.inr (Or.inr rfl)) (ev_r_emitF (by decide)) ?_
              refine tv_b (pc' := 268) (ls' := [some (.ref 57), some (.int (nI o)), some (.int (nI (pa_tk tx T p))), some (.int m2)]) (st' := []) (h' := (n, sl, wKK kk, (rdI I (nI (pa_sk tx T p2)) (nI (pa_ed tx T p2)) 39 m2 1 (nI (pa_sk tx T p2)) (nI (ce + cs2.length)) (pa_wr cd ce cs2)), L, wQQ q)) 1 rfl ?_
              refine tv_rv rfl ⟨rfl, _, rfl, ?_, hlast⟩
              unfold pa_part
              try dsimp only
              rw [if_neg (by omega), if_neg (by omega), if_pos (by omega)]
              refine rdO_b (hr2) ?_
              try dsimp only
              rw [if_neg c72]
              first | exact rdO_F (rfl) ⟨by decide, by decide, by omega, by omega⟩ rfl | exact rdO_bl (rfl) (rdO_F (rfl) ⟨by decide, by decide, by omega, by omega⟩ rfl)
        · refine tv_b (pc' := (if (nI (pa_tk tx T p)) = 32 then 137 else 175)) (ls' := [some (.ref 57), some (.int (nI o)), some (.int (nI (pa_tk tx T p))), none]) (st' := []) (h' := (n, sl, wKK kk, (rdI I (nI (pa_sk tx T p)) (nI (pa_ed tx T p)) (nI (pa_tk tx T p)) nm 0 (-1) (nI ce) cd), L, wQQ q)) 3 rfl ?_
          refine tv_ifq (nI_eq (a := (pa_tk tx T p)) (b := 32) (by omega) (by omega)) (fun c134 => ?_) (fun c134 => ?_)
          · refine tv_b (pc' := 141) (ls' := [some (.ref 57), some (.int (nI o)), some (.int (nI (pa_tk tx T p))), none]) (st' := [.int (nI o), .int 32, .ref 57]) (h' := (n, sl, wKK kk, (rdI I (nI (pa_sk tx T p)) (nI (pa_ed tx T p)) (nI (pa_tk tx T p)) nm 0 (-1) (nI ce) cd), L, wQQ q)) 3 rfl ?_
            refine tv_cv [.int 32, .int (nI o)] [] rfl rfl (by omega) rfl (Nat.le_of_ble_eq_true rfl) (Nat.le_of_ble_eq_true rfl) (Or.inr (Or.inr rfl)) (tv_r_op_32 hH hW (by omega) (by omega) c134 (by omega)) ?_
            rintro rv9 h9 ⟨I9, rfl, ho, hlx, hv⟩
            rcases rdO_c ho with ⟨k4, l4, s4, a4, m4, c4, d4, hr4, hk4, rfl⟩ | ⟨p4, cs4, m4, hr4, hp4, hn4, rfl⟩
            · obtain rfl : rv9 = some (.int 0) := by rcases hv with ⟨_, h⟩ | ⟨⟨w, h⟩, _⟩; exact h; rw [hr4] at h; cases h
              refine tv_b (pc' := 268) (ls' := [some (.ref 57), some (.int (nI o)), some (.int (nI (pa_tk tx T p))), none]) (st' := []) (h' := (n, sl, wKK kk, (rdI I (nI s4) (nI a4) 39 m4 (nI k4) (nI l4) (nI c4) d4), L, wQQ q)) 1 rfl ?_
              refine tv_rv rfl ⟨rfl, _, rfl, ?_, hlast⟩
              unfold pa_part
              try dsimp only
              rw [if_neg (by omega), if_neg (by omega), if_neg (by omega), if_pos (by omega)]
              rw [if_neg hz]
              first | exact rdO_bl (hr4) (rdO_F (hr4) hk4 rfl) | exact rdO_F (hr4) hk4 rfl
            · obtain rfl : rv9 = some (.int 1) := by rcases hv with ⟨⟨w, h⟩, _⟩ | ⟨_, h⟩; rw [hr4] at h; cases h; exact h
              have ht4 := pa_tk_lt (b := tx) (n := T) p4
              have hg4 := pa_edo (tx := tx) (T := T) p4
              obtain ⟨hl4, hv4⟩ := hlx _ _ hr4
              have hj4 := pa_ed_le (b := tx) (n := T) (p := p4) hp4.1
              obtain ⟨hq4, hz4⟩ := pa_nx_r hr4
              have hy4 : cs4.length = 0 := by rw [hz4]; rfl
              refine tv_b (pc' := 150) (ls' := [some (.ref 57), some (.int (nI o)), some (.int (nI (pa_tk tx T p))), none]) (st' := [.int 1, .int (nI o), .ref 57]) (h' := (n, sl, wKK kk, (rdI I (nI (pa_sk tx T p4)) (nI (pa_ed tx T p4)) (nI (pa_tk tx T p4)) m4 0 (-1) (nI (ce + cs4.length)) (pa_wr cd ce cs4)), L, wQQ q)) 4 rfl ?_
              refine tv_b (pc' := 151) (ls' := [some (.ref 57), some (.int (nI o)), some (.int (nI (pa_tk tx T p))), none]) (st' := [.int ((nI o) + 1), .ref 57]) (h' := (n, sl, wKK kk, (rdI I (nI (pa_sk tx T p4)) (nI (pa_ed tx T p4)) (nI (pa_tk tx T p4)) m4 0 (-1) (nI (ce + cs4.length)) (pa_wr cd ce cs4)), L, wQQ q)) 1 rfl ?_
              refine tv_top (show (nI o) + 1 = nI (o + 1) from nI_add o 1) ?_
              refine tv_cv [.int (nI (o + 1))] [] rfl rfl (by omega) rfl (Nat.le_of_ble_eq_true rfl) (Nat.le_of_ble_eq_true rfl) (Or.inr (Or.inr rfl)) ((hI hz0) _ p4 _ _ _ (by omega) (by omega) (by omega) hn4 hl4) ?_
              rintro rv9 h9 ⟨rfl, I9, rfl, ho, hlx⟩
              rcases rdO_c ho with ⟨k5, l5, s5, a5, m5, c5, d5, hr5, hk5, rfl⟩ | ⟨p5, cs5, m5, hr5, hp5, hn5, rfl⟩
              · refine tv_b (pc' := 169) (ls' := [some (.ref 57), some (.int (nI o)), some (.int (nI (pa_tk tx T p))), none]) (st' := [.int 0, .ref 57]) (h' := (n, sl, wKK kk, (rdI I (nI s5) (nI a5) 39 m5 (nI k5) (nI l5) (nI c5) d5), L, wQQ q)) 6 rfl ?_
                refine tv_cvE [.int 0] [] rfl rfl (by omega) rfl (Nat.le_of_ble_eq_true rfl) (Nat.le_of_ble_eq_true rfl) (Or.inr (Or.inr rfl)) (ev_r_expectF0 (rd_k hk5)) ?_
                refine tv_b (pc' := 268) (ls' := [some (.ref 57), some (.int (nI o)), some (.int (nI (pa_tk tx T p))), none]) (st' := []) (h' := (n, sl, wKK kk, (rdI I (nI s5) (nI a5) 39 m5 (nI k5) (nI l5) (nI c5) d5), L, wQQ q)) 1 rfl ?_
                refine tv_rv rfl ⟨rfl, _, rfl, ?_, hlast⟩
                unfold pa_part
                try dsimp only
                rw [if_neg (by omega), if_neg (by omega), if_neg (by omega), if_pos (by omega)]
                rw [if_neg hz]
                refine rdO_b (hr4) ?_
                try dsimp only
                first | exact rdO_bl (hr5) (rdO_F (hr5) hk5 rfl) | exact rdO_F (hr5) hk5 rfl
              · have ht5 := pa_tk_lt (b := tx) (n := T) p5
                have hg5 := pa_edo (tx := tx) (T := T) p5
                obtain ⟨hl5, hv5⟩ := hlx _ _ hr5
                have hj5 := pa_ed_le (b := tx) (n := T) (p := p5) hp5.1
                refine tv_b (pc' := (if (nI (pa_tk tx T p5)) = 33 then 164 else 168)) (ls' := [some (.ref 57), some (.int (nI o)), some (.int (nI (pa_tk tx T p))), none]) (st' := [.ref 57]) (h' := (n, sl, wKK kk, (rdI I (nI (pa_sk tx T p5)) (nI (pa_ed tx T p5)) (nI (pa_tk tx T p5)) m5 0 (-1) (nI (ce + cs4.length + cs5.length)) (pa_wr (pa_wr cd ce cs4) (ce + cs4.length) cs5)), L, wQQ q)) 5 rfl ?_
                refine tv_ifq (nI_eq (a := (pa_tk tx T p5)) (b := 33) (by omega) (by omega)) (fun c161 => ?_) (fun c161 => ?_)
                · refine tv_b (pc' := 169) (ls' := [some (.ref 57), some (.int (nI o)), some (.int (nI (pa_tk tx T p))), none]) (st' := [.int 1, .ref 57]) (h' := (n, sl, wKK kk, (rdI I (nI (pa_sk tx T p5)) (nI (pa_ed tx T p5)) (nI (pa_tk tx T p5)) m5 0 (-1) (nI (ce + cs4.length + cs5.length)) (pa_wr (pa_wr cd ce cs4) (ce + cs4.length) cs5)), L, wQQ q)) 2 rfl ?_
                  refine tv_cv [.int 1] [] rfl rfl (by omega) rfl (Nat.le_of_ble_eq_true rfl) (Nat.le_of_ble_eq_true rfl) (Or.inr (Or.inr rfl)) (tv_r_ex1 hH hW (by omega) (by omega)) ?_
                  rintro rv9 h9 ⟨rfl, I9, rfl, ho, hlx⟩
                  rcases rdO_c ho with ⟨k6, l6, s6, a6, m6, c6, d6, hr6, hk6, rfl⟩ | ⟨p6, cs6, m6, hr6, hp6, hn6, rfl⟩
                  · refine tv_b (pc' := 268) (ls' := [some (.ref 57), some (.int (nI o)), some (.int (nI (pa_tk tx T p))), none]) (st' := []) (h' := (n, sl, wKK kk, (rdI I (nI s6) (nI a6) 39 m6 (nI k6) (nI l6) (nI c6) d6), L, wQQ q)) 1 rfl ?_
                    refine tv_rv rfl ⟨rfl, _, rfl, ?_, hlast⟩
                    unfold pa_part
                    try dsimp only
                    rw [if_neg (by omega), if_neg (by omega), if_neg (by omega), if_pos (by omega)]
                    rw [if_neg hz]
                    refine rdO_b (hr4) ?_
                    try dsimp only
                    refine rdO_b (hr5) ?_
                    try dsimp only
                    first | exact rdO_bl ((pa_ex_t c161).trans hr6) (rdO_F ((pa_ex_t c161).trans hr6) hk6 rfl) | exact rdO_F ((pa_ex_t c161).trans hr6) hk6 rfl
                  · have ht6 := pa_tk_lt (b := tx) (n := T) p6
                    have hg6 := pa_edo (tx := tx) (T := T) p6
                    obtain ⟨hl6, hv6⟩ := hlx _ _ hr6
                    have hj6 := pa_ed_le (b := tx) (n := T) (p := p6) hp6.1
                    obtain ⟨hq6, hz6⟩ := pa_nx_r hr6
                    have hy6 : cs6.length = 0 := by rw [hz6]; rfl
                    refine tv_b (pc' := 268) (ls' := [some (.ref 57), some (.int (nI o)), some (.int (nI (pa_tk tx T p))), none]) (st' := []) (h' := (n, sl, wKK kk, (rdI I (nI (pa_sk tx T p6)) (nI (pa_ed tx T p6)) (nI (pa_tk tx T p6)) m6 0 (-1) (nI (ce + cs4.length + cs5.length + cs6.length)) (pa_wr (pa_wr (pa_wr cd ce cs4) (ce + cs4.length) cs5) (ce + cs4.length + cs5.length) cs6)), L, wQQ q)) 1 rfl ?_
                    refine tv_rv rfl ⟨rfl, _, rfl, ?_, hlast⟩
                    unfold pa_part
                    try dsimp only
                    rw [if_neg (by omega), if_neg (by omega), if_neg (by omega), if_pos (by omega)]
                    rw [if_neg hz]
                    refine rdO_b (hr4) ?_
                    try dsimp only
                    refine rdO_b (hr5) ?_
                    try dsimp only
                    exact rdO_N ((pa_ex_t c161).trans hr6) hp6 hn6 rfl
                · refine tv_b (pc' := 169) (ls' := [some (.ref 57), some (.int (nI o)), some (.int (nI (pa_tk tx T p))), none]) (st' := [.int 0, .ref 57]) (h' := (n, sl, wKK kk, (rdI I (nI (pa_sk tx T p5)) (nI (pa_ed tx T p5)) (nI (pa_tk tx T p5)) m5 0 (-1) (nI (ce + cs4.length + cs5.length)) (pa_wr (pa_wr cd ce cs4) (ce + cs4.length) cs5)), L, wQQ q)) 1 rfl ?_
                  refine tv_cvE [.int 0] [] rfl rfl (by omega) rfl (Nat.le_of_ble_eq_true rfl) (Nat.le_of_ble_eq_true rfl) (Or.inr (Or.inr rfl)) (ev_r_ex0) ?_
                  refine tv_b (pc' := 268) (ls' := [some (.ref 57), some (.int (nI o)), some (.int (nI (pa_tk tx T p))), none]) (st' := []) (h' := (n, sl, wKK kk, (rdI I (nI (pa_sk tx T p5)) (nI (pa_ed tx T p5)) 39 m5 1 (nI (pa_sk tx T p5)) (nI (ce + cs4.length + cs5.length)) (pa_wr (pa_wr cd ce cs4) (ce + cs4.length) cs5)), L, wQQ q)) 1 rfl ?_
                  refine tv_rv rfl ⟨rfl, _, rfl, ?_, hlast⟩
                  unfold pa_part
                  try dsimp only
                  rw [if_neg (by omega), if_neg (by omega), if_neg (by omega), if_pos (by omega)]
                  rw [if_neg hz]
                  refine rdO_b (hr4) ?_
                  try dsimp only
                  refine rdO_b (hr5) ?_
                  try dsimp only
                  first | exact rdO_F ((pa_ex_f c161)) ⟨by decide, by decide, by omega, by omega⟩ rfl | exact rdO_bl ((pa_ex_f c161)) (rdO_F ((pa_ex_f c161)) ⟨by decide, by decide, by omega, by omega⟩ rfl)
          · refine tv_b (pc' := (if (nI (pa_tk tx T p)) = 19 then 187 else 181)) (ls' := [some (.ref 57), some (.int (nI o)), some (.int (nI (pa_tk tx T p))), none]) (st' := []) (h' := (n, sl, wKK kk, (rdI I (nI (pa_sk tx T p)) (nI (pa_ed tx T p)) (nI (pa_tk tx T p)) nm 0 (-1) (nI ce) cd), L, wQQ q)) 3 rfl ?_
            refine tv_ifq (nI_eq (a := (pa_tk tx T p)) (b := 19) (by omega) (by omega)) (fun c178 => ?_) (fun c178 => ?_)
            · refine tv_b (pc' := 188) (ls' := [some (.ref 57), some (.int (nI o)), some (.int (nI (pa_tk tx T p))), none]) (st' := [.ref 57]) (h' := (n, sl, wKK kk, (rdI I (nI (pa_sk tx T p)) (nI (pa_ed tx T p)) (nI (pa_tk tx T p)) nm 0 (-1) (nI ce) cd), L, wQQ q)) 1 rfl ?_
              refine tv_cv [] [] rfl rfl (by omega) rfl (Nat.le_of_ble_eq_true rfl) (Nat.le_of_ble_eq_true rfl) (Or.inr (Or.inr rfl)) (tv_r_nx hH hW (by omega) (by omega)) ?_
              rintro rv9 h9 ⟨rfl, I9, rfl, ho, hlx⟩
              rcases rdO_c ho with ⟨k7, l7, s7, a7, m7, c7, d7, hr7, hk7, rfl⟩ | ⟨p7, cs7, m7, hr7, hp7, hn7, rfl⟩
              · refine tv_b (pc' := 195) (ls' := [some (.ref 57), some (.int (nI o)), some (.int (nI (pa_tk tx T p))), none]) (st' := [.int (nI o), .int 32, .ref 57]) (h' := (n, sl, wKK kk, (rdI I (nI s7) (nI a7) 39 m7 (nI k7) (nI l7) (nI c7) d7), L, wQQ q)) 3 rfl ?_
                refine tv_cvE [.int 32, .int (nI o)] [] rfl rfl (by omega) rfl (Nat.le_of_ble_eq_true rfl) (Nat.le_of_ble_eq_true rfl) (Or.inr (Or.inr rfl)) (ev_r_opensF (rd_k hk7)) ?_
                refine tv_b (pc' := 268) (ls' := [some (.ref 57), some (.int (nI o)), some (.int (nI (pa_tk tx T p))), none]) (st' := []) (h' := (n, sl, wKK kk, (rdI I (nI s7) (nI a7) 39 m7 (nI k7) (nI l7) (nI c7) d7), L, wQQ q)) 1 rfl ?_
                refine tv_rv rfl ⟨rfl, _, rfl, ?_, hlast⟩
                unfold pa_part
                try dsimp only
                rw [if_neg (by omega), if_neg (by omega), if_neg (by omega), if_neg (by omega), if_pos (by omega)]
                first | exact rdO_bl (hr7) (rdO_F (hr7) hk7 rfl) | exact rdO_F (hr7) hk7 rfl
              · have ht7 := pa_tk_lt (b := tx) (n := T) p7
                have hg7 := pa_edo (tx := tx) (T := T) p7
                obtain ⟨hl7, hv7⟩ := hlx _ _ hr7
                have hj7 := pa_ed_le (b := tx) (n := T) (p := p7) hp7.1
                obtain ⟨hq7, hz7⟩ := pa_nx_r hr7
                have hy7 : cs7.length = 0 := by rw [hz7]; rfl
                by_cases hb : pa_tk tx T p7 = 32
                · refine tv_b (pc' := 195) (ls' := [some (.ref 57), some (.int (nI o)), some (.int (nI (pa_tk tx T p))), none]) (st' := [.int (nI o), .int 32, .ref 57]) (h' := (n, sl, wKK kk, (rdI I (nI (pa_sk tx T p7)) (nI (pa_ed tx T p7)) (nI (pa_tk tx T p7)) m7 0 (-1) (nI (ce + cs7.length)) (pa_wr cd ce cs7)), L, wQQ q)) 3 rfl ?_
                  refine tv_cv [.int 32, .int (nI o)] [] rfl rfl (by omega) rfl (Nat.le_of_ble_eq_true rfl) (Nat.le_of_ble_eq_true rfl) (Or.inr (Or.inr rfl)) (tv_r_op_32 hH hW (by omega) (by omega) hb (by omega)) ?_
                  rintro rv9 h9 ⟨I9, rfl, ho, hlx, hv⟩
                  rcases rdO_c ho with ⟨k8, l8, s8, a8, m8, c8, d8, hr8, hk8, rfl⟩ | ⟨p8, cs8, m8, hr8, hp8, hn8, rfl⟩
                  · obtain rfl : rv9 = some (.int 0) := by rcases hv with ⟨_, h⟩ | ⟨⟨w, h⟩, _⟩; exact h; rw [hr8] at h; cases h
                    refine tv_b (pc' := 268) (ls' := [some (.ref 57), some (.int (nI o)), some (.int (nI (pa_tk tx T p))), none]) (st' := []) (h' := (n, sl, wKK kk, (rdI I (nI s8) (nI a8) 39 m8 (nI k8) (nI l8) (nI c8) d8), L, wQQ q)) 1 rfl ?_
                    refine tv_rv rfl ⟨rfl, _, rfl, ?_, hlast⟩
                    unfold pa_part
                    try dsimp only
                    rw [if_neg (by omega), if_neg (by omega), if_neg (by omega), if_neg (by omega), if_pos (by omega)]
                    refine rdO_b (hr7) ?_
                    try dsimp only
                    rw [if_pos hb]
                    rw [if_neg hz]
                    first | exact rdO_bl (hr8) (rdO_F (hr8) hk8 rfl) | exact rdO_F (hr8) hk8 rfl
                  · obtain rfl : rv9 = some (.int 1) := by rcases hv with ⟨⟨w, h⟩, _⟩ | ⟨_, h⟩; rw [hr8] at h; cases h; exact h
                    have ht8 := pa_tk_lt (b := tx) (n := T) p8
                    have hg8 := pa_edo (tx := tx) (T := T) p8
                    obtain ⟨hl8, hv8⟩ := hlx _ _ hr8
                    have hj8 := pa_ed_le (b := tx) (n := T) (p := p8) hp8.1
                    obtain ⟨hq8, hz8⟩ := pa_nx_r hr8
                    have hy8 : cs8.length = 0 := by rw [hz8]; rfl
                    refine tv_b (pc' := 204) (ls' := [some (.ref 57), some (.int (nI o)), some (.int (nI (pa_tk tx T p))), none]) (st' := [.int 1, .int (nI o), .ref 57]) (h' := (n, sl, wKK kk, (rdI I (nI (pa_sk tx T p8)) (nI (pa_ed tx T p8)) (nI (pa_tk tx T p8)) m8 0 (-1) (nI (ce + cs7.length + cs8.length)) (pa_wr (pa_wr cd ce cs7) (ce + cs7.length) cs8)), L, wQQ q)) 4 rfl ?_
                    refine tv_b (pc' := 205) (ls' := [some (.ref 57), some (.int (nI o)), some (.int (nI (pa_tk tx T p))), none]) (st' := [.int ((nI o) + 1), .ref 57]) (h' := (n, sl, wKK kk, (rdI I (nI (pa_sk tx T p8)) (nI (pa_ed tx T p8)) (nI (pa_tk tx T p8)) m8 0 (-1) (nI (ce + cs7.length + cs8.length)) (pa_wr (pa_wr cd ce cs7) (ce + cs7.length) cs8)), L, wQQ q)) 1 rfl ?_
                    refine tv_top (show (nI o) + 1 = nI (o + 1) from nI_add o 1) ?_
                    refine tv_cv [.int (nI (o + 1))] [] rfl rfl (by omega) rfl (Nat.le_of_ble_eq_true rfl) (Nat.le_of_ble_eq_true rfl) (Or.inr (Or.inr rfl)) ((hI hz0) _ p8 _ _ _ (by omega) (by omega) (by omega) hn8 hl8) ?_
                    rintro rv9 h9 ⟨rfl, I9, rfl, ho, hlx⟩
                    rcases rdO_c ho with ⟨k9, l9, s9, a9, m9, c9, d9, hr9, hk9, rfl⟩ | ⟨p9, cs9, m9, hr9, hp9, hn9, rfl⟩
                    · refine tv_b (pc' := 223) (ls' := [some (.ref 57), some (.int (nI o)), some (.int (nI (pa_tk tx T p))), none]) (st' := [.int 0, .ref 57]) (h' := (n, sl, wKK kk, (rdI I (nI s9) (nI a9) 39 m9 (nI k9) (nI l9) (nI c9) d9), L, wQQ q)) 6 rfl ?_
                      refine tv_cvE [.int 0] [] rfl rfl (by omega) rfl (Nat.le_of_ble_eq_true rfl) (Nat.le_of_ble_eq_true rfl) (Or.inr (Or.inr rfl)) (ev_r_expectF0 (rd_k hk9)) ?_
                      refine tv_b (pc' := 229) (ls' := [some (.ref 57), some (.int (nI o)), some (.int (nI (pa_tk tx T p))), none]) (st' := [.int 1, .int (nI o), .ref 57]) (h' := (n, sl, wKK kk, (rdI I (nI s9) (nI a9) 39 m9 (nI k9) (nI l9) (nI c9) d9), L, wQQ q)) 3 rfl ?_
                      refine tv_b (pc' := 230) (ls' := [some (.ref 57), some (.int (nI o)), some (.int (nI (pa_tk tx T p))), none]) (st' := [.int ((nI o) + 1), .ref 57]) (h' := (n, sl, wKK kk, (rdI I (nI s9) (nI a9) 39 m9 (nI k9) (nI l9) (nI c9) d9), L, wQQ q)) 1 rfl ?_
                      refine tv_top (show (nI o) + 1 = nI (o + 1) from nI_add o 1) ?_
                      refine tv_cvE [.int (nI (o + 1))] [] rfl rfl (by omega) rfl (Nat.le_of_ble_eq_true rfl) (Nat.le_of_ble_eq_true rfl) (Or.inr (Or.inr rfl)) (ev_r_sumF (rd_k hk9)) ?_
                      refine tv_b (pc' := 248) (ls' := [some (.ref 57), some (.int (nI o)), some (.int (nI (pa_tk tx T p))), none]) (st' := [.int 0, .ref 57]) (h' := (n, sl, wKK kk, (rdI I (nI s9) (nI a9) 39 m9 (nI k9) (nI l9) (nI c9) d9), L, wQQ q)) 6 rfl ?_
                      refine tv_cvE [.int 0] [] rfl rfl (by omega) rfl (Nat.le_of_ble_eq_true rfl) (Nat.le_of_ble_eq_true rfl) (Or.inr (Or.inr rfl)) (ev_r_expectF0 (rd_k hk9)) ?_
                      refine tv_b (pc' := 253) (ls' := [some (.ref 57), some (.int (nI o)), some (.int (nI (pa_tk tx T p))), none]) (st' := [.int (nI (pa_tk tx T p)), .ref 57]) (h' := (n, sl, wKK kk, (rdI I (nI s9) (nI a9) 39 m9 (nI k9) (nI l9) (nI c9) d9), L, wQQ q)) 2 rfl ?_
                      refine tv_cvE [.int (nI (pa_tk tx T p))] [] rfl rfl (by omega) rfl (Nat.le_of_ble_eq_true rfl) (Nat.le_of_ble_eq_true rfl) (Or.inr (Or.inr rfl)) (ev_r_emitF (rd_k hk9)) ?_
                      refine tv_b (pc' := 268) (ls' := [some (.ref 57), some (.int (nI o)), some (.int (nI (pa_tk tx T p))), none]) (st' := []) (h' := (n, sl, wKK kk, (rdI I (nI s9) (nI a9) 39 m9 (nI k9) (nI l9) (nI c9) d9), L, wQQ q)) 1 rfl ?_
                      refine tv_rv rfl ⟨rfl, _, rfl, ?_, hlast⟩
                      unfold pa_part
                      try dsimp only
                      rw [if_neg (by omega), if_neg (by omega), if_neg (by omega), if_neg (by omega), if_pos (by omega)]
                      refine rdO_b (hr7) ?_
                      try dsimp only
                      rw [if_pos hb]
                      rw [if_neg hz]
                      refine rdO_b (hr8) ?_
                      try dsimp only
                      first | exact rdO_bl (hr9) (rdO_F (hr9) hk9 rfl) | exact rdO_F (hr9) hk9 rfl
                    · have ht9 := pa_tk_lt (b := tx) (n := T) p9
                      have hg9 := pa_edo (tx := tx) (T := T) p9
                      obtain ⟨hl9, hv9⟩ := hlx _ _ hr9
                      have hj9 := pa_ed_le (b := tx) (n := T) (p := p9) hp9.1
                      refine tv_b (pc' := (if (nI (pa_tk tx T p9)) = 36 then 218 else 222)) (ls' := [some (.ref 57), some (.int (nI o)), some (.int (nI (pa_tk tx T p))), none]) (st' := [.ref 57]) (h' := (n, sl, wKK kk, (rdI I (nI (pa_sk tx T p9)) (nI (pa_ed tx T p9)) (nI (pa_tk tx T p9)) m9 0 (-1) (nI (ce + cs7.length + cs8.length + cs9.length)) (pa_wr (pa_wr (pa_wr cd ce cs7) (ce + cs7.length) cs8) (ce + cs7.length + cs8.length) cs9)), L, wQQ q)) 5 rfl ?_
                      refine tv_ifq (nI_eq (a := (pa_tk tx T p9)) (b := 36) (by omega) (by omega)) (fun c215 => ?_) (fun c215 => ?_)
                      · refine tv_b (pc' := 223) (ls' := [some (.ref 57), some (.int (nI o)), some (.int (nI (pa_tk tx T p))), none]) (st' := [.int 1, .ref 57]) (h' := (n, sl, wKK kk, (rdI I (nI (pa_sk tx T p9)) (nI (pa_ed tx T p9)) (nI (pa_tk tx T p9)) m9 0 (-1) (nI (ce + cs7.length + cs8.length + cs9.length)) (pa_wr (pa_wr (pa_wr cd ce cs7) (ce + cs7.length) cs8) (ce + cs7.length + cs8.length) cs9)), L, wQQ q)) 2 rfl ?_
                        refine tv_cv [.int 1] [] rfl rfl (by omega) rfl (Nat.le_of_ble_eq_true rfl) (Nat.le_of_ble_eq_true rfl) (Or.inr (Or.inr rfl)) (tv_r_ex1 hH hW (by omega) (by omega)) ?_
                        rintro rv9 h9 ⟨rfl, I9, rfl, ho, hlx⟩
                        rcases rdO_c ho with ⟨k10, l10, s10, a10, m10, c10, d10, hr10, hk10, rfl⟩ | ⟨p10, cs10, m10, hr10, hp10, hn10, rfl⟩
                        · refine tv_b (pc' := 229) (ls' := [some (.ref 57), some (.int (nI o)), some (.int (nI (pa_tk tx T p))), none]) (st' := [.int 1, .int (nI o), .ref 57]) (h' := (n, sl, wKK kk, (rdI I (nI s10) (nI a10) 39 m10 (nI k10) (nI l10) (nI c10) d10), L, wQQ q)) 3 rfl ?_
                          refine tv_b (pc' := 230) (ls' := [some (.ref 57), some (.int (nI o)), some (.int (nI (pa_tk tx T p))), none]) (st' := [.int ((nI o) + 1), .ref 57]) (h' := (n, sl, wKK kk, (rdI I (nI s10) (nI a10) 39 m10 (nI k10) (nI l10) (nI c10) d10), L, wQQ q)) 1 rfl ?_
                          refine tv_top (show (nI o) + 1 = nI (o + 1) from nI_add o 1) ?_
                          refine tv_cvE [.int (nI (o + 1))] [] rfl rfl (by omega) rfl (Nat.le_of_ble_eq_true rfl) (Nat.le_of_ble_eq_true rfl) (Or.inr (Or.inr rfl)) (ev_r_sumF (rd_k hk10)) ?_
                          refine tv_b (pc' := 248) (ls' := [some (.ref 57), some (.int (nI o)), some (.int (nI (pa_tk tx T p))), none]) (st' := [.int 0, .ref 57]) (h' := (n, sl, wKK kk, (rdI I (nI s10) (nI a10) 39 m10 (nI k10) (nI l10) (nI c10) d10), L, wQQ q)) 6 rfl ?_
                          refine tv_cvE [.int 0] [] rfl rfl (by omega) rfl (Nat.le_of_ble_eq_true rfl) (Nat.le_of_ble_eq_true rfl) (Or.inr (Or.inr rfl)) (ev_r_expectF0 (rd_k hk10)) ?_
                          refine tv_b (pc' := 253) (ls' := [some (.ref 57), some (.int (nI o)), some (.int (nI (pa_tk tx T p))), none]) (st' := [.int (nI (pa_tk tx T p)), .ref 57]) (h' := (n, sl, wKK kk, (rdI I (nI s10) (nI a10) 39 m10 (nI k10) (nI l10) (nI c10) d10), L, wQQ q)) 2 rfl ?_
                          refine tv_cvE [.int (nI (pa_tk tx T p))] [] rfl rfl (by omega) rfl (Nat.le_of_ble_eq_true rfl) (Nat.le_of_ble_eq_true rfl) (Or.inr (Or.inr rfl)) (ev_r_emitF (rd_k hk10)) ?_
                          refine tv_b (pc' := 268) (ls' := [some (.ref 57), some (.int (nI o)), some (.int (nI (pa_tk tx T p))), none]) (st' := []) (h' := (n, sl, wKK kk, (rdI I (nI s10) (nI a10) 39 m10 (nI k10) (nI l10) (nI c10) d10), L, wQQ q)) 1 rfl ?_
                          refine tv_rv rfl ⟨rfl, _, rfl, ?_, hlast⟩
                          unfold pa_part
                          try dsimp only
                          rw [if_neg (by omega), if_neg (by omega), if_neg (by omega), if_neg (by omega), if_pos (by omega)]
                          refine rdO_b (hr7) ?_
                          try dsimp only
                          rw [if_pos hb]
                          rw [if_neg hz]
                          refine rdO_b (hr8) ?_
                          try dsimp only
                          refine rdO_b (hr9) ?_
                          try dsimp only
                          first | exact rdO_bl ((pa_ex_t c215).trans hr10) (rdO_F ((pa_ex_t c215).trans hr10) hk10 rfl) | exact rdO_F ((pa_ex_t c215).trans hr10) hk10 rfl
                        · have ht10 := pa_tk_lt (b := tx) (n := T) p10
                          have hg10 := pa_edo (tx := tx) (T := T) p10
                          obtain ⟨hl10, hv10⟩ := hlx _ _ hr10
                          have hj10 := pa_ed_le (b := tx) (n := T) (p := p10) hp10.1
                          obtain ⟨hq10, hz10⟩ := pa_nx_r hr10
                          have hy10 : cs10.length = 0 := by rw [hz10]; rfl
                          refine tv_b (pc' := 229) (ls' := [some (.ref 57), some (.int (nI o)), some (.int (nI (pa_tk tx T p))), none]) (st' := [.int 1, .int (nI o), .ref 57]) (h' := (n, sl, wKK kk, (rdI I (nI (pa_sk tx T p10)) (nI (pa_ed tx T p10)) (nI (pa_tk tx T p10)) m10 0 (-1) (nI (ce + cs7.length + cs8.length + cs9.length + cs10.length)) (pa_wr (pa_wr (pa_wr (pa_wr cd ce cs7) (ce + cs7.length) cs8) (ce + cs7.length + cs8.length) cs9) (ce + cs7.length + cs8.length + cs9.length) cs10)), L, wQQ q)) 3 rfl ?_
                          refine tv_b (pc' := 230) (ls' := [some (.ref 57), some (.int (nI o)), some (.int (nI (pa_tk tx T p))), none]) (st' := [.int ((nI o) + 1), .ref 57]) (h' := (n, sl, wKK kk, (rdI I (nI (pa_sk tx T p10)) (nI (pa_ed tx T p10)) (nI (pa_tk tx T p10)) m10 0 (-1) (nI (ce + cs7.length + cs8.length + cs9.length + cs10.length)) (pa_wr (pa_wr (pa_wr (pa_wr cd ce cs7) (ce + cs7.length) cs8) (ce + cs7.length + cs8.length) cs9) (ce + cs7.length + cs8.length + cs9.length) cs10)), L, wQQ q)) 1 rfl ?_
                          refine tv_top (show (nI o) + 1 = nI (o + 1) from nI_add o 1) ?_
                          refine tv_cv [.int (nI (o + 1))] [] rfl rfl (by omega) rfl (Nat.le_of_ble_eq_true rfl) (Nat.le_of_ble_eq_true rfl) (Or.inr (Or.inr rfl)) ((hI hz0) _ p10 _ _ _ (by omega) (by omega) (by omega) hn10 hl10) ?_
                          rintro rv9 h9 ⟨rfl, I9, rfl, ho, hlx⟩
                          rcases rdO_c ho with ⟨k11, l11, s11, a11, m11, c11, d11, hr11, hk11, rfl⟩ | ⟨p11, cs11, m11, hr11, hp11, hn11, rfl⟩
                          · refine tv_b (pc' := 248) (ls' := [some (.ref 57), some (.int (nI o)), some (.int (nI (pa_tk tx T p))), none]) (st' := [.int 0, .ref 57]) (h' := (n, sl, wKK kk, (rdI I (nI s11) (nI a11) 39 m11 (nI k11) (nI l11) (nI c11) d11), L, wQQ q)) 6 rfl ?_
                            refine tv_cvE [.int 0] [] rfl rfl (by omega) rfl (Nat.le_of_ble_eq_true rfl) (Nat.le_of_ble_eq_true rfl) (Or.inr (Or.inr rfl)) (ev_r_expectF0 (rd_k hk11)) ?_
                            refine tv_b (pc' := 253) (ls' := [some (.ref 57), some (.int (nI o)), some (.int (nI (pa_tk tx T p))), none]) (st' := [.int (nI (pa_tk tx T p)), .ref 57]) (h' := (n, sl, wKK kk, (rdI I (nI s11) (nI a11) 39 m11 (nI k11) (nI l11) (nI c11) d11), L, wQQ q)) 2 rfl ?_
                            refine tv_cvE [.int (nI (pa_tk tx T p))] [] rfl rfl (by omega) rfl (Nat.le_of_ble_eq_true rfl) (Nat.le_of_ble_eq_true rfl) (Or.inr (Or.inr rfl)) (ev_r_emitF (rd_k hk11)) ?_
                            refine tv_b (pc' := 268) (ls' := [some (.ref 57), some (.int (nI o)), some (.int (nI (pa_tk tx T p))), none]) (st' := []) (h' := (n, sl, wKK kk, (rdI I (nI s11) (nI a11) 39 m11 (nI k11) (nI l11) (nI c11) d11), L, wQQ q)) 1 rfl ?_
                            refine tv_rv rfl ⟨rfl, _, rfl, ?_, hlast⟩
                            unfold pa_part
                            try dsimp only
                            rw [if_neg (by omega), if_neg (by omega), if_neg (by omega), if_neg (by omega), if_pos (by omega)]
                            refine rdO_b (hr7) ?_
                            try dsimp only
                            rw [if_pos hb]
                            rw [if_neg hz]
                            refine rdO_b (hr8) ?_
                            try dsimp only
                            refine rdO_b (hr9) ?_
                            try dsimp only
                            refine rdO_b ((pa_ex_t c215).trans hr10) ?_
                            try dsimp only
                            first | exact rdO_bl (hr11) (rdO_F (hr11) hk11 rfl) | exact rdO_F (hr11) hk11 rfl
                          · have ht11 := pa_tk_lt (b := tx) (n := T) p11
                            have hg11 := pa_edo (tx := tx) (T := T) p11
                            obtain ⟨hl11, hv11⟩ := hlx _ _ hr11
                            have hj11 := pa_ed_le (b := tx) (n := T) (p := p11) hp11.1
                            refine tv_b (pc' := (if (nI (pa_tk tx T p11)) = 33 then 243 else 247)) (ls' := [some (.ref 57), some (.int (nI o)), some (.int (nI (pa_tk tx T p))), none]) (st' := [.ref 57]) (h' := (n, sl, wKK kk, (rdI I (nI (pa_sk tx T p11)) (nI (pa_ed tx T p11)) (nI (pa_tk tx T p11)) m11 0 (-1) (nI (ce + cs7.length + cs8.length + cs9.length + cs10.length + cs11.length)) (pa_wr (pa_wr (pa_wr (pa_wr (pa_wr cd ce cs7) (ce + cs7.length) cs8) (ce + cs7.length + cs8.length) cs9) (ce + cs7.length + cs8.length + cs9.length) cs10) (ce + cs7.length + cs8.length + cs9.length + cs10.length) cs11)), L, wQQ q)) 5 rfl ?_
                            refine tv_ifq (nI_eq (a := (pa_tk tx T p11)) (b := 33) (by omega) (by omega)) (fun c240 => ?_) (fun c240 => ?_)
                            · refine tv_b (pc' := 248) (ls' := [some (.ref 57), some (.int (nI o)), some (.int (nI (pa_tk tx T p))), none]) (st' := [.int 1, .ref 57]) (h' := (n, sl, wKK kk, (rdI I (nI (pa_sk tx T p11)) (nI (pa_ed tx T p11)) (nI (pa_tk tx T p11)) m11 0 (-1) (nI (ce + cs7.length + cs8.length + cs9.length + cs10.length + cs11.length)) (pa_wr (pa_wr (pa_wr (pa_wr (pa_wr cd ce cs7) (ce + cs7.length) cs8) (ce + cs7.length + cs8.length) cs9) (ce + cs7.length + cs8.length + cs9.length) cs10) (ce + cs7.length + cs8.length + cs9.length + cs10.length) cs11)), L, wQQ q)) 2 rfl ?_
                              refine tv_cv [.int 1] [] rfl rfl (by omega) rfl (Nat.le_of_ble_eq_true rfl) (Nat.le_of_ble_eq_true rfl) (Or.inr (Or.inr rfl)) (tv_r_ex1 hH hW (by omega) (by omega)) ?_
                              rintro rv9 h9 ⟨rfl, I9, rfl, ho, hlx⟩
                              rcases rdO_c ho with ⟨k12, l12, s12, a12, m12, c12, d12, hr12, hk12, rfl⟩ | ⟨p12, cs12, m12, hr12, hp12, hn12, rfl⟩
                              · refine tv_b (pc' := 253) (ls' := [some (.ref 57), some (.int (nI o)), some (.int (nI (pa_tk tx T p))), none]) (st' := [.int (nI (pa_tk tx T p)), .ref 57]) (h' := (n, sl, wKK kk, (rdI I (nI s12) (nI a12) 39 m12 (nI k12) (nI l12) (nI c12) d12), L, wQQ q)) 2 rfl ?_
                                refine tv_cvE [.int (nI (pa_tk tx T p))] [] rfl rfl (by omega) rfl (Nat.le_of_ble_eq_true rfl) (Nat.le_of_ble_eq_true rfl) (Or.inr (Or.inr rfl)) (ev_r_emitF (rd_k hk12)) ?_
                                refine tv_b (pc' := 268) (ls' := [some (.ref 57), some (.int (nI o)), some (.int (nI (pa_tk tx T p))), none]) (st' := []) (h' := (n, sl, wKK kk, (rdI I (nI s12) (nI a12) 39 m12 (nI k12) (nI l12) (nI c12) d12), L, wQQ q)) 1 rfl ?_
                                refine tv_rv rfl ⟨rfl, _, rfl, ?_, hlast⟩
                                unfold pa_part
                                try dsimp only
                                rw [if_neg (by omega), if_neg (by omega), if_neg (by omega), if_neg (by omega), if_pos (by omega)]
                                refine rdO_b (hr7) ?_
                                try dsimp only
                                rw [if_pos hb]
                                rw [if_neg hz]
                                refine rdO_b (hr8) ?_
                                try dsimp only
                                refine rdO_b (hr9) ?_
                                try dsimp only
                                refine rdO_b ((pa_ex_t c215).trans hr10) ?_
                                try dsimp only
                                refine rdO_b (hr11) ?_
                                try dsimp only
                                first | exact rdO_bl ((pa_ex_t c240).trans hr12) (rdO_F ((pa_ex_t c240).trans hr12) hk12 rfl) | exact rdO_F ((pa_ex_t c240).trans hr12) hk12 rfl
                              · have ht12 := pa_tk_lt (b := tx) (n := T) p12
                                have hg12 := pa_edo (tx := tx) (T := T) p12
                                obtain ⟨hl12, hv12⟩ := hlx _ _ hr12
                                have hj12 := pa_ed_le (b := tx) (n := T) (p := p12) hp12.1
                                obtain ⟨hq12, hz12⟩ := pa_nx_r hr12
                                have hy12 : cs12.length = 0 := by rw [hz12]; rfl
                                refine tv_b (pc' := 253) (ls' := [some (.ref 57), some (.int (nI o)), some (.int (nI (pa_tk tx T p))), none]) (st' := [.int (nI (pa_tk tx T p)), .ref 57]) (h' := (n, sl, wKK kk, (rdI I (nI (pa_sk tx T p12)) (nI (pa_ed tx T p12)) (nI (pa_tk tx T p12)) m12 0 (-1) (nI (ce + cs7.length + cs8.length + cs9.length + cs10.length + cs11.length + cs12.length)) (pa_wr (pa_wr (pa_wr (pa_wr (pa_wr (pa_wr cd ce cs7) (ce + cs7.length) cs8) (ce + cs7.length + cs8.length) cs9) (ce + cs7.length + cs8.length + cs9.length) cs10) (ce + cs7.length + cs8.length + cs9.length + cs10.length) cs11) (ce + cs7.length + cs8.length + cs9.length + cs10.length + cs11.length) cs12)), L, wQQ q)) 2 rfl ?_
                                refine tv_cvE [.int (nI (pa_tk tx T p))] [] rfl rfl (by omega) rfl (Nat.le_of_ble_eq_true rfl) (Nat.le_of_ble_eq_true rfl) (Or.inr (Or.inr rfl)) (ev_r_emit (by omega)) ?_
                                refine tv_b (pc' := 268) (ls' := [some (.ref 57), some (.int (nI o)), some (.int (nI (pa_tk tx T p))), none]) (st' := []) (h' := (n, sl, wKK kk, (rdI I (nI (pa_sk tx T p12)) (nI (pa_ed tx T p12)) (nI (pa_tk tx T p12)) m12 0 (-1) (nI (ce + cs7.length + cs8.length + cs9.length + cs10.length + cs11.length + cs12.length + 1)) (upd (pa_wr (pa_wr (pa_wr (pa_wr (pa_wr (pa_wr cd ce cs7) (ce + cs7.length) cs8) (ce + cs7.length + cs8.length) cs9) (ce + cs7.length + cs8.length + cs9.length) cs10) (ce + cs7.length + cs8.length + cs9.length + cs10.length) cs11) (ce + cs7.length + cs8.length + cs9.length + cs10.length + cs11.length) cs12) (ce + cs7.length + cs8.length + cs9.length + cs10.length + cs11.length + cs12.length) (nI (pa_tk tx T p)))), L, wQQ q)) 1 rfl ?_
                                refine tv_rv rfl ⟨rfl, _, rfl, ?_, hlast⟩
                                unfold pa_part
                                try dsimp only
                                rw [if_neg (by omega), if_neg (by omega), if_neg (by omega), if_neg (by omega), if_pos (by omega)]
                                refine rdO_b (hr7) ?_
                                try dsimp only
                                rw [if_pos hb]
                                rw [if_neg hz]
                                refine rdO_b (hr8) ?_
                                try dsimp only
                                refine rdO_b (hr9) ?_
                                try dsimp only
                                refine rdO_b ((pa_ex_t c215).trans hr10) ?_
                                try dsimp only
                                refine rdO_b (hr11) ?_
                                try dsimp only
                                refine rdO_b ((pa_ex_t c240).trans hr12) ?_
                                try dsimp only
                                exact rdO_em ⟨by omega, by omega⟩ hn12 rfl
                            · refine tv_b (pc' := 248) (ls' := [some (.ref 57), some (.int (nI o)), some (.int (nI (pa_tk tx T p))), none]) (st' := [.int 0, .ref 57]) (h' := (n, sl, wKK kk, (rdI I (nI (pa_sk tx T p11)) (nI (pa_ed tx T p11)) (nI (pa_tk tx T p11)) m11 0 (-1) (nI (ce + cs7.length + cs8.length + cs9.length + cs10.length + cs11.length)) (pa_wr (pa_wr (pa_wr (pa_wr (pa_wr cd ce cs7) (ce + cs7.length) cs8) (ce + cs7.length + cs8.length) cs9) (ce + cs7.length + cs8.length + cs9.length) cs10) (ce + cs7.length + cs8.length + cs9.length + cs10.length) cs11)), L, wQQ q)) 1 rfl ?_
                              refine tv_cvE [.int 0] [] rfl rfl (by omega) rfl (Nat.le_of_ble_eq_true rfl) (Nat.le_of_ble_eq_true rfl) (Or.inr (Or.inr rfl)) (ev_r_ex0) ?_
                              refine tv_b (pc' := 253) (ls' := [some (.ref 57), some (.int (nI o)), some (.int (nI (pa_tk tx T p))), none]) (st' := [.int (nI (pa_tk tx T p)), .ref 57]) (h' := (n, sl, wKK kk, (rdI I (nI (pa_sk tx T p11)) (nI (pa_ed tx T p11)) 39 m11 1 (nI (pa_sk tx T p11)) (nI (ce + cs7.length + cs8.length + cs9.length + cs10.length + cs11.length)) (pa_wr (pa_wr (pa_wr (pa_wr (pa_wr cd ce cs7) (ce + cs7.length) cs8) (ce + cs7.length + cs8.length) cs9) (ce + cs7.length + cs8.length + cs9.length) cs10) (ce + cs7.length + cs8.length + cs9.length + cs10.length) cs11)), L, wQQ q)) 2 rfl ?_
                              refine tv_cvE [.int (nI (pa_tk tx T p))] [] rfl rfl (by omega) rfl (Nat.le_of_ble_eq_true rfl) (Nat.le_of_ble_eq_true rfl) (Or.inr (Or.inr rfl)) (ev_r_emitF (by decide)) ?_
                              refine tv_b (pc' := 268) (ls' := [some (.ref 57), some (.int (nI o)), some (.int (nI (pa_tk tx T p))), none]) (st' := []) (h' := (n, sl, wKK kk, (rdI I (nI (pa_sk tx T p11)) (nI (pa_ed tx T p11)) 39 m11 1 (nI (pa_sk tx T p11)) (nI (ce + cs7.length + cs8.length + cs9.length + cs10.length + cs11.length)) (pa_wr (pa_wr (pa_wr (pa_wr (pa_wr cd ce cs7) (ce + cs7.length) cs8) (ce + cs7.length + cs8.length) cs9) (ce + cs7.length + cs8.length + cs9.length) cs10) (ce + cs7.length + cs8.length + cs9.length + cs10.length) cs11)), L, wQQ q)) 1 rfl ?_
                              refine tv_rv rfl ⟨rfl, _, rfl, ?_, hlast⟩
                              unfold pa_part
                              try dsimp only
                              rw [if_neg (by omega), if_neg (by omega), if_neg (by omega), if_neg (by omega), if_pos (by omega)]
                              refine rdO_b (hr7) ?_
                              try dsimp only
                              rw [if_pos hb]
                              rw [if_neg hz]
                              refine rdO_b (hr8) ?_
                              try dsimp only
                              refine rdO_b (hr9) ?_
                              try dsimp only
                              refine rdO_b ((pa_ex_t c215).trans hr10) ?_
                              try dsimp only
                              refine rdO_b (hr11) ?_
                              try dsimp only
                              first | exact rdO_F ((pa_ex_f c240)) ⟨by decide, by decide, by omega, by omega⟩ rfl | exact rdO_bl ((pa_ex_f c240)) (rdO_F ((pa_ex_f c240)) ⟨by decide, by decide, by omega, by omega⟩ rfl)
                      · refine tv_b (pc' := 223) (ls' := [some (.ref 57), some (.int (nI o)), some (.int (nI (pa_tk tx T p))), none]) (st' := [.int 0, .ref 57]) (h' := (n, sl, wKK kk, (rdI I (nI (pa_sk tx T p9)) (nI (pa_ed tx T p9)) (nI (pa_tk tx T p9)) m9 0 (-1) (nI (ce + cs7.length + cs8.length + cs9.length)) (pa_wr (pa_wr (pa_wr cd ce cs7) (ce + cs7.length) cs8) (ce + cs7.length + cs8.length) cs9)), L, wQQ q)) 1 rfl ?_
                        refine tv_cvE [.int 0] [] rfl rfl (by omega) rfl (Nat.le_of_ble_eq_true rfl) (Nat.le_of_ble_eq_true rfl) (Or.inr (Or.inr rfl)) (ev_r_ex0) ?_
                        refine tv_b (pc' := 229) (ls' := [some (.ref 57), some (.int (nI o)), some (.int (nI (pa_tk tx T p))), none]) (st' := [.int 1, .int (nI o), .ref 57]) (h' := (n, sl, wKK kk, (rdI I (nI (pa_sk tx T p9)) (nI (pa_ed tx T p9)) 39 m9 1 (nI (pa_sk tx T p9)) (nI (ce + cs7.length + cs8.length + cs9.length)) (pa_wr (pa_wr (pa_wr cd ce cs7) (ce + cs7.length) cs8) (ce + cs7.length + cs8.length) cs9)), L, wQQ q)) 3 rfl ?_
                        refine tv_b (pc' := 230) (ls' := [some (.ref 57), some (.int (nI o)), some (.int (nI (pa_tk tx T p))), none]) (st' := [.int ((nI o) + 1), .ref 57]) (h' := (n, sl, wKK kk, (rdI I (nI (pa_sk tx T p9)) (nI (pa_ed tx T p9)) 39 m9 1 (nI (pa_sk tx T p9)) (nI (ce + cs7.length + cs8.length + cs9.length)) (pa_wr (pa_wr (pa_wr cd ce cs7) (ce + cs7.length) cs8) (ce + cs7.length + cs8.length) cs9)), L, wQQ q)) 1 rfl ?_
                        refine tv_top (show (nI o) + 1 = nI (o + 1) from nI_add o 1) ?_
                        refine tv_cvE [.int (nI (o + 1))] [] rfl rfl (by omega) rfl (Nat.le_of_ble_eq_true rfl) (Nat.le_of_ble_eq_true rfl) (Or.inr (Or.inr rfl)) (ev_r_sumF (by decide)) ?_
                        refine tv_b (pc' := 248) (ls' := [some (.ref 57), some (.int (nI o)), some (.int (nI (pa_tk tx T p))), none]) (st' := [.int 0, .ref 57]) (h' := (n, sl, wKK kk, (rdI I (nI (pa_sk tx T p9)) (nI (pa_ed tx T p9)) 39 m9 1 (nI (pa_sk tx T p9)) (nI (ce + cs7.length + cs8.length + cs9.length)) (pa_wr (pa_wr (pa_wr cd ce cs7) (ce + cs7.length) cs8) (ce + cs7.length + cs8.length) cs9)), L, wQQ q)) 6 rfl ?_
                        refine tv_cvE [.int 0] [] rfl rfl (by omega) rfl (Nat.le_of_ble_eq_true rfl) (Nat.le_of_ble_eq_true rfl) (Or.inr (Or.inr rfl)) (ev_r_expectF0 (by decide)) ?_
                        refine tv_b (pc' := 253) (ls' := [some (.ref 57), some (.int (nI o)), some (.int (nI (pa_tk tx T p))), none]) (st' := [.int (nI (pa_tk tx T p)), .ref 57]) (h' := (n, sl, wKK kk, (rdI I (nI (pa_sk tx T p9)) (nI (pa_ed tx T p9)) 39 m9 1 (nI (pa_sk tx T p9)) (nI (ce + cs7.length + cs8.length + cs9.length)) (pa_wr (pa_wr (pa_wr cd ce cs7) (ce + cs7.length) cs8) (ce + cs7.length + cs8.length) cs9)), L, wQQ q)) 2 rfl ?_
                        refine tv_cvE [.int (nI (pa_tk tx T p))] [] rfl rfl (by omega) rfl (Nat.le_of_ble_eq_true rfl) (Nat.le_of_ble_eq_true rfl) (Or.inr (Or.inr rfl)) (ev_r_emitF (by decide)) ?_
                        refine tv_b (pc' := 268) (ls' := [some (.ref 57), some (.int (nI o)), some (.int (nI (pa_tk tx T p))), none]) (st' := []) (h' := (n, sl, wKK kk, (rdI I (nI (pa_sk tx T p9)) (nI (pa_ed tx T p9)) 39 m9 1 (nI (pa_sk tx T p9)) (nI (ce + cs7.length + cs8.length + cs9.length)) (pa_wr (pa_wr (pa_wr cd ce cs7) (ce + cs7.length) cs8) (ce + cs7.length + cs8.length) cs9)), L, wQQ q)) 1 rfl ?_
                        refine tv_rv rfl ⟨rfl, _, rfl, ?_, hlast⟩
                        unfold pa_part
                        try dsimp only
                        rw [if_neg (by omega), if_neg (by omega), if_neg (by omega), if_neg (by omega), if_pos (by omega)]
                        refine rdO_b (hr7) ?_
                        try dsimp only
                        rw [if_pos hb]
                        rw [if_neg hz]
                        refine rdO_b (hr8) ?_
                        try dsimp only
                        refine rdO_b (hr9) ?_
                        try dsimp only
                        first | exact rdO_F ((pa_ex_f c215)) ⟨by decide, by decide, by omega, by omega⟩ rfl | exact rdO_bl ((pa_ex_f c215)) (rdO_F ((pa_ex_f c215)) ⟨by decide, by decide, by omega, by omega⟩ rfl)
                · refine tv_b (pc' := 195) (ls' := [some (.ref 57), some (.int (nI o)), some (.int (nI (pa_tk tx T p))), none]) (st' := [.int (nI o), .int 32, .ref 57]) (h' := (n, sl, wKK kk, (rdI I (nI (pa_sk tx T p7)) (nI (pa_ed tx T p7)) (nI (pa_tk tx T p7)) m7 0 (-1) (nI (ce + cs7.length)) (pa_wr cd ce cs7)), L, wQQ q)) 3 rfl ?_
                  refine tv_cvE [.int 32, .int (nI o)] [] rfl rfl (by omega) rfl (Nat.le_of_ble_eq_true rfl) (Nat.le_of_ble_eq_true rfl) (Or.inr (Or.inr rfl)) (ev_r_op1_32 hb (by omega)) ?_
                  refine tv_b (pc' := 268) (ls' := [some (.ref 57), some (.int (nI o)), some (.int (nI (pa_tk tx T p))), none]) (st' := []) (h' := (n, sl, wKK kk, (rdI I (nI (pa_sk tx T p7)) (nI (pa_ed tx T p7)) 39 m7 1 (nI (pa_sk tx T p7)) (nI (ce + cs7.length)) (pa_wr cd ce cs7)), L, wQQ q)) 1 rfl ?_
                  refine tv_rv rfl ⟨rfl, _, rfl, ?_, hlast⟩
                  unfold pa_part
                  try dsimp only
                  rw [if_neg (by omega), if_neg (by omega), if_neg (by omega), if_neg (by omega), if_pos (by omega)]
                  refine rdO_b (hr7) ?_
                  try dsimp only
                  rw [if_neg hb]
                  first | exact rdO_F (rfl) ⟨by decide, by decide, by omega, by omega⟩ rfl | exact rdO_bl (rfl) (rdO_F (rfl) ⟨by decide, by decide, by omega, by omega⟩ rfl)
            · refine tv_b (pc' := (if (nI (pa_tk tx T p)) = 20 then 187 else 259)) (ls' := [some (.ref 57), some (.int (nI o)), some (.int (nI (pa_tk tx T p))), none]) (st' := []) (h' := (n, sl, wKK kk, (rdI I (nI (pa_sk tx T p)) (nI (pa_ed tx T p)) (nI (pa_tk tx T p)) nm 0 (-1) (nI ce) cd), L, wQQ q)) 3 rfl ?_
              refine tv_ifq (nI_eq (a := (pa_tk tx T p)) (b := 20) (by omega) (by omega)) (fun c184 => ?_) (fun c184 => ?_)
              · refine tv_b (pc' := 188) (ls' := [some (.ref 57), some (.int (nI o)), some (.int (nI (pa_tk tx T p))), none]) (st' := [.ref 57]) (h' := (n, sl, wKK kk, (rdI I (nI (pa_sk tx T p)) (nI (pa_ed tx T p)) (nI (pa_tk tx T p)) nm 0 (-1) (nI ce) cd), L, wQQ q)) 1 rfl ?_
                refine tv_cv [] [] rfl rfl (by omega) rfl (Nat.le_of_ble_eq_true rfl) (Nat.le_of_ble_eq_true rfl) (Or.inr (Or.inr rfl)) (tv_r_nx hH hW (by omega) (by omega)) ?_
                rintro rv9 h9 ⟨rfl, I9, rfl, ho, hlx⟩
                rcases rdO_c ho with ⟨k13, l13, s13, a13, m13, c13, d13, hr13, hk13, rfl⟩ | ⟨p13, cs13, m13, hr13, hp13, hn13, rfl⟩
                · refine tv_b (pc' := 195) (ls' := [some (.ref 57), some (.int (nI o)), some (.int (nI (pa_tk tx T p))), none]) (st' := [.int (nI o), .int 32, .ref 57]) (h' := (n, sl, wKK kk, (rdI I (nI s13) (nI a13) 39 m13 (nI k13) (nI l13) (nI c13) d13), L, wQQ q)) 3 rfl ?_
                  refine tv_cvE [.int 32, .int (nI o)] [] rfl rfl (by omega) rfl (Nat.le_of_ble_eq_true rfl) (Nat.le_of_ble_eq_true rfl) (Or.inr (Or.inr rfl)) (ev_r_opensF (rd_k hk13)) ?_
                  refine tv_b (pc' := 268) (ls' := [some (.ref 57), some (.int (nI o)), some (.int (nI (pa_tk tx T p))), none]) (st' := []) (h' := (n, sl, wKK kk, (rdI I (nI s13) (nI a13) 39 m13 (nI k13) (nI l13) (nI c13) d13), L, wQQ q)) 1 rfl ?_
                  refine tv_rv rfl ⟨rfl, _, rfl, ?_, hlast⟩
                  unfold pa_part
                  try dsimp only
                  rw [if_neg (by omega), if_neg (by omega), if_neg (by omega), if_neg (by omega), if_pos (by omega)]
                  first | exact rdO_bl (hr13) (rdO_F (hr13) hk13 rfl) | exact rdO_F (hr13) hk13 rfl
                · have ht13 := pa_tk_lt (b := tx) (n := T) p13
                  have hg13 := pa_edo (tx := tx) (T := T) p13
                  obtain ⟨hl13, hv13⟩ := hlx _ _ hr13
                  have hj13 := pa_ed_le (b := tx) (n := T) (p := p13) hp13.1
                  obtain ⟨hq13, hz13⟩ := pa_nx_r hr13
                  have hy13 : cs13.length = 0 := by rw [hz13]; rfl
                  by_cases hb : pa_tk tx T p13 = 32
                  · refine tv_b (pc' := 195) (ls' := [some (.ref 57), some (.int (nI o)), some (.int (nI (pa_tk tx T p))), none]) (st' := [.int (nI o), .int 32, .ref 57]) (h' := (n, sl, wKK kk, (rdI I (nI (pa_sk tx T p13)) (nI (pa_ed tx T p13)) (nI (pa_tk tx T p13)) m13 0 (-1) (nI (ce + cs13.length)) (pa_wr cd ce cs13)), L, wQQ q)) 3 rfl ?_
                    refine tv_cv [.int 32, .int (nI o)] [] rfl rfl (by omega) rfl (Nat.le_of_ble_eq_true rfl) (Nat.le_of_ble_eq_true rfl) (Or.inr (Or.inr rfl)) (tv_r_op_32 hH hW (by omega) (by omega) hb (by omega)) ?_
                    rintro rv9 h9 ⟨I9, rfl, ho, hlx, hv⟩
                    rcases rdO_c ho with ⟨k14, l14, s14, a14, m14, c14, d14, hr14, hk14, rfl⟩ | ⟨p14, cs14, m14, hr14, hp14, hn14, rfl⟩
                    · obtain rfl : rv9 = some (.int 0) := by rcases hv with ⟨_, h⟩ | ⟨⟨w, h⟩, _⟩; exact h; rw [hr14] at h; cases h
                      refine tv_b (pc' := 268) (ls' := [some (.ref 57), some (.int (nI o)), some (.int (nI (pa_tk tx T p))), none]) (st' := []) (h' := (n, sl, wKK kk, (rdI I (nI s14) (nI a14) 39 m14 (nI k14) (nI l14) (nI c14) d14), L, wQQ q)) 1 rfl ?_
                      refine tv_rv rfl ⟨rfl, _, rfl, ?_, hlast⟩
                      unfold pa_part
                      try dsimp only
                      rw [if_neg (by omega), if_neg (by omega), if_neg (by omega), if_neg (by omega), if_pos (by omega)]
                      refine rdO_b (hr13) ?_
                      try dsimp only
                      rw [if_pos hb]
                      rw [if_neg hz]
                      first | exact rdO_bl (hr14) (rdO_F (hr14) hk14 rfl) | exact rdO_F (hr14) hk14 rfl
                    · obtain rfl : rv9 = some (.int 1) := by rcases hv with ⟨⟨w, h⟩, _⟩ | ⟨_, h⟩; rw [hr14] at h; cases h; exact h
                      have ht14 := pa_tk_lt (b := tx) (n := T) p14
                      have hg14 := pa_edo (tx := tx) (T := T) p14
                      obtain ⟨hl14, hv14⟩ := hlx _ _ hr14
                      have hj14 := pa_ed_le (b := tx) (n := T) (p := p14) hp14.1
                      obtain ⟨hq14, hz14⟩ := pa_nx_r hr14
                      have hy14 : cs14.length = 0 := by rw [hz14]; rfl
                      refine tv_b (pc' := 204) (ls' := [some (.ref 57), some (.int (nI o)), some (.int (nI (pa_tk tx T p))), none]) (st' := [.int 1, .int (nI o), .ref 57]) (h' := (n, sl, wKK kk, (rdI I (nI (pa_sk tx T p14)) (nI (pa_ed tx T p14)) (nI (pa_tk tx T p14)) m14 0 (-1) (nI (ce + cs13.length + cs14.length)) (pa_wr (pa_wr cd ce cs13) (ce + cs13.length) cs14)), L, wQQ q)) 4 rfl ?_
                      refine tv_b (pc' := 205) (ls' := [some (.ref 57), some (.int (nI o)), some (.int (nI (pa_tk tx T p))), none]) (st' := [.int ((nI o) + 1), .ref 57]) (h' := (n, sl, wKK kk, (rdI I (nI (pa_sk tx T p14)) (nI (pa_ed tx T p14)) (nI (pa_tk tx T p14)) m14 0 (-1) (nI (ce + cs13.length + cs14.length)) (pa_wr (pa_wr cd ce cs13) (ce + cs13.length) cs14)), L, wQQ q)) 1 rfl ?_
                      refine tv_top (show (nI o) + 1 = nI (o + 1) from nI_add o 1) ?_
                      refine tv_cv [.int (nI (o + 1))] [] rfl rfl (by omega) rfl (Nat.le_of_ble_eq_true rfl) (Nat.le_of_ble_eq_true rfl) (Or.inr (Or.inr rfl)) ((hI hz0) _ p14 _ _ _ (by omega) (by omega) (by omega) hn14 hl14) ?_
                      rintro rv9 h9 ⟨rfl, I9, rfl, ho, hlx⟩
                      rcases rdO_c ho with ⟨k15, l15, s15, a15, m15, c15, d15, hr15, hk15, rfl⟩ | ⟨p15, cs15, m15, hr15, hp15, hn15, rfl⟩
                      · refine tv_b (pc' := 223) (ls' := [some (.ref 57), some (.int (nI o)), some (.int (nI (pa_tk tx T p))), none]) (st' := [.int 0, .ref 57]) (h' := (n, sl, wKK kk, (rdI I (nI s15) (nI a15) 39 m15 (nI k15) (nI l15) (nI c15) d15), L, wQQ q)) 6 rfl ?_
                        refine tv_cvE [.int 0] [] rfl rfl (by omega) rfl (Nat.le_of_ble_eq_true rfl) (Nat.le_of_ble_eq_true rfl) (Or.inr (Or.inr rfl)) (ev_r_expectF0 (rd_k hk15)) ?_
                        refine tv_b (pc' := 229) (ls' := [some (.ref 57), some (.int (nI o)), some (.int (nI (pa_tk tx T p))), none]) (st' := [.int 1, .int (nI o), .ref 57]) (h' := (n, sl, wKK kk, (rdI I (nI s15) (nI a15) 39 m15 (nI k15) (nI l15) (nI c15) d15), L, wQQ q)) 3 rfl ?_
                        refine tv_b (pc' := 230) (ls' := [some (.ref 57), some (.int (nI o)), some (.int (nI (pa_tk tx T p))), none]) (st' := [.int ((nI o) + 1), .ref 57]) (h' := (n, sl, wKK kk, (rdI I (nI s15) (nI a15) 39 m15 (nI k15) (nI l15) (nI c15) d15), L, wQQ q)) 1 rfl ?_
                        refine tv_top (show (nI o) + 1 = nI (o + 1) from nI_add o 1) ?_
                        refine tv_cvE [.int (nI (o + 1))] [] rfl rfl (by omega) rfl (Nat.le_of_ble_eq_true rfl) (Nat.le_of_ble_eq_true rfl) (Or.inr (Or.inr rfl)) (ev_r_sumF (rd_k hk15)) ?_
                        refine tv_b (pc' := 248) (ls' := [some (.ref 57), some (.int (nI o)), some (.int (nI (pa_tk tx T p))), none]) (st' := [.int 0, .ref 57]) (h' := (n, sl, wKK kk, (rdI I (nI s15) (nI a15) 39 m15 (nI k15) (nI l15) (nI c15) d15), L, wQQ q)) 6 rfl ?_
                        refine tv_cvE [.int 0] [] rfl rfl (by omega) rfl (Nat.le_of_ble_eq_true rfl) (Nat.le_of_ble_eq_true rfl) (Or.inr (Or.inr rfl)) (ev_r_expectF0 (rd_k hk15)) ?_
                        refine tv_b (pc' := 253) (ls' := [some (.ref 57), some (.int (nI o)), some (.int (nI (pa_tk tx T p))), none]) (st' := [.int (nI (pa_tk tx T p)), .ref 57]) (h' := (n, sl, wKK kk, (rdI I (nI s15) (nI a15) 39 m15 (nI k15) (nI l15) (nI c15) d15), L, wQQ q)) 2 rfl ?_
                        refine tv_cvE [.int (nI (pa_tk tx T p))] [] rfl rfl (by omega) rfl (Nat.le_of_ble_eq_true rfl) (Nat.le_of_ble_eq_true rfl) (Or.inr (Or.inr rfl)) (ev_r_emitF (rd_k hk15)) ?_
                        refine tv_b (pc' := 268) (ls' := [some (.ref 57), some (.int (nI o)), some (.int (nI (pa_tk tx T p))), none]) (st' := []) (h' := (n, sl, wKK kk, (rdI I (nI s15) (nI a15) 39 m15 (nI k15) (nI l15) (nI c15) d15), L, wQQ q)) 1 rfl ?_
                        refine tv_rv rfl ⟨rfl, _, rfl, ?_, hlast⟩
                        unfold pa_part
                        try dsimp only
                        rw [if_neg (by omega), if_neg (by omega), if_neg (by omega), if_neg (by omega), if_pos (by omega)]
                        refine rdO_b (hr13) ?_
                        try dsimp only
                        rw [if_pos hb]
                        rw [if_neg hz]
                        refine rdO_b (hr14) ?_
                        try dsimp only
                        first | exact rdO_bl (hr15) (rdO_F (hr15) hk15 rfl) | exact rdO_F (hr15) hk15 rfl
                      · have ht15 := pa_tk_lt (b := tx) (n := T) p15
                        have hg15 := pa_edo (tx := tx) (T := T) p15
                        obtain ⟨hl15, hv15⟩ := hlx _ _ hr15
                        have hj15 := pa_ed_le (b := tx) (n := T) (p := p15) hp15.1
                        refine tv_b (pc' := (if (nI (pa_tk tx T p15)) = 36 then 218 else 222)) (ls' := [some (.ref 57), some (.int (nI o)), some (.int (nI (pa_tk tx T p))), none]) (st' := [.ref 57]) (h' := (n, sl, wKK kk, (rdI I (nI (pa_sk tx T p15)) (nI (pa_ed tx T p15)) (nI (pa_tk tx T p15)) m15 0 (-1) (nI (ce + cs13.length + cs14.length + cs15.length)) (pa_wr (pa_wr (pa_wr cd ce cs13) (ce + cs13.length) cs14) (ce + cs13.length + cs14.length) cs15)), L, wQQ q)) 5 rfl ?_
                        refine tv_ifq (nI_eq (a := (pa_tk tx T p15)) (b := 36) (by omega) (by omega)) (fun c215 => ?_) (fun c215 => ?_)
                        · refine tv_b (pc' := 223) (ls' := [some (.ref 57), some (.int (nI o)), some (.int (nI (pa_tk tx T p))), none]) (st' := [.int 1, .ref 57]) (h' := (n, sl, wKK kk, (rdI I (nI (pa_sk tx T p15)) (nI (pa_ed tx T p15)) (nI (pa_tk tx T p15)) m15 0 (-1) (nI (ce + cs13.length + cs14.length + cs15.length)) (pa_wr (pa_wr (pa_wr cd ce cs13) (ce + cs13.length) cs14) (ce + cs13.length + cs14.length) cs15)), L, wQQ q)) 2 rfl ?_
                          refine tv_cv [.int 1] [] rfl rfl (by omega) rfl (Nat.le_of_ble_eq_true rfl) (Nat.le_of_ble_eq_true rfl) (Or.inr (Or.inr rfl)) (tv_r_ex1 hH hW (by omega) (by omega)) ?_
                          rintro rv9 h9 ⟨rfl, I9, rfl, ho, hlx⟩
                          rcases rdO_c ho with ⟨k16, l16, s16, a16, m16, c16, d16, hr16, hk16, rfl⟩ | ⟨p16, cs16, m16, hr16, hp16, hn16, rfl⟩
                          · refine tv_b (pc' := 229) (ls' := [some (.ref 57), some (.int (nI o)), some (.int (nI (pa_tk tx T p))), none]) (st' := [.int 1, .int (nI o), .ref 57]) (h' := (n, sl, wKK kk, (rdI I (nI s16) (nI a16) 39 m16 (nI k16) (nI l16) (nI c16) d16), L, wQQ q)) 3 rfl ?_
                            refine tv_b (pc' := 230) (ls' := [some (.ref 57), some (.int (nI o)), some (.int (nI (pa_tk tx T p))), none]) (st' := [.int ((nI o) + 1), .ref 57]) (h' := (n, sl, wKK kk, (rdI I (nI s16) (nI a16) 39 m16 (nI k16) (nI l16) (nI c16) d16), L, wQQ q)) 1 rfl ?_
                            refine tv_top (show (nI o) + 1 = nI (o + 1) from nI_add o 1) ?_
                            refine tv_cvE [.int (nI (o + 1))] [] rfl rfl (by omega) rfl (Nat.le_of_ble_eq_true rfl) (Nat.le_of_ble_eq_true rfl) (Or.inr (Or.inr rfl)) (ev_r_sumF (rd_k hk16)) ?_
                            refine tv_b (pc' := 248) (ls' := [some (.ref 57), some (.int (nI o)), some (.int (nI (pa_tk tx T p))), none]) (st' := [.int 0, .ref 57]) (h' := (n, sl, wKK kk, (rdI I (nI s16) (nI a16) 39 m16 (nI k16) (nI l16) (nI c16) d16), L, wQQ q)) 6 rfl ?_
                            refine tv_cvE [.int 0] [] rfl rfl (by omega) rfl (Nat.le_of_ble_eq_true rfl) (Nat.le_of_ble_eq_true rfl) (Or.inr (Or.inr rfl)) (ev_r_expectF0 (rd_k hk16)) ?_
                            refine tv_b (pc' := 253) (ls' := [some (.ref 57), some (.int (nI o)), some (.int (nI (pa_tk tx T p))), none]) (st' := [.int (nI (pa_tk tx T p)), .ref 57]) (h' := (n, sl, wKK kk, (rdI I (nI s16) (nI a16) 39 m16 (nI k16) (nI l16) (nI c16) d16), L, wQQ q)) 2 rfl ?_
                            refine tv_cvE [.int (nI (pa_tk tx T p))] [] rfl rfl (by omega) rfl (Nat.le_of_ble_eq_true rfl) (Nat.le_of_ble_eq_true rfl) (Or.inr (Or.inr rfl)) (ev_r_emitF (rd_k hk16)) ?_
                            refine tv_b (pc' := 268) (ls' := [some (.ref 57), some (.int (nI o)), some (.int (nI (pa_tk tx T p))), none]) (st' := []) (h' := (n, sl, wKK kk, (rdI I (nI s16) (nI a16) 39 m16 (nI k16) (nI l16) (nI c16) d16), L, wQQ q)) 1 rfl ?_
                            refine tv_rv rfl ⟨rfl, _, rfl, ?_, hlast⟩
                            unfold pa_part
                            try dsimp only
                            rw [if_neg (by omega), if_neg (by omega), if_neg (by omega), if_neg (by omega), if_pos (by omega)]
                            refine rdO_b (hr13) ?_
                            try dsimp only
                            rw [if_pos hb]
                            rw [if_neg hz]
                            refine rdO_b (hr14) ?_
                            try dsimp only
                            refine rdO_b (hr15) ?_
                            try dsimp only
                            first | exact rdO_bl ((pa_ex_t c215).trans hr16) (rdO_F ((pa_ex_t c215).trans hr16) hk16 rfl) | exact rdO_F ((pa_ex_t c215).trans hr16) hk16 rfl
                          · have ht16 := pa_tk_lt (b := tx) (n := T) p16
                            have hg16 := pa_edo (tx := tx) (T := T) p16
                            obtain ⟨hl16, hv16⟩ := hlx _ _ hr16
                            have hj16 := pa_ed_le (b := tx) (n := T) (p := p16) hp16.1
                            obtain ⟨hq16, hz16⟩ := pa_nx_r hr16
                            have hy16 : cs16.length = 0 := by rw [hz16]; rfl
                            refine tv_b (pc' := 229) (ls' := [some (.ref 57), some (.int (nI o)), some (.int (nI (pa_tk tx T p))), none]) (st' := [.int 1, .int (nI o), .ref 57]) (h' := (n, sl, wKK kk, (rdI I (nI (pa_sk tx T p16)) (nI (pa_ed tx T p16)) (nI (pa_tk tx T p16)) m16 0 (-1) (nI (ce + cs13.length + cs14.length + cs15.length + cs16.length)) (pa_wr (pa_wr (pa_wr (pa_wr cd ce cs13) (ce + cs13.length) cs14) (ce + cs13.length + cs14.length) cs15) (ce + cs13.length + cs14.length + cs15.length) cs16)), L, wQQ q)) 3 rfl ?_
                            refine tv_b (pc' := 230) (ls' := [some (.ref 57), some (.int (nI o)), some (.int (nI (pa_tk tx T p))), none]) (st' := [.int ((nI o) + 1), .ref 57]) (h' := (n, sl, wKK kk, (rdI I (nI (pa_sk tx T p16)) (nI (pa_ed tx T p16)) (nI (pa_tk tx T p16)) m16 0 (-1) (nI (ce + cs13.length + cs14.length + cs15.length + cs16.length)) (pa_wr (pa_wr (pa_wr (pa_wr cd ce cs13) (ce + cs13.length) cs14) (ce + cs13.length + cs14.length) cs15) (ce + cs13.length + cs14.length + cs15.length) cs16)), L, wQQ q)) 1 rfl ?_
                            refine tv_top (show (nI o) + 1 = nI (o + 1) from nI_add o 1) ?_
                            refine tv_cv [.int (nI (o + 1))] [] rfl rfl (by omega) rfl (Nat.le_of_ble_eq_true rfl) (Nat.le_of_ble_eq_true rfl) (Or.inr (Or.inr rfl)) ((hI hz0) _ p16 _ _ _ (by omega) (by omega) (by omega) hn16 hl16) ?_
                            rintro rv9 h9 ⟨rfl, I9, rfl, ho, hlx⟩
                            rcases rdO_c ho with ⟨k17, l17, s17, a17, m17, c17, d17, hr17, hk17, rfl⟩ | ⟨p17, cs17, m17, hr17, hp17, hn17, rfl⟩
                            · refine tv_b (pc' := 248) (ls' := [some (.ref 57), some (.int (nI o)), some (.int (nI (pa_tk tx T p))), none]) (st' := [.int 0, .ref 57]) (h' := (n, sl, wKK kk, (rdI I (nI s17) (nI a17) 39 m17 (nI k17) (nI l17) (nI c17) d17), L, wQQ q)) 6 rfl ?_
                              refine tv_cvE [.int 0] [] rfl rfl (by omega) rfl (Nat.le_of_ble_eq_true rfl) (Nat.le_of_ble_eq_true rfl) (Or.inr (Or.inr rfl)) (ev_r_expectF0 (rd_k hk17)) ?_
                              refine tv_b (pc' := 253) (ls' := [some (.ref 57), some (.int (nI o)), some (.int (nI (pa_tk tx T p))), none]) (st' := [.int (nI (pa_tk tx T p)), .ref 57]) (h' := (n, sl, wKK kk, (rdI I (nI s17) (nI a17) 39 m17 (nI k17) (nI l17) (nI c17) d17), L, wQQ q)) 2 rfl ?_
                              refine tv_cvE [.int (nI (pa_tk tx T p))] [] rfl rfl (by omega) rfl (Nat.le_of_ble_eq_true rfl) (Nat.le_of_ble_eq_true rfl) (Or.inr (Or.inr rfl)) (ev_r_emitF (rd_k hk17)) ?_
                              refine tv_b (pc' := 268) (ls' := [some (.ref 57), some (.int (nI o)), some (.int (nI (pa_tk tx T p))), none]) (st' := []) (h' := (n, sl, wKK kk, (rdI I (nI s17) (nI a17) 39 m17 (nI k17) (nI l17) (nI c17) d17), L, wQQ q)) 1 rfl ?_
                              refine tv_rv rfl ⟨rfl, _, rfl, ?_, hlast⟩
                              unfold pa_part
                              try dsimp only
                              rw [if_neg (by omega), if_neg (by omega), if_neg (by omega), if_neg (by omega), if_pos (by omega)]
                              refine rdO_b (hr13) ?_
                              try dsimp only
                              rw [if_pos hb]
                              rw [if_neg hz]
                              refine rdO_b (hr14) ?_
                              try dsimp only
                              refine rdO_b (hr15) ?_
                              try dsimp only
                              refine rdO_b ((pa_ex_t c215).trans hr16) ?_
                              try dsimp only
                              first | exact rdO_bl (hr17) (rdO_F (hr17) hk17 rfl) | exact rdO_F (hr17) hk17 rfl
                            · have ht17 := pa_tk_lt (b := tx) (n := T) p17
                              have hg17 := pa_edo (tx := tx) (T := T) p17
                              obtain ⟨hl17, hv17⟩ := hlx _ _ hr17
                              have hj17 := pa_ed_le (b := tx) (n := T) (p := p17) hp17.1
                              refine tv_b (pc' := (if (nI (pa_tk tx T p17)) = 33 then 243 else 247)) (ls' := [some (.ref 57), some (.int (nI o)), some (.int (nI (pa_tk tx T p))), none]) (st' := [.ref 57]) (h' := (n, sl, wKK kk, (rdI I (nI (pa_sk tx T p17)) (nI (pa_ed tx T p17)) (nI (pa_tk tx T p17)) m17 0 (-1) (nI (ce + cs13.length + cs14.length + cs15.length + cs16.length + cs17.length)) (pa_wr (pa_wr (pa_wr (pa_wr (pa_wr cd ce cs13) (ce + cs13.length) cs14) (ce + cs13.length + cs14.length) cs15) (ce + cs13.length + cs14.length + cs15.length) cs16) (ce + cs13.length + cs14.length + cs15.length + cs16.length) cs17)), L, wQQ q)) 5 rfl ?_
                              refine tv_ifq (nI_eq (a := (pa_tk tx T p17)) (b := 33) (by omega) (by omega)) (fun c240 => ?_) (fun c240 => ?_)
                              · refine tv_b (pc' := 248) (ls' := [some (.ref 57), some (.int (nI o)), some (.int (nI (pa_tk tx T p))), none]) (st' := [.int 1, .ref 57]) (h' := (n, sl, wKK kk, (rdI I (nI (pa_sk tx T p17)) (nI (pa_ed tx T p17)) (nI (pa_tk tx T p17)) m17 0 (-1) (nI (ce + cs13.length + cs14.length + cs15.length + cs16.length + cs17.length)) (pa_wr (pa_wr (pa_wr (pa_wr (pa_wr cd ce cs13) (ce + cs13.length) cs14) (ce + cs13.length + cs14.length) cs15) (ce + cs13.length + cs14.length + cs15.length) cs16) (ce + cs13.length + cs14.length + cs15.length + cs16.length) cs17)), L, wQQ q)) 2 rfl ?_
                                refine tv_cv [.int 1] [] rfl rfl (by omega) rfl (Nat.le_of_ble_eq_true rfl) (Nat.le_of_ble_eq_true rfl) (Or.inr (Or.inr rfl)) (tv_r_ex1 hH hW (by omega) (by omega)) ?_
                                rintro rv9 h9 ⟨rfl, I9, rfl, ho, hlx⟩
                                rcases rdO_c ho with ⟨k18, l18, s18, a18, m18, c18, d18, hr18, hk18, rfl⟩ | ⟨p18, cs18, m18, hr18, hp18, hn18, rfl⟩
                                · refine tv_b (pc' := 253) (ls' := [some (.ref 57), some (.int (nI o)), some (.int (nI (pa_tk tx T p))), none]) (st' := [.int (nI (pa_tk tx T p)), .ref 57]) (h' := (n, sl, wKK kk, (rdI I (nI s18) (nI a18) 39 m18 (nI k18) (nI l18) (nI c18) d18), L, wQQ q)) 2 rfl ?_
                                  refine tv_cvE [.int (nI (pa_tk tx T p))] [] rfl rfl (by omega) rfl (Nat.le_of_ble_eq_true rfl) (Nat.le_of_ble_eq_true rfl) (Or.inr (Or.inr rfl)) (ev_r_emitF (rd_k hk18)) ?_
                                  refine tv_b (pc' := 268) (ls' := [some (.ref 57), some (.int (nI o)), some (.int (nI (pa_tk tx T p))), none]) (st' := []) (h' := (n, sl, wKK kk, (rdI I (nI s18) (nI a18) 39 m18 (nI k18) (nI l18) (nI c18) d18), L, wQQ q)) 1 rfl ?_
                                  refine tv_rv rfl ⟨rfl, _, rfl, ?_, hlast⟩
                                  unfold pa_part
                                  try dsimp only
                                  rw [if_neg (by omega), if_neg (by omega), if_neg (by omega), if_neg (by omega), if_pos (by omega)]
                                  refine rdO_b (hr13) ?_
                                  try dsimp only
                                  rw [if_pos hb]
                                  rw [if_neg hz]
                                  refine rdO_b (hr14) ?_
                                  try dsimp only
                                  refine rdO_b (hr15) ?_
                                  try dsimp only
                                  refine rdO_b ((pa_ex_t c215).trans hr16) ?_
                                  try dsimp only
                                  refine rdO_b (hr17) ?_
                                  try dsimp only
                                  first | exact rdO_bl ((pa_ex_t c240).trans hr18) (rdO_F ((pa_ex_t c240).trans hr18) hk18 rfl) | exact rdO_F ((pa_ex_t c240).trans hr18) hk18 rfl
                                · have ht18 := pa_tk_lt (b := tx) (n := T) p18
                                  have hg18 := pa_edo (tx := tx) (T := T) p18
                                  obtain ⟨hl18, hv18⟩ := hlx _ _ hr18
                                  have hj18 := pa_ed_le (b := tx) (n := T) (p := p18) hp18.1
                                  obtain ⟨hq18, hz18⟩ := pa_nx_r hr18
                                  have hy18 : cs18.length = 0 := by rw [hz18]; rfl
                                  refine tv_b (pc' := 253) (ls' := [some (.ref 57), some (.int (nI o)), some (.int (nI (pa_tk tx T p))), none]) (st' := [.int (nI (pa_tk tx T p)), .ref 57]) (h' := (n, sl, wKK kk, (rdI I (nI (pa_sk tx T p18)) (nI (pa_ed tx T p18)) (nI (pa_tk tx T p18)) m18 0 (-1) (nI (ce + cs13.length + cs14.length + cs15.length + cs16.length + cs17.length + cs18.length)) (pa_wr (pa_wr (pa_wr (pa_wr (pa_wr (pa_wr cd ce cs13) (ce + cs13.length) cs14) (ce + cs13.length + cs14.length) cs15) (ce + cs13.length + cs14.length + cs15.length) cs16) (ce + cs13.length + cs14.length + cs15.length + cs16.length) cs17) (ce + cs13.length + cs14.length + cs15.length + cs16.length + cs17.length) cs18)), L, wQQ q)) 2 rfl ?_
                                  refine tv_cvE [.int (nI (pa_tk tx T p))] [] rfl rfl (by omega) rfl (Nat.le_of_ble_eq_true rfl) (Nat.le_of_ble_eq_true rfl) (Or.inr (Or.inr rfl)) (ev_r_emit (by omega)) ?_
                                  refine tv_b (pc' := 268) (ls' := [some (.ref 57), some (.int (nI o)), some (.int (nI (pa_tk tx T p))), none]) (st' := []) (h' := (n, sl, wKK kk, (rdI I (nI (pa_sk tx T p18)) (nI (pa_ed tx T p18)) (nI (pa_tk tx T p18)) m18 0 (-1) (nI (ce + cs13.length + cs14.length + cs15.length + cs16.length + cs17.length + cs18.length + 1)) (upd (pa_wr (pa_wr (pa_wr (pa_wr (pa_wr (pa_wr cd ce cs13) (ce + cs13.length) cs14) (ce + cs13.length + cs14.length) cs15) (ce + cs13.length + cs14.length + cs15.length) cs16) (ce + cs13.length + cs14.length + cs15.length + cs16.length) cs17) (ce + cs13.length + cs14.length + cs15.length + cs16.length + cs17.length) cs18) (ce + cs13.length + cs14.length + cs15.length + cs16.length + cs17.length + cs18.length) (nI (pa_tk tx T p)))), L, wQQ q)) 1 rfl ?_
                                  refine tv_rv rfl ⟨rfl, _, rfl, ?_, hlast⟩
                                  unfold pa_part
                                  try dsimp only
                                  rw [if_neg (by omega), if_neg (by omega), if_neg (by omega), if_neg (by omega), if_pos (by omega)]
                                  refine rdO_b (hr13) ?_
                                  try dsimp only
                                  rw [if_pos hb]
                                  rw [if_neg hz]
                                  refine rdO_b (hr14) ?_
                                  try dsimp only
                                  refine rdO_b (hr15) ?_
                                  try dsimp only
                                  refine rdO_b ((pa_ex_t c215).trans hr16) ?_
                                  try dsimp only
                                  refine rdO_b (hr17) ?_
                                  try dsimp only
                                  refine rdO_b ((pa_ex_t c240).trans hr18) ?_
                                  try dsimp only
                                  exact rdO_em ⟨by omega, by omega⟩ hn18 rfl
                              · refine tv_b (pc' := 248) (ls' := [some (.ref 57), some (.int (nI o)), some (.int (nI (pa_tk tx T p))), none]) (st' := [.int 0, .ref 57]) (h' := (n, sl, wKK kk, (rdI I (nI (pa_sk tx T p17)) (nI (pa_ed tx T p17)) (nI (pa_tk tx T p17)) m17 0 (-1) (nI (ce + cs13.length + cs14.length + cs15.length + cs16.length + cs17.length)) (pa_wr (pa_wr (pa_wr (pa_wr (pa_wr cd ce cs13) (ce + cs13.length) cs14) (ce + cs13.length + cs14.length) cs15) (ce + cs13.length + cs14.length + cs15.length) cs16) (ce + cs13.length + cs14.length + cs15.length + cs16.length) cs17)), L, wQQ q)) 1 rfl ?_
                                refine tv_cvE [.int 0] [] rfl rfl (by omega) rfl (Nat.le_of_ble_eq_true rfl) (Nat.le_of_ble_eq_true rfl) (Or.inr (Or.inr rfl)) (ev_r_ex0) ?_
                                refine tv_b (pc' := 253) (ls' := [some (.ref 57), some (.int (nI o)), some (.int (nI (pa_tk tx T p))), none]) (st' := [.int (nI (pa_tk tx T p)), .ref 57]) (h' := (n, sl, wKK kk, (rdI I (nI (pa_sk tx T p17)) (nI (pa_ed tx T p17)) 39 m17 1 (nI (pa_sk tx T p17)) (nI (ce + cs13.length + cs14.length + cs15.length + cs16.length + cs17.length)) (pa_wr (pa_wr (pa_wr (pa_wr (pa_wr cd ce cs13) (ce + cs13.length) cs14) (ce + cs13.length + cs14.length) cs15) (ce + cs13.length + cs14.length + cs15.length) cs16) (ce + cs13.length + cs14.length + cs15.length + cs16.length) cs17)), L, wQQ q)) 2 rfl ?_
                                refine tv_cvE [.int (nI (pa_tk tx T p))] [] rfl rfl (by omega) rfl (Nat.le_of_ble_eq_true rfl) (Nat.le_of_ble_eq_true rfl) (Or.inr (Or.inr rfl)) (ev_r_emitF (by decide)) ?_
                                refine tv_b (pc' := 268) (ls' := [some (.ref 57), some (.int (nI o)), some (.int (nI (pa_tk tx T p))), none]) (st' := []) (h' := (n, sl, wKK kk, (rdI I (nI (pa_sk tx T p17)) (nI (pa_ed tx T p17)) 39 m17 1 (nI (pa_sk tx T p17)) (nI (ce + cs13.length + cs14.length + cs15.length + cs16.length + cs17.length)) (pa_wr (pa_wr (pa_wr (pa_wr (pa_wr cd ce cs13) (ce + cs13.length) cs14) (ce + cs13.length + cs14.length) cs15) (ce + cs13.length + cs14.length + cs15.length) cs16) (ce + cs13.length + cs14.length + cs15.length + cs16.length) cs17)), L, wQQ q)) 1 rfl ?_
                                refine tv_rv rfl ⟨rfl, _, rfl, ?_, hlast⟩
                                unfold pa_part
                                try dsimp only
                                rw [if_neg (by omega), if_neg (by omega), if_neg (by omega), if_neg (by omega), if_pos (by omega)]
                                refine rdO_b (hr13) ?_
                                try dsimp only
                                rw [if_pos hb]
                                rw [if_neg hz]
                                refine rdO_b (hr14) ?_
                                try dsimp only
                                refine rdO_b (hr15) ?_
                                try dsimp only
                                refine rdO_b ((pa_ex_t c215).trans hr16) ?_
                                try dsimp only
                                refine rdO_b (hr17) ?_
                                try dsimp only
                                first | exact rdO_F ((pa_ex_f c240)) ⟨by decide, by decide, by omega, by omega⟩ rfl | exact rdO_bl ((pa_ex_f c240)) (rdO_F ((pa_ex_f c240)) ⟨by decide, by decide, by omega, by omega⟩ rfl)
                        · refine tv_b (pc' := 223) (ls' := [some (.ref 57), some (.int (nI o)), some (.int (nI (pa_tk tx T p))), none]) (st' := [.int 0, .ref 57]) (h' := (n, sl, wKK kk, (rdI I (nI (pa_sk tx T p15)) (nI (pa_ed tx T p15)) (nI (pa_tk tx T p15)) m15 0 (-1) (nI (ce + cs13.length + cs14.length + cs15.length)) (pa_wr (pa_wr (pa_wr cd ce cs13) (ce + cs13.length) cs14) (ce + cs13.length + cs14.length) cs15)), L, wQQ q)) 1 rfl ?_
                          refine tv_cvE [.int 0] [] rfl rfl (by omega) rfl (Nat.le_of_ble_eq_true rfl) (Nat.le_of_ble_eq_true rfl) (Or.inr (Or.inr rfl)) (ev_r_ex0) ?_
                          refine tv_b (pc' := 229) (ls' := [some (.ref 57), some (.int (nI o)), some (.int (nI (pa_tk tx T p))), none]) (st' := [.int 1, .int (nI o), .ref 57]) (h' := (n, sl, wKK kk, (rdI I (nI (pa_sk tx T p15)) (nI (pa_ed tx T p15)) 39 m15 1 (nI (pa_sk tx T p15)) (nI (ce + cs13.length + cs14.length + cs15.length)) (pa_wr (pa_wr (pa_wr cd ce cs13) (ce + cs13.length) cs14) (ce + cs13.length + cs14.length) cs15)), L, wQQ q)) 3 rfl ?_
                          refine tv_b (pc' := 230) (ls' := [some (.ref 57), some (.int (nI o)), some (.int (nI (pa_tk tx T p))), none]) (st' := [.int ((nI o) + 1), .ref 57]) (h' := (n, sl, wKK kk, (rdI I (nI (pa_sk tx T p15)) (nI (pa_ed tx T p15)) 39 m15 1 (nI (pa_sk tx T p15)) (nI (ce + cs13.length + cs14.length + cs15.length)) (pa_wr (pa_wr (pa_wr cd ce cs13) (ce + cs13.length) cs14) (ce + cs13.length + cs14.length) cs15)), L, wQQ q)) 1 rfl ?_
                          refine tv_top (show (nI o) + 1 = nI (o + 1) from nI_add o 1) ?_
                          refine tv_cvE [.int (nI (o + 1))] [] rfl rfl (by omega) rfl (Nat.le_of_ble_eq_true rfl) (Nat.le_of_ble_eq_true rfl) (Or.inr (Or.inr rfl)) (ev_r_sumF (by decide)) ?_
                          refine tv_b (pc' := 248) (ls' := [some (.ref 57), some (.int (nI o)), some (.int (nI (pa_tk tx T p))), none]) (st' := [.int 0, .ref 57]) (h' := (n, sl, wKK kk, (rdI I (nI (pa_sk tx T p15)) (nI (pa_ed tx T p15)) 39 m15 1 (nI (pa_sk tx T p15)) (nI (ce + cs13.length + cs14.length + cs15.length)) (pa_wr (pa_wr (pa_wr cd ce cs13) (ce + cs13.length) cs14) (ce + cs13.length + cs14.length) cs15)), L, wQQ q)) 6 rfl ?_
                          refine tv_cvE [.int 0] [] rfl rfl (by omega) rfl (Nat.le_of_ble_eq_true rfl) (Nat.le_of_ble_eq_true rfl) (Or.inr (Or.inr rfl)) (ev_r_expectF0 (by decide)) ?_
                          refine tv_b (pc' := 253) (ls' := [some (.ref 57), some (.int (nI o)), some (.int (nI (pa_tk tx T p))), none]) (st' := [.int (nI (pa_tk tx T p)), .ref 57]) (h' := (n, sl, wKK kk, (rdI I (nI (pa_sk tx T p15)) (nI (pa_ed tx T p15)) 39 m15 1 (nI (pa_sk tx T p15)) (nI (ce + cs13.length + cs14.length + cs15.length)) (pa_wr (pa_wr (pa_wr cd ce cs13) (ce + cs13.length) cs14) (ce + cs13.length + cs14.length) cs15)), L, wQQ q)) 2 rfl ?_
                          refine tv_cvE [.int (nI (pa_tk tx T p))] [] rfl rfl (by omega) rfl (Nat.le_of_ble_eq_true rfl) (Nat.le_of_ble_eq_true rfl) (Or.inr (Or.inr rfl)) (ev_r_emitF (by decide)) ?_
                          refine tv_b (pc' := 268) (ls' := [some (.ref 57), some (.int (nI o)), some (.int (nI (pa_tk tx T p))), none]) (st' := []) (h' := (n, sl, wKK kk, (rdI I (nI (pa_sk tx T p15)) (nI (pa_ed tx T p15)) 39 m15 1 (nI (pa_sk tx T p15)) (nI (ce + cs13.length + cs14.length + cs15.length)) (pa_wr (pa_wr (pa_wr cd ce cs13) (ce + cs13.length) cs14) (ce + cs13.length + cs14.length) cs15)), L, wQQ q)) 1 rfl ?_
                          refine tv_rv rfl ⟨rfl, _, rfl, ?_, hlast⟩
                          unfold pa_part
                          try dsimp only
                          rw [if_neg (by omega), if_neg (by omega), if_neg (by omega), if_neg (by omega), if_pos (by omega)]
                          refine rdO_b (hr13) ?_
                          try dsimp only
                          rw [if_pos hb]
                          rw [if_neg hz]
                          refine rdO_b (hr14) ?_
                          try dsimp only
                          refine rdO_b (hr15) ?_
                          try dsimp only
                          first | exact rdO_F ((pa_ex_f c215)) ⟨by decide, by decide, by omega, by omega⟩ rfl | exact rdO_bl ((pa_ex_f c215)) (rdO_F ((pa_ex_f c215)) ⟨by decide, by decide, by omega, by omega⟩ rfl)
                  · refine tv_b (pc' := 195) (ls' := [some (.ref 57), some (.int (nI o)), some (.int (nI (pa_tk tx T p))), none]) (st' := [.int (nI o), .int 32, .ref 57]) (h' := (n, sl, wKK kk, (rdI I (nI (pa_sk tx T p13)) (nI (pa_ed tx T p13)) (nI (pa_tk tx T p13)) m13 0 (-1) (nI (ce + cs13.length)) (pa_wr cd ce cs13)), L, wQQ q)) 3 rfl ?_
                    refine tv_cvE [.int 32, .int (nI o)] [] rfl rfl (by omega) rfl (Nat.le_of_ble_eq_true rfl) (Nat.le_of_ble_eq_true rfl) (Or.inr (Or.inr rfl)) (ev_r_op1_32 hb (by omega)) ?_
                    refine tv_b (pc' := 268) (ls' := [some (.ref 57), some (.int (nI o)), some (.int (nI (pa_tk tx T p))), none]) (st' := []) (h' := (n, sl, wKK kk, (rdI I (nI (pa_sk tx T p13)) (nI (pa_ed tx T p13)) 39 m13 1 (nI (pa_sk tx T p13)) (nI (ce + cs13.length)) (pa_wr cd ce cs13)), L, wQQ q)) 1 rfl ?_
                    refine tv_rv rfl ⟨rfl, _, rfl, ?_, hlast⟩
                    unfold pa_part
                    try dsimp only
                    rw [if_neg (by omega), if_neg (by omega), if_neg (by omega), if_neg (by omega), if_pos (by omega)]
                    refine rdO_b (hr13) ?_
                    try dsimp only
                    rw [if_neg hb]
                    first | exact rdO_F (rfl) ⟨by decide, by decide, by omega, by omega⟩ rfl | exact rdO_bl (rfl) (rdO_F (rfl) ⟨by decide, by decide, by omega, by omega⟩ rfl)
              · refine tv_b (pc' := 265) (ls' := [some (.ref 57), some (.int (nI o)), some (.int (nI (pa_tk tx T p))), none]) (st' := [.int (nI (pa_sk tx T p)), .int 1, .ref 57]) (h' := (n, sl, wKK kk, (rdI I (nI (pa_sk tx T p)) (nI (pa_ed tx T p)) (nI (pa_tk tx T p)) nm 0 (-1) (nI ce) cd), L, wQQ q)) 4 rfl ?_
                refine tv_cvE [.int 1, .int (nI (pa_sk tx T p))] [] rfl rfl (by omega) rfl (Nat.le_of_ble_eq_true rfl) (Nat.le_of_ble_eq_true rfl) (Or.inr (Or.inr rfl)) (ev_r_fail0) ?_
                refine tv_rv rfl ⟨rfl, _, rfl, ?_, hlast⟩
                unfold pa_part
                try dsimp only
                rw [if_neg (by omega), if_neg (by omega), if_neg (by omega), if_neg (by omega), if_neg (by omega)]
                first | exact rdO_F (rfl) ⟨by decide, by decide, by omega, by omega⟩ rfl | exact rdO_bl (rfl) (rdO_F (rfl) ⟨by decide, by decide, by omega, by omega⟩ rfl)
      · refine tv_b (pc' := (if 17 < (nI (pa_tk tx T p)) then 56 else 44)) (ls' := [some (.ref 57), some (.int (nI o)), some (.int (nI (pa_tk tx T p))), none]) (st' := []) (h' := (n, sl, wKK kk, (rdI I (nI (pa_sk tx T p)) (nI (pa_ed tx T p)) (nI (pa_tk tx T p)) nm 0 (-1) (nI ce) cd), L, wQQ q)) 3 rfl ?_
        refine tv_ifq (nI_ltI (a := 17) (b := (pa_tk tx T p)) (by omega) (by omega)) (fun c41 => ?_) (fun c41 => ?_)
        · refine tv_b (pc' := (if (nI (pa_tk tx T p)) = 18 then 62 else 131)) (ls' := [some (.ref 57), some (.int (nI o)), some (.int (nI (pa_tk tx T p))), none]) (st' := []) (h' := (n, sl, wKK kk, (rdI I (nI (pa_sk tx T p)) (nI (pa_ed tx T p)) (nI (pa_tk tx T p)) nm 0 (-1) (nI ce) cd), L, wQQ q)) 3 rfl ?_
          refine tv_ifq (nI_eq (a := (pa_tk tx T p)) (b := 18) (by omega) (by omega)) (fun c59 => ?_) (fun c59 => ?_)
          · refine tv_b (pc' := 63) (ls' := [some (.ref 57), some (.int (nI o)), some (.int (nI (pa_tk tx T p))), none]) (st' := [.ref 57]) (h' := (n, sl, wKK kk, (rdI I (nI (pa_sk tx T p)) (nI (pa_ed tx T p)) (nI (pa_tk tx T p)) nm 0 (-1) (nI ce) cd), L, wQQ q)) 1 rfl ?_
            refine tv_cv [] [] rfl rfl (by omega) rfl (Nat.le_of_ble_eq_true rfl) (Nat.le_of_ble_eq_true rfl) (Or.inr (Or.inr rfl)) (tv_r_nx hH hW (by omega) (by omega)) ?_
            rintro rv9 h9 ⟨rfl, I9, rfl, ho, hlx⟩
            rcases rdO_c ho with ⟨k19, l19, s19, a19, m19, c19, d19, hr19, hk19, rfl⟩ | ⟨p19, cs19, m19, hr19, hp19, hn19, rfl⟩
            · refine tv_b (pc' := 114) (ls' := [some (.ref 57), some (.int (nI o)), some (.int (nI (pa_tk tx T p))), some (.int m19)]) (st' := [.int 0, .ref 57]) (h' := (n, sl, wKK kk, (rdI I (nI s19) (nI a19) 39 m19 (nI k19) (nI l19) (nI c19) d19), L, wQQ q)) 13 rfl ?_
              refine tv_cvE [.int 0] [] rfl rfl (by omega) rfl (Nat.le_of_ble_eq_true rfl) (Nat.le_of_ble_eq_true rfl) (Or.inr (Or.inr rfl)) (ev_r_expectF0 (rd_k hk19)) ?_
              refine tv_b (pc' := 125) (ls' := [some (.ref 57), some (.int (nI o)), some (.int (nI (pa_tk tx T p))), some (.int m19)]) (st' := [.int ((m19 * 32) + 18), .ref 57]) (h' := (n, sl, wKK kk, (rdI I (nI s19) (nI a19) 39 m19 (nI k19) (nI l19) (nI c19) d19), L, wQQ q)) 6 rfl ?_
              refine tv_cvE [.int ((m19 * 32) + 18)] [] rfl rfl (by omega) rfl (Nat.le_of_ble_eq_true rfl) (Nat.le_of_ble_eq_true rfl) (Or.inr (Or.inr rfl)) (ev_r_emitF (rd_k hk19)) ?_
              refine tv_b (pc' := 268) (ls' := [some (.ref 57), some (.int (nI o)), some (.int (nI (pa_tk tx T p))), some (.int m19)]) (st' := []) (h' := (n, sl, wKK kk, (rdI I (nI s19) (nI a19) 39 m19 (nI k19) (nI l19) (nI c19) d19), L, wQQ q)) 1 rfl ?_
              refine tv_rv rfl ⟨rfl, _, rfl, ?_, hlast⟩
              unfold pa_part
              try dsimp only
              rw [if_neg (by omega), if_neg (by omega), if_pos (by omega)]
              first | exact rdO_bl (hr19) (rdO_F (hr19) hk19 rfl) | exact rdO_F (hr19) hk19 rfl
            · have ht19 := pa_tk_lt (b := tx) (n := T) p19
              have hg19 := pa_edo (tx := tx) (T := T) p19
              obtain ⟨hl19, hv19⟩ := hlx _ _ hr19
              have hj19 := pa_ed_le (b := tx) (n := T) (p := p19) hp19.1
              obtain ⟨hq19, hz19⟩ := pa_nx_r hr19
              have hy19 : cs19.length = 0 := by rw [hz19]; rfl
              refine tv_b (pc' := (if (nI (pa_tk tx T p19)) = 21 then 75 else 94)) (ls' := [some (.ref 57), some (.int (nI o)), some (.int (nI (pa_tk tx T p))), none]) (st' := []) (h' := (n, sl, wKK kk, (rdI I (nI (pa_sk tx T p19)) (nI (pa_ed tx T p19)) (nI (pa_tk tx T p19)) m19 0 (-1) (nI (ce + cs19.length)) (pa_wr cd ce cs19)), L, wQQ q)) 4 rfl ?_
              refine tv_ifq (nI_eq (a := (pa_tk tx T p19)) (b := 21) (by omega) (by omega)) (fun c72 => ?_) (fun c72 => ?_)
              · have hsub := hn19 c72
                subst hsub
                refine tv_b (pc' := 79) (ls' := [some (.ref 57), some (.int (nI o)), some (.int (nI (pa_tk tx T p))), none]) (st' := [.int (nI (pa_nm tx T p19))]) (h' := (n, sl, wKK kk, (rdI I (nI (pa_sk tx T p19)) (nI (pa_ed tx T p19)) (nI (pa_tk tx T p19)) (nI (pa_nm tx T p19)) 0 (-1) (nI (ce + cs19.length)) (pa_wr cd ce cs19)), L, wQQ q)) 2 rfl ?_
                have hnl := pa_nm_lt hl19 c72
                refine tv_csE [.int (nI (pa_nm tx T p19))] [] rfl rfl (by omega) rfl (Nat.le_of_ble_eq_true rfl) (Nat.le_of_ble_eq_true rfl) (ev_r_isCol (by omega)) ?_
                refine tv_b (pc' := (if (if pa_nm tx T p19 < 16 then 1 else 0) = 0 then 85 else 94)) (ls' := [some (.ref 57), some (.int (nI o)), some (.int (nI (pa_tk tx T p))), none]) (st' := []) (h' := (n, sl, wKK kk, (rdI I (nI (pa_sk tx T p19)) (nI (pa_ed tx T p19)) (nI (pa_tk tx T p19)) (nI (pa_nm tx T p19)) 0 (-1) (nI (ce + cs19.length)) (pa_wr cd ce cs19)), L, wQQ q)) 1 rfl ?_
                refine tv_b0 (fun c82 => ?_) (fun c82 => ?_)
                · refine tv_b (pc' := 91) (ls' := [some (.ref 57), some (.int (nI o)), some (.int (nI (pa_tk tx T p))), none]) (st' := [.int (nI (pa_sk tx T p19)), .int 4, .ref 57]) (h' := (n, sl, wKK kk, (rdI I (nI (pa_sk tx T p19)) (nI (pa_ed tx T p19)) (nI (pa_tk tx T p19)) (nI (pa_nm tx T p19)) 0 (-1) (nI (ce + cs19.length)) (pa_wr cd ce cs19)), L, wQQ q)) 4 rfl ?_
                  refine tv_cvE [.int 4, .int (nI (pa_sk tx T p19))] [] rfl rfl (by omega) rfl (Nat.le_of_ble_eq_true rfl) (Nat.le_of_ble_eq_true rfl) (Or.inr (Or.inr rfl)) (ev_r_fail0) ?_
                  refine tv_b (pc' := 114) (ls' := [some (.ref 57), some (.int (nI o)), some (.int (nI (pa_tk tx T p))), some (.int (nI (pa_nm tx T p19)))]) (st' := [.int 0, .ref 57]) (h' := (n, sl, wKK kk, (rdI I (nI (pa_sk tx T p19)) (nI (pa_ed tx T p19)) 39 (nI (pa_nm tx T p19)) 4 (nI (pa_sk tx T p19)) (nI (ce + cs19.length)) (pa_wr cd ce cs19)), L, wQQ q)) 9 rfl ?_
                  refine tv_cvE [.int 0] [] rfl rfl (by omega) rfl (Nat.le_of_ble_eq_true rfl) (Nat.le_of_ble_eq_true rfl) (Or.inr (Or.inr rfl)) (ev_r_expectF0 (by decide)) ?_
                  refine tv_b (pc' := 125) (ls' := [some (.ref 57), some (.int (nI o)), some (.int (nI (pa_tk tx T p))), some (.int (nI (pa_nm tx T p19)))]) (st' := [.int (((nI (pa_nm tx T p19)) * 32) + 18), .ref 57]) (h' := (n, sl, wKK kk, (rdI I (nI (pa_sk tx T p19)) (nI (pa_ed tx T p19)) 39 (nI (pa_nm tx T p19)) 4 (nI (pa_sk tx T p19)) (nI (ce + cs19.length)) (pa_wr cd ce cs19)), L, wQQ q)) 6 rfl ?_
                  refine tv_cvE [.int (((nI (pa_nm tx T p19)) * 32) + 18)] [] rfl rfl (by omega) rfl (Nat.le_of_ble_eq_true rfl) (Nat.le_of_ble_eq_true rfl) (Or.inr (Or.inr rfl)) (ev_r_emitF (by decide)) ?_
                  refine tv_b (pc' := 268) (ls' := [some (.ref 57), some (.int (nI o)), some (.int (nI (pa_tk tx T p))), some (.int (nI (pa_nm tx T p19)))]) (st' := []) (h' := (n, sl, wKK kk, (rdI I (nI (pa_sk tx T p19)) (nI (pa_ed tx T p19)) 39 (nI (pa_nm tx T p19)) 4 (nI (pa_sk tx T p19)) (nI (ce + cs19.length)) (pa_wr cd ce cs19)), L, wQQ q)) 1 rfl ?_
                  refine tv_rv rfl ⟨rfl, _, rfl, ?_, hlast⟩
                  unfold pa_part
                  try dsimp only
                  rw [if_neg (by omega), if_neg (by omega), if_pos (by omega)]
                  refine rdO_b (hr19) ?_
                  try dsimp only
                  rw [if_pos c72]
                  rw [if_pos (by omega)]
                  first | exact rdO_F (rfl) ⟨by decide, by decide, by omega, by omega⟩ rfl | exact rdO_bl (rfl) (rdO_F (rfl) ⟨by decide, by decide, by omega, by omega⟩ rfl)
                · refine tv_b (pc' := (if (nI (pa_tk tx T p19)) = 21 then 109 else 113)) (ls' := [some (.ref 57), some (.int (nI o)), some (.int (nI (pa_tk tx T p))), some (.int (nI (pa_nm tx T p19)))]) (st' := [.ref 57]) (h' := (n, sl, wKK kk, (rdI I (nI (pa_sk tx T p19)) (nI (pa_ed tx T p19)) (nI (pa_tk tx T p19)) (nI (pa_nm tx T p19)) 0 (-1) (nI (ce + cs19.length)) (pa_wr cd ce cs19)), L, wQQ q)) 8 rfl ?_
                  refine tv_t ((nI_eq (a := (pa_tk tx T p19)) (b := 21) (by omega) (by omega)).mpr (by omega)) ?_
                  refine tv_b (pc' := 114) (ls' := [some (.ref 57), some (.int (nI o)), some (.int (nI (pa_tk tx T p))), some (.int (nI (pa_nm tx T p19)))]) (st' := [.int 1, .ref 57]) (h' := (n, sl, wKK kk, (rdI I (nI (pa_sk tx T p19)) (nI (pa_ed tx T p19)) (nI (pa_tk tx T p19)) (nI (pa_nm tx T p19)) 0 (-1) (nI (ce + cs19.length)) (pa_wr cd ce cs19)), L, wQQ q)) 2 rfl ?_
                  refine tv_cv [.int 1] [] rfl rfl (by omega) rfl (Nat.le_of_ble_eq_true rfl) (Nat.le_of_ble_eq_true rfl) (Or.inr (Or.inr rfl)) (tv_r_ex1 hH hW (by omega) (by omega)) ?_
                  rintro rv9 h9 ⟨rfl, I9, rfl, ho, hlx⟩
                  rcases rdO_c ho with ⟨k20, l20, s20, a20, m20, c20, d20, hr20, hk20, rfl⟩ | ⟨p20, cs20, m20, hr20, hp20, hn20, rfl⟩
                  · refine tv_b (pc' := 121) (ls' := [some (.ref 57), some (.int (nI o)), some (.int (nI (pa_tk tx T p))), some (.int (nI (pa_nm tx T p19)))]) (st' := [.int 32, .int (nI (pa_nm tx T p19)), .ref 57]) (h' := (n, sl, wKK kk, (rdI I (nI s20) (nI a20) 39 m20 (nI k20) (nI l20) (nI c20) d20), L, wQQ q)) 3 rfl ?_
                    refine tv_b (pc' := 122) (ls' := [some (.ref 57), some (.int (nI o)), some (.int (nI (pa_tk tx T p))), some (.int (nI (pa_nm tx T p19)))]) (st' := [.int ((nI (pa_nm tx T p19)) * 32), .ref 57]) (h' := (n, sl, wKK kk, (rdI I (nI s20) (nI a20) 39 m20 (nI k20) (nI l20) (nI c20) d20), L, wQQ q)) 1 rfl ?_
                    refine tv_top (show (nI (pa_nm tx T p19)) * 32 = nI ((pa_nm tx T p19) * 32) from nI_mul (pa_nm tx T p19) 32) ?_
                    refine tv_b (pc' := 124) (ls' := [some (.ref 57), some (.int (nI o)), some (.int (nI (pa_tk tx T p))), some (.int (nI (pa_nm tx T p19)))]) (st' := [.int 18, .int (nI ((pa_nm tx T p19) * 32)), .ref 57]) (h' := (n, sl, wKK kk, (rdI I (nI s20) (nI a20) 39 m20 (nI k20) (nI l20) (nI c20) d20), L, wQQ q)) 1 rfl ?_
                    refine tv_b (pc' := 125) (ls' := [some (.ref 57), some (.int (nI o)), some (.int (nI (pa_tk tx T p))), some (.int (nI (pa_nm tx T p19)))]) (st' := [.int ((nI ((pa_nm tx T p19) * 32)) + 18), .ref 57]) (h' := (n, sl, wKK kk, (rdI I (nI s20) (nI a20) 39 m20 (nI k20) (nI l20) (nI c20) d20), L, wQQ q)) 1 rfl ?_
                    refine tv_top (show (nI ((pa_nm tx T p19) * 32)) + 18 = nI (((pa_nm tx T p19) * 32) + 18) from nI_add ((pa_nm tx T p19) * 32) 18) ?_
                    refine tv_cvE [.int (nI (((pa_nm tx T p19) * 32) + 18))] [] rfl rfl (by omega) rfl (Nat.le_of_ble_eq_true rfl) (Nat.le_of_ble_eq_true rfl) (Or.inr (Or.inr rfl)) (ev_r_emitF (rd_k hk20)) ?_
                    refine tv_b (pc' := 268) (ls' := [some (.ref 57), some (.int (nI o)), some (.int (nI (pa_tk tx T p))), some (.int (nI (pa_nm tx T p19)))]) (st' := []) (h' := (n, sl, wKK kk, (rdI I (nI s20) (nI a20) 39 m20 (nI k20) (nI l20) (nI c20) d20), L, wQQ q)) 1 rfl ?_
                    refine tv_rv rfl ⟨rfl, _, rfl, ?_, hlast⟩
                    unfold pa_part
                    try dsimp only
                    rw [if_neg (by omega), if_neg (by omega), if_pos (by omega)]
                    refine rdO_b (hr19) ?_
                    try dsimp only
                    rw [if_pos c72]
                    rw [if_neg (by omega)]
                    first | exact rdO_bl (hr20) (rdO_F (hr20) hk20 rfl) | exact rdO_F (hr20) hk20 rfl
                  · have ht20 := pa_tk_lt (b := tx) (n := T) p20
                    have hg20 := pa_edo (tx := tx) (T := T) p20
                    obtain ⟨hl20, hv20⟩ := hlx _ _ hr20
                    have hj20 := pa_ed_le (b := tx) (n := T) (p := p20) hp20.1
                    obtain ⟨hq20, hz20⟩ := pa_nx_r hr20
                    have hy20 : cs20.length = 0 := by rw [hz20]; rfl
                    refine tv_b (pc' := 121) (ls' := [some (.ref 57), some (.int (nI o)), some (.int (nI (pa_tk tx T p))), some (.int (nI (pa_nm tx T p19)))]) (st' := [.int 32, .int (nI (pa_nm tx T p19)), .ref 57]) (h' := (n, sl, wKK kk, (rdI I (nI (pa_sk tx T p20)) (nI (pa_ed tx T p20)) (nI (pa_tk tx T p20)) m20 0 (-1) (nI (ce + cs19.length + cs20.length)) (pa_wr (pa_wr cd ce cs19) (ce + cs19.length) cs20)), L, wQQ q)) 3 rfl ?_
                    refine tv_b (pc' := 122) (ls' := [some (.ref 57), some (.int (nI o)), some (.int (nI (pa_tk tx T p))), some (.int (nI (pa_nm tx T p19)))]) (st' := [.int ((nI (pa_nm tx T p19)) * 32), .ref 57]) (h' := (n, sl, wKK kk, (rdI I (nI (pa_sk tx T p20)) (nI (pa_ed tx T p20)) (nI (pa_tk tx T p20)) m20 0 (-1) (nI (ce + cs19.length + cs20.length)) (pa_wr (pa_wr cd ce cs19) (ce + cs19.length) cs20)), L, wQQ q)) 1 rfl ?_
                    refine tv_top (show (nI (pa_nm tx T p19)) * 32 = nI ((pa_nm tx T p19) * 32) from nI_mul (pa_nm tx T p19) 32) ?_
                    refine tv_b (pc' := 124) (ls' := [some (.ref 57), some (.int (nI o)), some (.int (nI (pa_tk tx T p))), some (.int (nI (pa_nm tx T p19)))]) (st' := [.int 18, .int (nI ((pa_nm tx T p19) * 32)), .ref 57]) (h' := (n, sl, wKK kk, (rdI I (nI (pa_sk tx T p20)) (nI (pa_ed tx T p20)) (nI (pa_tk tx T p20)) m20 0 (-1) (nI (ce + cs19.length + cs20.length)) (pa_wr (pa_wr cd ce cs19) (ce + cs19.length) cs20)), L, wQQ q)) 1 rfl ?_
                    refine tv_b (pc' := 125) (ls' := [some (.ref 57), some (.int (nI o)), some (.int (nI (pa_tk tx T p))), some (.int (nI (pa_nm tx T p19)))]) (st' := [.int ((nI ((pa_nm tx T p19) * 32)) + 18), .ref 57]) (h' := (n, sl, wKK kk, (rdI I (nI (pa_sk tx T p20)) (nI (pa_ed tx T p20)) (nI (pa_tk tx T p20)) m20 0 (-1) (nI (ce + cs19.length + cs20.length)) (pa_wr (pa_wr cd ce cs19) (ce + cs19.length) cs20)), L, wQQ q)) 1 rfl ?_
                    refine tv_top (show (nI ((pa_nm tx T p19) * 32)) + 18 = nI (((pa_nm tx T p19) * 32) + 18) from nI_add ((pa_nm tx T p19) * 32) 18) ?_
                    refine tv_cvE [.int (nI (((pa_nm tx T p19) * 32) + 18))] [] rfl rfl (by omega) rfl (Nat.le_of_ble_eq_true rfl) (Nat.le_of_ble_eq_true rfl) (Or.inr (Or.inr rfl)) (ev_r_emit (by omega)) ?_
                    refine tv_b (pc' := 268) (ls' := [some (.ref 57), some (.int (nI o)), some (.int (nI (pa_tk tx T p))), some (.int (nI (pa_nm tx T p19)))]) (st' := []) (h' := (n, sl, wKK kk, (rdI I (nI (pa_sk tx T p20)) (nI (pa_ed tx T p20)) (nI (pa_tk tx T p20)) m20 0 (-1) (nI (ce + cs19.length + cs20.length + 1)) (upd (pa_wr (pa_wr cd ce cs19) (ce + cs19.length) cs20) (ce + cs19.length + cs20.length) (nI (((pa_nm tx T p19) * 32) + 18)))), L, wQQ q)) 1 rfl ?_
                    refine tv_rv rfl ⟨rfl, _, rfl, ?_, hlast⟩
                    unfold pa_part
                    try dsimp only
                    rw [if_neg (by omega), if_neg (by omega), if_pos (by omega)]
                    refine rdO_b (hr19) ?_
                    try dsimp only
                    rw [if_pos c72]
                    rw [if_neg (by omega)]
                    refine rdO_b (hr20) ?_
                    try dsimp only
                    exact rdO_em ⟨by omega, by omega⟩ hn20 rfl
              · refine tv_b (pc' := (if (nI (pa_tk tx T p19)) = 21 then 109 else 113)) (ls' := [some (.ref 57), some (.int (nI o)), some (.int (nI (pa_tk tx T p))), some (.int m19)]) (st' := [.ref 57]) (h' := (n, sl, wKK kk, (rdI I (nI (pa_sk tx T p19)) (nI (pa_ed tx T p19)) (nI (pa_tk tx T p19)) m19 0 (-1) (nI (ce + cs19.length)) (pa_wr cd ce cs19)), L, wQQ q)) 8 rfl ?_
                refine tv_f (fun hq => absurd ((nI_eq (a := (pa_tk tx T p19)) (b := 21) (by omega) (by omega)).mp hq) (by omega)) ?_
                refine tv_b (pc' := 114) (ls' := [some (.ref 57), some (.int (nI o)), some (.int (nI (pa_tk tx T p))), some (.int m19)]) (st' := [.int 0, .ref 57]) (h' := (n, sl, wKK kk, (rdI I (nI (pa_sk tx T p19)) (nI (pa_ed tx T p19)) (nI (pa_tk tx T p19)) m19 0 (-1) (nI (ce + cs19.length)) (pa_wr cd ce cs19)), L, wQQ q)) 1 rfl ?_
                refine tv_cvE [.int 0] [] rfl rfl (by omega) rfl (Nat.le_of_ble_eq_true rfl) (Nat.le_of_ble_eq_true rfl) (Or.inr (Or.inr rfl)) (ev_r_ex0) ?_
                refine tv_b (pc' := 125) (ls' := [some (.ref 57), some (.int (nI o)), some (.int (nI (pa_tk tx T p))), some (.int m19)]) (st' := [.int ((m19 * 32) + 18), .ref 57]) (h' := (n, sl, wKK kk, (rdI I (nI (pa_sk tx T p19)) (nI (pa_ed tx T p19)) 39 m19 1 (nI (pa_sk tx T p19)) (nI (ce + cs19.length)) (pa_wr cd ce cs19)), L, wQQ q)) 6 rfl ?_
                refine tv_cvE [.int ((m19 * 32) + 18)] [] rfl rfl (by omega) rfl (Nat.le_of_ble_eq_true rfl) (Nat.le_of_ble_eq_true rfl) (Or.inr (Or.inr rfl)) (ev_r_emitF (by decide)) ?_
                refine tv_b (pc' := 268) (ls' := [some (.ref 57), some (.int (nI o)), some (.int (nI (pa_tk tx T p))), some (.int m19)]) (st' := []) (h' := (n, sl, wKK kk, (rdI I (nI (pa_sk tx T p19)) (nI (pa_ed tx T p19)) 39 m19 1 (nI (pa_sk tx T p19)) (nI (ce + cs19.length)) (pa_wr cd ce cs19)), L, wQQ q)) 1 rfl ?_
                refine tv_rv rfl ⟨rfl, _, rfl, ?_, hlast⟩
                unfold pa_part
                try dsimp only
                rw [if_neg (by omega), if_neg (by omega), if_pos (by omega)]
                refine rdO_b (hr19) ?_
                try dsimp only
                rw [if_neg c72]
                first | exact rdO_F (rfl) ⟨by decide, by decide, by omega, by omega⟩ rfl | exact rdO_bl (rfl) (rdO_F (rfl) ⟨by decide, by decide, by omega, by omega⟩ rfl)
          · refine tv_b (pc' := (if (nI (pa_tk tx T p)) = 32 then 137 else 175)) (ls' := [some (.ref 57), some (.int (nI o)), some (.int (nI (pa_tk tx T p))), none]) (st' := []) (h' := (n, sl, wKK kk, (rdI I (nI (pa_sk tx T p)) (nI (pa_ed tx T p)) (nI (pa_tk tx T p)) nm 0 (-1) (nI ce) cd), L, wQQ q)) 3 rfl ?_
            refine tv_ifq (nI_eq (a := (pa_tk tx T p)) (b := 32) (by omega) (by omega)) (fun c134 => ?_) (fun c134 => ?_)
            · refine tv_b (pc' := 141) (ls' := [some (.ref 57), some (.int (nI o)), some (.int (nI (pa_tk tx T p))), none]) (st' := [.int (nI o), .int 32, .ref 57]) (h' := (n, sl, wKK kk, (rdI I (nI (pa_sk tx T p)) (nI (pa_ed tx T p)) (nI (pa_tk tx T p)) nm 0 (-1) (nI ce) cd), L, wQQ q)) 3 rfl ?_
              refine tv_cv [.int 32, .int (nI o)] [] rfl rfl (by omega) rfl (Nat.le_of_ble_eq_true rfl) (Nat.le_of_ble_eq_true rfl) (Or.inr (Or.inr rfl)) (tv_r_op_32 hH hW (by omega) (by omega) c134 (by omega)) ?_
              rintro rv9 h9 ⟨I9, rfl, ho, hlx, hv⟩
              rcases rdO_c ho with ⟨k21, l21, s21, a21, m21, c21, d21, hr21, hk21, rfl⟩ | ⟨p21, cs21, m21, hr21, hp21, hn21, rfl⟩
              · obtain rfl : rv9 = some (.int 0) := by rcases hv with ⟨_, h⟩ | ⟨⟨w, h⟩, _⟩; exact h; rw [hr21] at h; cases h
                refine tv_b (pc' := 268) (ls' := [some (.ref 57), some (.int (nI o)), some (.int (nI (pa_tk tx T p))), none]) (st' := []) (h' := (n, sl, wKK kk, (rdI I (nI s21) (nI a21) 39 m21 (nI k21) (nI l21) (nI c21) d21), L, wQQ q)) 1 rfl ?_
                refine tv_rv rfl ⟨rfl, _, rfl, ?_, hlast⟩
                unfold pa_part
                try dsimp only
                rw [if_neg (by omega), if_neg (by omega), if_neg (by omega), if_pos (by omega)]
                rw [if_neg hz]
                first | exact rdO_bl (hr21) (rdO_F (hr21) hk21 rfl) | exact rdO_F (hr21) hk21 rfl
              · obtain rfl : rv9 = some (.int 1) := by rcases hv with ⟨⟨w, h⟩, _⟩ | ⟨_, h⟩; rw [hr21] at h; cases h; exact h
                have ht21 := pa_tk_lt (b := tx) (n := T) p21
                have hg21 := pa_edo (tx := tx) (T := T) p21
                obtain ⟨hl21, hv21⟩ := hlx _ _ hr21
                have hj21 := pa_ed_le (b := tx) (n := T) (p := p21) hp21.1
                obtain ⟨hq21, hz21⟩ := pa_nx_r hr21
                have hy21 : cs21.length = 0 := by rw [hz21]; rfl
                refine tv_b (pc' := 150) (ls' := [some (.ref 57), some (.int (nI o)), some (.int (nI (pa_tk tx T p))), none]) (st' := [.int 1, .int (nI o), .ref 57]) (h' := (n, sl, wKK kk, (rdI I (nI (pa_sk tx T p21)) (nI (pa_ed tx T p21)) (nI (pa_tk tx T p21)) m21 0 (-1) (nI (ce + cs21.length)) (pa_wr cd ce cs21)), L, wQQ q)) 4 rfl ?_
                refine tv_b (pc' := 151) (ls' := [some (.ref 57), some (.int (nI o)), some (.int (nI (pa_tk tx T p))), none]) (st' := [.int ((nI o) + 1), .ref 57]) (h' := (n, sl, wKK kk, (rdI I (nI (pa_sk tx T p21)) (nI (pa_ed tx T p21)) (nI (pa_tk tx T p21)) m21 0 (-1) (nI (ce + cs21.length)) (pa_wr cd ce cs21)), L, wQQ q)) 1 rfl ?_
                refine tv_top (show (nI o) + 1 = nI (o + 1) from nI_add o 1) ?_
                refine tv_cv [.int (nI (o + 1))] [] rfl rfl (by omega) rfl (Nat.le_of_ble_eq_true rfl) (Nat.le_of_ble_eq_true rfl) (Or.inr (Or.inr rfl)) ((hI hz0) _ p21 _ _ _ (by omega) (by omega) (by omega) hn21 hl21) ?_
                rintro rv9 h9 ⟨rfl, I9, rfl, ho, hlx⟩
                rcases rdO_c ho with ⟨k22, l22, s22, a22, m22, c22, d22, hr22, hk22, rfl⟩ | ⟨p22, cs22, m22, hr22, hp22, hn22, rfl⟩
                · refine tv_b (pc' := 169) (ls' := [some (.ref 57), some (.int (nI o)), some (.int (nI (pa_tk tx T p))), none]) (st' := [.int 0, .ref 57]) (h' := (n, sl, wKK kk, (rdI I (nI s22) (nI a22) 39 m22 (nI k22) (nI l22) (nI c22) d22), L, wQQ q)) 6 rfl ?_
                  refine tv_cvE [.int 0] [] rfl rfl (by omega) rfl (Nat.le_of_ble_eq_true rfl) (Nat.le_of_ble_eq_true rfl) (Or.inr (Or.inr rfl)) (ev_r_expectF0 (rd_k hk22)) ?_
                  refine tv_b (pc' := 268) (ls' := [some (.ref 57), some (.int (nI o)), some (.int (nI (pa_tk tx T p))), none]) (st' := []) (h' := (n, sl, wKK kk, (rdI I (nI s22) (nI a22) 39 m22 (nI k22) (nI l22) (nI c22) d22), L, wQQ q)) 1 rfl ?_
                  refine tv_rv rfl ⟨rfl, _, rfl, ?_, hlast⟩
                  unfold pa_part
                  try dsimp only
                  rw [if_neg (by omega), if_neg (by omega), if_neg (by omega), if_pos (by omega)]
                  rw [if_neg hz]
                  refine rdO_b (hr21) ?_
                  try dsimp only
                  first | exact rdO_bl (hr22) (rdO_F (hr22) hk22 rfl) | exact rdO_F (hr22) hk22 rfl
                · have ht22 := pa_tk_lt (b := tx) (n := T) p22
                  have hg22 := pa_edo (tx := tx) (T := T) p22
                  obtain ⟨hl22, hv22⟩ := hlx _ _ hr22
                  have hj22 := pa_ed_le (b := tx) (n := T) (p := p22) hp22.1
                  refine tv_b (pc' := (if (nI (pa_tk tx T p22)) = 33 then 164 else 168)) (ls' := [some (.ref 57), some (.int (nI o)), some (.int (nI (pa_tk tx T p))), none]) (st' := [.ref 57]) (h' := (n, sl, wKK kk, (rdI I (nI (pa_sk tx T p22)) (nI (pa_ed tx T p22)) (nI (pa_tk tx T p22)) m22 0 (-1) (nI (ce + cs21.length + cs22.length)) (pa_wr (pa_wr cd ce cs21) (ce + cs21.length) cs22)), L, wQQ q)) 5 rfl ?_
                  refine tv_ifq (nI_eq (a := (pa_tk tx T p22)) (b := 33) (by omega) (by omega)) (fun c161 => ?_) (fun c161 => ?_)
                  · refine tv_b (pc' := 169) (ls' := [some (.ref 57), some (.int (nI o)), some (.int (nI (pa_tk tx T p))), none]) (st' := [.int 1, .ref 57]) (h' := (n, sl, wKK kk, (rdI I (nI (pa_sk tx T p22)) (nI (pa_ed tx T p22)) (nI (pa_tk tx T p22)) m22 0 (-1) (nI (ce + cs21.length + cs22.length)) (pa_wr (pa_wr cd ce cs21) (ce + cs21.length) cs22)), L, wQQ q)) 2 rfl ?_
                    refine tv_cv [.int 1] [] rfl rfl (by omega) rfl (Nat.le_of_ble_eq_true rfl) (Nat.le_of_ble_eq_true rfl) (Or.inr (Or.inr rfl)) (tv_r_ex1 hH hW (by omega) (by omega)) ?_
                    rintro rv9 h9 ⟨rfl, I9, rfl, ho, hlx⟩
                    rcases rdO_c ho with ⟨k23, l23, s23, a23, m23, c23, d23, hr23, hk23, rfl⟩ | ⟨p23, cs23, m23, hr23, hp23, hn23, rfl⟩
                    · refine tv_b (pc' := 268) (ls' := [some (.ref 57), some (.int (nI o)), some (.int (nI (pa_tk tx T p))), none]) (st' := []) (h' := (n, sl, wKK kk, (rdI I (nI s23) (nI a23) 39 m23 (nI k23) (nI l23) (nI c23) d23), L, wQQ q)) 1 rfl ?_
                      refine tv_rv rfl ⟨rfl, _, rfl, ?_, hlast⟩
                      unfold pa_part
                      try dsimp only
                      rw [if_neg (by omega), if_neg (by omega), if_neg (by omega), if_pos (by omega)]
                      rw [if_neg hz]
                      refine rdO_b (hr21) ?_
                      try dsimp only
                      refine rdO_b (hr22) ?_
                      try dsimp only
                      first | exact rdO_bl ((pa_ex_t c161).trans hr23) (rdO_F ((pa_ex_t c161).trans hr23) hk23 rfl) | exact rdO_F ((pa_ex_t c161).trans hr23) hk23 rfl
                    · have ht23 := pa_tk_lt (b := tx) (n := T) p23
                      have hg23 := pa_edo (tx := tx) (T := T) p23
                      obtain ⟨hl23, hv23⟩ := hlx _ _ hr23
                      have hj23 := pa_ed_le (b := tx) (n := T) (p := p23) hp23.1
                      obtain ⟨hq23, hz23⟩ := pa_nx_r hr23
                      have hy23 : cs23.length = 0 := by rw [hz23]; rfl
                      refine tv_b (pc' := 268) (ls' := [some (.ref 57), some (.int (nI o)), some (.int (nI (pa_tk tx T p))), none]) (st' := []) (h' := (n, sl, wKK kk, (rdI I (nI (pa_sk tx T p23)) (nI (pa_ed tx T p23)) (nI (pa_tk tx T p23)) m23 0 (-1) (nI (ce + cs21.length + cs22.length + cs23.length)) (pa_wr (pa_wr (pa_wr cd ce cs21) (ce + cs21.length) cs22) (ce + cs21.length + cs22.length) cs23)), L, wQQ q)) 1 rfl ?_
                      refine tv_rv rfl ⟨rfl, _, rfl, ?_, hlast⟩
                      unfold pa_part
                      try dsimp only
                      rw [if_neg (by omega), if_neg (by omega), if_neg (by omega), if_pos (by omega)]
                      rw [if_neg hz]
                      refine rdO_b (hr21) ?_
                      try dsimp only
                      refine rdO_b (hr22) ?_
                      try dsimp only
                      exact rdO_N ((pa_ex_t c161).trans hr23) hp23 hn23 rfl
                  · refine tv_b (pc' := 169) (ls' := [some (.ref 57), some (.int (nI o)), some (.int (nI (pa_tk tx T p))), none]) (st' := [.int 0, .ref 57]) (h' := (n, sl, wKK kk, (rdI I (nI (pa_sk tx T p22)) (nI (pa_ed tx T p22)) (nI (pa_tk tx T p22)) m22 0 (-1) (nI (ce + cs21.length + cs22.length)) (pa_wr (pa_wr cd ce cs21) (ce + cs21.length) cs22)), L, wQQ q)) 1 rfl ?_
                    refine tv_cvE [.int 0] [] rfl rfl (by omega) rfl (Nat.le_of_ble_eq_true rfl) (Nat.le_of_ble_eq_true rfl) (Or.inr (Or.inr rfl)) (ev_r_ex0) ?_
                    refine tv_b (pc' := 268) (ls' := [some (.ref 57), some (.int (nI o)), some (.int (nI (pa_tk tx T p))), none]) (st' := []) (h' := (n, sl, wKK kk, (rdI I (nI (pa_sk tx T p22)) (nI (pa_ed tx T p22)) 39 m22 1 (nI (pa_sk tx T p22)) (nI (ce + cs21.length + cs22.length)) (pa_wr (pa_wr cd ce cs21) (ce + cs21.length) cs22)), L, wQQ q)) 1 rfl ?_
                    refine tv_rv rfl ⟨rfl, _, rfl, ?_, hlast⟩
                    unfold pa_part
                    try dsimp only
                    rw [if_neg (by omega), if_neg (by omega), if_neg (by omega), if_pos (by omega)]
                    rw [if_neg hz]
                    refine rdO_b (hr21) ?_
                    try dsimp only
                    refine rdO_b (hr22) ?_
                    try dsimp only
                    first | exact rdO_F ((pa_ex_f c161)) ⟨by decide, by decide, by omega, by omega⟩ rfl | exact rdO_bl ((pa_ex_f c161)) (rdO_F ((pa_ex_f c161)) ⟨by decide, by decide, by omega, by omega⟩ rfl)
            · refine tv_b (pc' := (if (nI (pa_tk tx T p)) = 19 then 187 else 181)) (ls' := [some (.ref 57), some (.int (nI o)), some (.int (nI (pa_tk tx T p))), none]) (st' := []) (h' := (n, sl, wKK kk, (rdI I (nI (pa_sk tx T p)) (nI (pa_ed tx T p)) (nI (pa_tk tx T p)) nm 0 (-1) (nI ce) cd), L, wQQ q)) 3 rfl ?_
              refine tv_ifq (nI_eq (a := (pa_tk tx T p)) (b := 19) (by omega) (by omega)) (fun c178 => ?_) (fun c178 => ?_)
              · refine tv_b (pc' := 188) (ls' := [some (.ref 57), some (.int (nI o)), some (.int (nI (pa_tk tx T p))), none]) (st' := [.ref 57]) (h' := (n, sl, wKK kk, (rdI I (nI (pa_sk tx T p)) (nI (pa_ed tx T p)) (nI (pa_tk tx T p)) nm 0 (-1) (nI ce) cd), L, wQQ q)) 1 rfl ?_
                refine tv_cv [] [] rfl rfl (by omega) rfl (Nat.le_of_ble_eq_true rfl) (Nat.le_of_ble_eq_true rfl) (Or.inr (Or.inr rfl)) (tv_r_nx hH hW (by omega) (by omega)) ?_
                rintro rv9 h9 ⟨rfl, I9, rfl, ho, hlx⟩
                rcases rdO_c ho with ⟨k24, l24, s24, a24, m24, c24, d24, hr24, hk24, rfl⟩ | ⟨p24, cs24, m24, hr24, hp24, hn24, rfl⟩
                · refine tv_b (pc' := 195) (ls' := [some (.ref 57), some (.int (nI o)), some (.int (nI (pa_tk tx T p))), none]) (st' := [.int (nI o), .int 32, .ref 57]) (h' := (n, sl, wKK kk, (rdI I (nI s24) (nI a24) 39 m24 (nI k24) (nI l24) (nI c24) d24), L, wQQ q)) 3 rfl ?_
                  refine tv_cvE [.int 32, .int (nI o)] [] rfl rfl (by omega) rfl (Nat.le_of_ble_eq_true rfl) (Nat.le_of_ble_eq_true rfl) (Or.inr (Or.inr rfl)) (ev_r_opensF (rd_k hk24)) ?_
                  refine tv_b (pc' := 268) (ls' := [some (.ref 57), some (.int (nI o)), some (.int (nI (pa_tk tx T p))), none]) (st' := []) (h' := (n, sl, wKK kk, (rdI I (nI s24) (nI a24) 39 m24 (nI k24) (nI l24) (nI c24) d24), L, wQQ q)) 1 rfl ?_
                  refine tv_rv rfl ⟨rfl, _, rfl, ?_, hlast⟩
                  unfold pa_part
                  try dsimp only
                  rw [if_neg (by omega), if_neg (by omega), if_neg (by omega), if_neg (by omega), if_pos (by omega)]
                  first | exact rdO_bl (hr24) (rdO_F (hr24) hk24 rfl) | exact rdO_F (hr24) hk24 rfl
                · have ht24 := pa_tk_lt (b := tx) (n := T) p24
                  have hg24 := pa_edo (tx := tx) (T := T) p24
                  obtain ⟨hl24, hv24⟩ := hlx _ _ hr24
                  have hj24 := pa_ed_le (b := tx) (n := T) (p := p24) hp24.1
                  obtain ⟨hq24, hz24⟩ := pa_nx_r hr24
                  have hy24 : cs24.length = 0 := by rw [hz24]; rfl
                  by_cases hb : pa_tk tx T p24 = 32
                  · refine tv_b (pc' := 195) (ls' := [some (.ref 57), some (.int (nI o)), some (.int (nI (pa_tk tx T p))), none]) (st' := [.int (nI o), .int 32, .ref 57]) (h' := (n, sl, wKK kk, (rdI I (nI (pa_sk tx T p24)) (nI (pa_ed tx T p24)) (nI (pa_tk tx T p24)) m24 0 (-1) (nI (ce + cs24.length)) (pa_wr cd ce cs24)), L, wQQ q)) 3 rfl ?_
                    refine tv_cv [.int 32, .int (nI o)] [] rfl rfl (by omega) rfl (Nat.le_of_ble_eq_true rfl) (Nat.le_of_ble_eq_true rfl) (Or.inr (Or.inr rfl)) (tv_r_op_32 hH hW (by omega) (by omega) hb (by omega)) ?_
                    rintro rv9 h9 ⟨I9, rfl, ho, hlx, hv⟩
                    rcases rdO_c ho with ⟨k25, l25, s25, a25, m25, c25, d25, hr25, hk25, rfl⟩ | ⟨p25, cs25, m25, hr25, hp25, hn25, rfl⟩
                    · obtain rfl : rv9 = some (.int 0) := by rcases hv with ⟨_, h⟩ | ⟨⟨w, h⟩, _⟩; exact h; rw [hr25] at h; cases h
                      refine tv_b (pc' := 268) (ls' := [some (.ref 57), some (.int (nI o)), some (.int (nI (pa_tk tx T p))), none]) (st' := []) (h' := (n, sl, wKK kk, (rdI I (nI s25) (nI a25) 39 m25 (nI k25) (nI l25) (nI c25) d25), L, wQQ q)) 1 rfl ?_
                      refine tv_rv rfl ⟨rfl, _, rfl, ?_, hlast⟩
                      unfold pa_part
                      try dsimp only
                      rw [if_neg (by omega), if_neg (by omega), if_neg (by omega), if_neg (by omega), if_pos (by omega)]
                      refine rdO_b (hr24) ?_
                      try dsimp only
                      rw [if_pos hb]
                      rw [if_neg hz]
                      first | exact rdO_bl (hr25) (rdO_F (hr25) hk25 rfl) | exact rdO_F (hr25) hk25 rfl
                    · obtain rfl : rv9 = some (.int 1) := by rcases hv with ⟨⟨w, h⟩, _⟩ | ⟨_, h⟩; rw [hr25] at h; cases h; exact h
                      have ht25 := pa_tk_lt (b := tx) (n := T) p25
                      have hg25 := pa_edo (tx := tx) (T := T) p25
                      obtain ⟨hl25, hv25⟩ := hlx _ _ hr25
                      have hj25 := pa_ed_le (b := tx) (n := T) (p := p25) hp25.1
                      obtain ⟨hq25, hz25⟩ := pa_nx_r hr25
                      have hy25 : cs25.length = 0 := by rw [hz25]; rfl
                      refine tv_b (pc' := 204) (ls' := [some (.ref 57), some (.int (nI o)), some (.int (nI (pa_tk tx T p))), none]) (st' := [.int 1, .int (nI o), .ref 57]) (h' := (n, sl, wKK kk, (rdI I (nI (pa_sk tx T p25)) (nI (pa_ed tx T p25)) (nI (pa_tk tx T p25)) m25 0 (-1) (nI (ce + cs24.length + cs25.length)) (pa_wr (pa_wr cd ce cs24) (ce + cs24.length) cs25)), L, wQQ q)) 4 rfl ?_
                      refine tv_b (pc' := 205) (ls' := [some (.ref 57), some (.int (nI o)), some (.int (nI (pa_tk tx T p))), none]) (st' := [.int ((nI o) + 1), .ref 57]) (h' := (n, sl, wKK kk, (rdI I (nI (pa_sk tx T p25)) (nI (pa_ed tx T p25)) (nI (pa_tk tx T p25)) m25 0 (-1) (nI (ce + cs24.length + cs25.length)) (pa_wr (pa_wr cd ce cs24) (ce + cs24.length) cs25)), L, wQQ q)) 1 rfl ?_
                      refine tv_top (show (nI o) + 1 = nI (o + 1) from nI_add o 1) ?_
                      refine tv_cv [.int (nI (o + 1))] [] rfl rfl (by omega) rfl (Nat.le_of_ble_eq_true rfl) (Nat.le_of_ble_eq_true rfl) (Or.inr (Or.inr rfl)) ((hI hz0) _ p25 _ _ _ (by omega) (by omega) (by omega) hn25 hl25) ?_
                      rintro rv9 h9 ⟨rfl, I9, rfl, ho, hlx⟩
                      rcases rdO_c ho with ⟨k26, l26, s26, a26, m26, c26, d26, hr26, hk26, rfl⟩ | ⟨p26, cs26, m26, hr26, hp26, hn26, rfl⟩
                      · refine tv_b (pc' := 223) (ls' := [some (.ref 57), some (.int (nI o)), some (.int (nI (pa_tk tx T p))), none]) (st' := [.int 0, .ref 57]) (h' := (n, sl, wKK kk, (rdI I (nI s26) (nI a26) 39 m26 (nI k26) (nI l26) (nI c26) d26), L, wQQ q)) 6 rfl ?_
                        refine tv_cvE [.int 0] [] rfl rfl (by omega) rfl (Nat.le_of_ble_eq_true rfl) (Nat.le_of_ble_eq_true rfl) (Or.inr (Or.inr rfl)) (ev_r_expectF0 (rd_k hk26)) ?_
                        refine tv_b (pc' := 229) (ls' := [some (.ref 57), some (.int (nI o)), some (.int (nI (pa_tk tx T p))), none]) (st' := [.int 1, .int (nI o), .ref 57]) (h' := (n, sl, wKK kk, (rdI I (nI s26) (nI a26) 39 m26 (nI k26) (nI l26) (nI c26) d26), L, wQQ q)) 3 rfl ?_
                        refine tv_b (pc' := 230) (ls' := [some (.ref 57), some (.int (nI o)), some (.int (nI (pa_tk tx T p))), none]) (st' := [.int ((nI o) + 1), .ref 57]) (h' := (n, sl, wKK kk, (rdI I (nI s26) (nI a26) 39 m26 (nI k26) (nI l26) (nI c26) d26), L, wQQ q)) 1 rfl ?_
                        refine tv_top (show (nI o) + 1 = nI (o + 1) from nI_add o 1) ?_
                        refine tv_cvE [.int (nI (o + 1))] [] rfl rfl (by omega) rfl (Nat.le_of_ble_eq_true rfl) (Nat.le_of_ble_eq_true rfl) (Or.inr (Or.inr rfl)) (ev_r_sumF (rd_k hk26)) ?_
                        refine tv_b (pc' := 248) (ls' := [some (.ref 57), some (.int (nI o)), some (.int (nI (pa_tk tx T p))), none]) (st' := [.int 0, .ref 57]) (h' := (n, sl, wKK kk, (rdI I (nI s26) (nI a26) 39 m26 (nI k26) (nI l26) (nI c26) d26), L, wQQ q)) 6 rfl ?_
                        refine tv_cvE [.int 0] [] rfl rfl (by omega) rfl (Nat.le_of_ble_eq_true rfl) (Nat.le_of_ble_eq_true rfl) (Or.inr (Or.inr rfl)) (ev_r_expectF0 (rd_k hk26)) ?_
                        refine tv_b (pc' := 253) (ls' := [some (.ref 57), some (.int (nI o)), some (.int (nI (pa_tk tx T p))), none]) (st' := [.int (nI (pa_tk tx T p)), .ref 57]) (h' := (n, sl, wKK kk, (rdI I (nI s26) (nI a26) 39 m26 (nI k26) (nI l26) (nI c26) d26), L, wQQ q)) 2 rfl ?_
                        refine tv_cvE [.int (nI (pa_tk tx T p))] [] rfl rfl (by omega) rfl (Nat.le_of_ble_eq_true rfl) (Nat.le_of_ble_eq_true rfl) (Or.inr (Or.inr rfl)) (ev_r_emitF (rd_k hk26)) ?_
                        refine tv_b (pc' := 268) (ls' := [some (.ref 57), some (.int (nI o)), some (.int (nI (pa_tk tx T p))), none]) (st' := []) (h' := (n, sl, wKK kk, (rdI I (nI s26) (nI a26) 39 m26 (nI k26) (nI l26) (nI c26) d26), L, wQQ q)) 1 rfl ?_
                        refine tv_rv rfl ⟨rfl, _, rfl, ?_, hlast⟩
                        unfold pa_part
                        try dsimp only
                        rw [if_neg (by omega), if_neg (by omega), if_neg (by omega), if_neg (by omega), if_pos (by omega)]
                        refine rdO_b (hr24) ?_
                        try dsimp only
                        rw [if_pos hb]
                        rw [if_neg hz]
                        refine rdO_b (hr25) ?_
                        try dsimp only
                        first | exact rdO_bl (hr26) (rdO_F (hr26) hk26 rfl) | exact rdO_F (hr26) hk26 rfl
                      · have ht26 := pa_tk_lt (b := tx) (n := T) p26
                        have hg26 := pa_edo (tx := tx) (T := T) p26
                        obtain ⟨hl26, hv26⟩ := hlx _ _ hr26
                        have hj26 := pa_ed_le (b := tx) (n := T) (p := p26) hp26.1
                        refine tv_b (pc' := (if (nI (pa_tk tx T p26)) = 36 then 218 else 222)) (ls' := [some (.ref 57), some (.int (nI o)), some (.int (nI (pa_tk tx T p))), none]) (st' := [.ref 57]) (h' := (n, sl, wKK kk, (rdI I (nI (pa_sk tx T p26)) (nI (pa_ed tx T p26)) (nI (pa_tk tx T p26)) m26 0 (-1) (nI (ce + cs24.length + cs25.length + cs26.length)) (pa_wr (pa_wr (pa_wr cd ce cs24) (ce + cs24.length) cs25) (ce + cs24.length + cs25.length) cs26)), L, wQQ q)) 5 rfl ?_
                        refine tv_ifq (nI_eq (a := (pa_tk tx T p26)) (b := 36) (by omega) (by omega)) (fun c215 => ?_) (fun c215 => ?_)
                        · refine tv_b (pc' := 223) (ls' := [some (.ref 57), some (.int (nI o)), some (.int (nI (pa_tk tx T p))), none]) (st' := [.int 1, .ref 57]) (h' := (n, sl, wKK kk, (rdI I (nI (pa_sk tx T p26)) (nI (pa_ed tx T p26)) (nI (pa_tk tx T p26)) m26 0 (-1) (nI (ce + cs24.length + cs25.length + cs26.length)) (pa_wr (pa_wr (pa_wr cd ce cs24) (ce + cs24.length) cs25) (ce + cs24.length + cs25.length) cs26)), L, wQQ q)) 2 rfl ?_
                          refine tv_cv [.int 1] [] rfl rfl (by omega) rfl (Nat.le_of_ble_eq_true rfl) (Nat.le_of_ble_eq_true rfl) (Or.inr (Or.inr rfl)) (tv_r_ex1 hH hW (by omega) (by omega)) ?_
                          rintro rv9 h9 ⟨rfl, I9, rfl, ho, hlx⟩
                          rcases rdO_c ho with ⟨k27, l27, s27, a27, m27, c27, d27, hr27, hk27, rfl⟩ | ⟨p27, cs27, m27, hr27, hp27, hn27, rfl⟩
                          · refine tv_b (pc' := 229) (ls' := [some (.ref 57), some (.int (nI o)), some (.int (nI (pa_tk tx T p))), none]) (st' := [.int 1, .int (nI o), .ref 57]) (h' := (n, sl, wKK kk, (rdI I (nI s27) (nI a27) 39 m27 (nI k27) (nI l27) (nI c27) d27), L, wQQ q)) 3 rfl ?_
                            refine tv_b (pc' := 230) (ls' := [some (.ref 57), some (.int (nI o)), some (.int (nI (pa_tk tx T p))), none]) (st' := [.int ((nI o) + 1), .ref 57]) (h' := (n, sl, wKK kk, (rdI I (nI s27) (nI a27) 39 m27 (nI k27) (nI l27) (nI c27) d27), L, wQQ q)) 1 rfl ?_
                            refine tv_top (show (nI o) + 1 = nI (o + 1) from nI_add o 1) ?_
                            refine tv_cvE [.int (nI (o + 1))] [] rfl rfl (by omega) rfl (Nat.le_of_ble_eq_true rfl) (Nat.le_of_ble_eq_true rfl) (Or.inr (Or.inr rfl)) (ev_r_sumF (rd_k hk27)) ?_
                            refine tv_b (pc' := 248) (ls' := [some (.ref 57), some (.int (nI o)), some (.int (nI (pa_tk tx T p))), none]) (st' := [.int 0, .ref 57]) (h' := (n, sl, wKK kk, (rdI I (nI s27) (nI a27) 39 m27 (nI k27) (nI l27) (nI c27) d27), L, wQQ q)) 6 rfl ?_
                            refine tv_cvE [.int 0] [] rfl rfl (by omega) rfl (Nat.le_of_ble_eq_true rfl) (Nat.le_of_ble_eq_true rfl) (Or.inr (Or.inr rfl)) (ev_r_expectF0 (rd_k hk27)) ?_
                            refine tv_b (pc' := 253) (ls' := [some (.ref 57), some (.int (nI o)), some (.int (nI (pa_tk tx T p))), none]) (st' := [.int (nI (pa_tk tx T p)), .ref 57]) (h' := (n, sl, wKK kk, (rdI I (nI s27) (nI a27) 39 m27 (nI k27) (nI l27) (nI c27) d27), L, wQQ q)) 2 rfl ?_
                            refine tv_cvE [.int (nI (pa_tk tx T p))] [] rfl rfl (by omega) rfl (Nat.le_of_ble_eq_true rfl) (Nat.le_of_ble_eq_true rfl) (Or.inr (Or.inr rfl)) (ev_r_emitF (rd_k hk27)) ?_
                            refine tv_b (pc' := 268) (ls' := [some (.ref 57), some (.int (nI o)), some (.int (nI (pa_tk tx T p))), none]) (st' := []) (h' := (n, sl, wKK kk, (rdI I (nI s27) (nI a27) 39 m27 (nI k27) (nI l27) (nI c27) d27), L, wQQ q)) 1 rfl ?_
                            refine tv_rv rfl ⟨rfl, _, rfl, ?_, hlast⟩
                            unfold pa_part
                            try dsimp only
                            rw [if_neg (by omega), if_neg (by omega), if_neg (by omega), if_neg (by omega), if_pos (by omega)]
                            refine rdO_b (hr24) ?_
                            try dsimp only
                            rw [if_pos hb]
                            rw [if_neg hz]
                            refine rdO_b (hr25) ?_
                            try dsimp only
                            refine rdO_b (hr26) ?_
                            try dsimp only
                            first | exact rdO_bl ((pa_ex_t c215).trans hr27) (rdO_F ((pa_ex_t c215).trans hr27) hk27 rfl) | exact rdO_F ((pa_ex_t c215).trans hr27) hk27 rfl
                          · have ht27 := pa_tk_lt (b := tx) (n := T) p27
                            have hg27 := pa_edo (tx := tx) (T := T) p27
                            obtain ⟨hl27, hv27⟩ := hlx _ _ hr27
                            have hj27 := pa_ed_le (b := tx) (n := T) (p := p27) hp27.1
                            obtain ⟨hq27, hz27⟩ := pa_nx_r hr27
                            have hy27 : cs27.length = 0 := by rw [hz27]; rfl
                            refine tv_b (pc' := 229) (ls' := [some (.ref 57), some (.int (nI o)), some (.int (nI (pa_tk tx T p))), none]) (st' := [.int 1, .int (nI o), .ref 57]) (h' := (n, sl, wKK kk, (rdI I (nI (pa_sk tx T p27)) (nI (pa_ed tx T p27)) (nI (pa_tk tx T p27)) m27 0 (-1) (nI (ce + cs24.length + cs25.length + cs26.length + cs27.length)) (pa_wr (pa_wr (pa_wr (pa_wr cd ce cs24) (ce + cs24.length) cs25) (ce + cs24.length + cs25.length) cs26) (ce + cs24.length + cs25.length + cs26.length) cs27)), L, wQQ q)) 3 rfl ?_
                            refine tv_b (pc' := 230) (ls' := [some (.ref 57), some (.int (nI o)), some (.int (nI (pa_tk tx T p))), none]) (st' := [.int ((nI o) + 1), .ref 57]) (h' := (n, sl, wKK kk, (rdI I (nI (pa_sk tx T p27)) (nI (pa_ed tx T p27)) (nI (pa_tk tx T p27)) m27 0 (-1) (nI (ce + cs24.length + cs25.length + cs26.length + cs27.length)) (pa_wr (pa_wr (pa_wr (pa_wr cd ce cs24) (ce + cs24.length) cs25) (ce + cs24.length + cs25.length) cs26) (ce + cs24.length + cs25.length + cs26.length) cs27)), L, wQQ q)) 1 rfl ?_
                            refine tv_top (show (nI o) + 1 = nI (o + 1) from nI_add o 1) ?_
                            refine tv_cv [.int (nI (o + 1))] [] rfl rfl (by omega) rfl (Nat.le_of_ble_eq_true rfl) (Nat.le_of_ble_eq_true rfl) (Or.inr (Or.inr rfl)) ((hI hz0) _ p27 _ _ _ (by omega) (by omega) (by omega) hn27 hl27) ?_
                            rintro rv9 h9 ⟨rfl, I9, rfl, ho, hlx⟩
                            rcases rdO_c ho with ⟨k28, l28, s28, a28, m28, c28, d28, hr28, hk28, rfl⟩ | ⟨p28, cs28, m28, hr28, hp28, hn28, rfl⟩
                            · refine tv_b (pc' := 248) (ls' := [some (.ref 57), some (.int (nI o)), some (.int (nI (pa_tk tx T p))), none]) (st' := [.int 0, .ref 57]) (h' := (n, sl, wKK kk, (rdI I (nI s28) (nI a28) 39 m28 (nI k28) (nI l28) (nI c28) d28), L, wQQ q)) 6 rfl ?_
                              refine tv_cvE [.int 0] [] rfl rfl (by omega) rfl (Nat.le_of_ble_eq_true rfl) (Nat.le_of_ble_eq_true rfl) (Or.inr (Or.inr rfl)) (ev_r_expectF0 (rd_k hk28)) ?_
                              refine tv_b (pc' := 253) (ls' := [some (.ref 57), some (.int (nI o)), some (.int (nI (pa_tk tx T p))), none]) (st' := [.int (nI (pa_tk tx T p)), .ref 57]) (h' := (n, sl, wKK kk, (rdI I (nI s28) (nI a28) 39 m28 (nI k28) (nI l28) (nI c28) d28), L, wQQ q)) 2 rfl ?_
                              refine tv_cvE [.int (nI (pa_tk tx T p))] [] rfl rfl (by omega) rfl (Nat.le_of_ble_eq_true rfl) (Nat.le_of_ble_eq_true rfl) (Or.inr (Or.inr rfl)) (ev_r_emitF (rd_k hk28)) ?_
                              refine tv_b (pc' := 268) (ls' := [some (.ref 57), some (.int (nI o)), some (.int (nI (pa_tk tx T p))), none]) (st' := []) (h' := (n, sl, wKK kk, (rdI I (nI s28) (nI a28) 39 m28 (nI k28) (nI l28) (nI c28) d28), L, wQQ q)) 1 rfl ?_
                              refine tv_rv rfl ⟨rfl, _, rfl, ?_, hlast⟩
                              unfold pa_part
                              try dsimp only
                              rw [if_neg (by omega), if_neg (by omega), if_neg (by omega), if_neg (by omega), if_pos (by omega)]
                              refine rdO_b (hr24) ?_
                              try dsimp only
                              rw [if_pos hb]
                              rw [if_neg hz]
                              refine rdO_b (hr25) ?_
                              try dsimp only
                              refine rdO_b (hr26) ?_
                              try dsimp only
                              refine rdO_b ((pa_ex_t c215).trans hr27) ?_
                              try dsimp only
                              first | exact rdO_bl (hr28) (rdO_F (hr28) hk28 rfl) | exact rdO_F (hr28) hk28 rfl
                            · have ht28 := pa_tk_lt (b := tx) (n := T) p28
                              have hg28 := pa_edo (tx := tx) (T := T) p28
                              obtain ⟨hl28, hv28⟩ := hlx _ _ hr28
                              have hj28 := pa_ed_le (b := tx) (n := T) (p := p28) hp28.1
                              refine tv_b (pc' := (if (nI (pa_tk tx T p28)) = 33 then 243 else 247)) (ls' := [some (.ref 57), some (.int (nI o)), some (.int (nI (pa_tk tx T p))), none]) (st' := [.ref 57]) (h' := (n, sl, wKK kk, (rdI I (nI (pa_sk tx T p28)) (nI (pa_ed tx T p28)) (nI (pa_tk tx T p28)) m28 0 (-1) (nI (ce + cs24.length + cs25.length + cs26.length + cs27.length + cs28.length)) (pa_wr (pa_wr (pa_wr (pa_wr (pa_wr cd ce cs24) (ce + cs24.length) cs25) (ce + cs24.length + cs25.length) cs26) (ce + cs24.length + cs25.length + cs26.length) cs27) (ce + cs24.length + cs25.length + cs26.length + cs27.length) cs28)), L, wQQ q)) 5 rfl ?_
                              refine tv_ifq (nI_eq (a := (pa_tk tx T p28)) (b := 33) (by omega) (by omega)) (fun c240 => ?_) (fun c240 => ?_)
                              · refine tv_b (pc' := 248) (ls' := [some (.ref 57), some (.int (nI o)), some (.int (nI (pa_tk tx T p))), none]) (st' := [.int 1, .ref 57]) (h' := (n, sl, wKK kk, (rdI I (nI (pa_sk tx T p28)) (nI (pa_ed tx T p28)) (nI (pa_tk tx T p28)) m28 0 (-1) (nI (ce + cs24.length + cs25.length + cs26.length + cs27.length + cs28.length)) (pa_wr (pa_wr (pa_wr (pa_wr (pa_wr cd ce cs24) (ce + cs24.length) cs25) (ce + cs24.length + cs25.length) cs26) (ce + cs24.length + cs25.length + cs26.length) cs27) (ce + cs24.length + cs25.length + cs26.length + cs27.length) cs28)), L, wQQ q)) 2 rfl ?_
                                refine tv_cv [.int 1] [] rfl rfl (by omega) rfl (Nat.le_of_ble_eq_true rfl) (Nat.le_of_ble_eq_true rfl) (Or.inr (Or.inr rfl)) (tv_r_ex1 hH hW (by omega) (by omega)) ?_
                                rintro rv9 h9 ⟨rfl, I9, rfl, ho, hlx⟩
                                rcases rdO_c ho with ⟨k29, l29, s29, a29, m29, c29, d29, hr29, hk29, rfl⟩ | ⟨p29, cs29, m29, hr29, hp29, hn29, rfl⟩
                                · refine tv_b (pc' := 253) (ls' := [some (.ref 57), some (.int (nI o)), some (.int (nI (pa_tk tx T p))), none]) (st' := [.int (nI (pa_tk tx T p)), .ref 57]) (h' := (n, sl, wKK kk, (rdI I (nI s29) (nI a29) 39 m29 (nI k29) (nI l29) (nI c29) d29), L, wQQ q)) 2 rfl ?_
                                  refine tv_cvE [.int (nI (pa_tk tx T p))] [] rfl rfl (by omega) rfl (Nat.le_of_ble_eq_true rfl) (Nat.le_of_ble_eq_true rfl) (Or.inr (Or.inr rfl)) (ev_r_emitF (rd_k hk29)) ?_
                                  refine tv_b (pc' := 268) (ls' := [some (.ref 57), some (.int (nI o)), some (.int (nI (pa_tk tx T p))), none]) (st' := []) (h' := (n, sl, wKK kk, (rdI I (nI s29) (nI a29) 39 m29 (nI k29) (nI l29) (nI c29) d29), L, wQQ q)) 1 rfl ?_
                                  refine tv_rv rfl ⟨rfl, _, rfl, ?_, hlast⟩
                                  unfold pa_part
                                  try dsimp only
                                  rw [if_neg (by omega), if_neg (by omega), if_neg (by omega), if_neg (by omega), if_pos (by omega)]
                                  refine rdO_b (hr24) ?_
                                  try dsimp only
                                  rw [if_pos hb]
                                  rw [if_neg hz]
                                  refine rdO_b (hr25) ?_
                                  try dsimp only
                                  refine rdO_b (hr26) ?_
                                  try dsimp only
                                  refine rdO_b ((pa_ex_t c215).trans hr27) ?_
                                  try dsimp only
                                  refine rdO_b (hr28) ?_
                                  try dsimp only
                                  first | exact rdO_bl ((pa_ex_t c240).trans hr29) (rdO_F ((pa_ex_t c240).trans hr29) hk29 rfl) | exact rdO_F ((pa_ex_t c240).trans hr29) hk29 rfl
                                · have ht29 := pa_tk_lt (b := tx) (n := T) p29
                                  have hg29 := pa_edo (tx := tx) (T := T) p29
                                  obtain ⟨hl29, hv29⟩ := hlx _ _ hr29
                                  have hj29 := pa_ed_le (b := tx) (n := T) (p := p29) hp29.1
                                  obtain ⟨hq29, hz29⟩ := pa_nx_r hr29
                                  have hy29 : cs29.length = 0 := by rw [hz29]; rfl
                                  refine tv_b (pc' := 253) (ls' := [some (.ref 57), some (.int (nI o)), some (.int (nI (pa_tk tx T p))), none]) (st' := [.int (nI (pa_tk tx T p)), .ref 57]) (h' := (n, sl, wKK kk, (rdI I (nI (pa_sk tx T p29)) (nI (pa_ed tx T p29)) (nI (pa_tk tx T p29)) m29 0 (-1) (nI (ce + cs24.length + cs25.length + cs26.length + cs27.length + cs28.length + cs29.length)) (pa_wr (pa_wr (pa_wr (pa_wr (pa_wr (pa_wr cd ce cs24) (ce + cs24.length) cs25) (ce + cs24.length + cs25.length) cs26) (ce + cs24.length + cs25.length + cs26.length) cs27) (ce + cs24.length + cs25.length + cs26.length + cs27.length) cs28) (ce + cs24.length + cs25.length + cs26.length + cs27.length + cs28.length) cs29)), L, wQQ q)) 2 rfl ?_
                                  refine tv_cvE [.int (nI (pa_tk tx T p))] [] rfl rfl (by omega) rfl (Nat.le_of_ble_eq_true rfl) (Nat.le_of_ble_eq_true rfl) (Or.inr (Or.inr rfl)) (ev_r_emit (by omega)) ?_
                                  refine tv_b (pc' := 268) (ls' := [some (.ref 57), some (.int (nI o)), some (.int (nI (pa_tk tx T p))), none]) (st' := []) (h' := (n, sl, wKK kk, (rdI I (nI (pa_sk tx T p29)) (nI (pa_ed tx T p29)) (nI (pa_tk tx T p29)) m29 0 (-1) (nI (ce + cs24.length + cs25.length + cs26.length + cs27.length + cs28.length + cs29.length + 1)) (upd (pa_wr (pa_wr (pa_wr (pa_wr (pa_wr (pa_wr cd ce cs24) (ce + cs24.length) cs25) (ce + cs24.length + cs25.length) cs26) (ce + cs24.length + cs25.length + cs26.length) cs27) (ce + cs24.length + cs25.length + cs26.length + cs27.length) cs28) (ce + cs24.length + cs25.length + cs26.length + cs27.length + cs28.length) cs29) (ce + cs24.length + cs25.length + cs26.length + cs27.length + cs28.length + cs29.length) (nI (pa_tk tx T p)))), L, wQQ q)) 1 rfl ?_
                                  refine tv_rv rfl ⟨rfl, _, rfl, ?_, hlast⟩
                                  unfold pa_part
                                  try dsimp only
                                  rw [if_neg (by omega), if_neg (by omega), if_neg (by omega), if_neg (by omega), if_pos (by omega)]
                                  refine rdO_b (hr24) ?_
                                  try dsimp only
                                  rw [if_pos hb]
                                  rw [if_neg hz]
                                  refine rdO_b (hr25) ?_
                                  try dsimp only
                                  refine rdO_b (hr26) ?_
                                  try dsimp only
                                  refine rdO_b ((pa_ex_t c215).trans hr27) ?_
                                  try dsimp only
                                  refine rdO_b (hr28) ?_
                                  try dsimp only
                                  refine rdO_b ((pa_ex_t c240).trans hr29) ?_
                                  try dsimp only
                                  exact rdO_em ⟨by omega, by omega⟩ hn29 rfl
                              · refine tv_b (pc' := 248) (ls' := [some (.ref 57), some (.int (nI o)), some (.int (nI (pa_tk tx T p))), none]) (st' := [.int 0, .ref 57]) (h' := (n, sl, wKK kk, (rdI I (nI (pa_sk tx T p28)) (nI (pa_ed tx T p28)) (nI (pa_tk tx T p28)) m28 0 (-1) (nI (ce + cs24.length + cs25.length + cs26.length + cs27.length + cs28.length)) (pa_wr (pa_wr (pa_wr (pa_wr (pa_wr cd ce cs24) (ce + cs24.length) cs25) (ce + cs24.length + cs25.length) cs26) (ce + cs24.length + cs25.length + cs26.length) cs27) (ce + cs24.length + cs25.length + cs26.length + cs27.length) cs28)), L, wQQ q)) 1 rfl ?_
                                refine tv_cvE [.int 0] [] rfl rfl (by omega) rfl (Nat.le_of_ble_eq_true rfl) (Nat.le_of_ble_eq_true rfl) (Or.inr (Or.inr rfl)) (ev_r_ex0) ?_
                                refine tv_b (pc' := 253) (ls' := [some (.ref 57), some (.int (nI o)), some (.int (nI (pa_tk tx T p))), none]) (st' := [.int (nI (pa_tk tx T p)), .ref 57]) (h' := (n, sl, wKK kk, (rdI I (nI (pa_sk tx T p28)) (nI (pa_ed tx T p28)) 39 m28 1 (nI (pa_sk tx T p28)) (nI (ce + cs24.length + cs25.length + cs26.length + cs27.length + cs28.length)) (pa_wr (pa_wr (pa_wr (pa_wr (pa_wr cd ce cs24) (ce + cs24.length) cs25) (ce + cs24.length + cs25.length) cs26) (ce + cs24.length + cs25.length + cs26.length) cs27) (ce + cs24.length + cs25.length + cs26.length + cs27.length) cs28)), L, wQQ q)) 2 rfl ?_
                                refine tv_cvE [.int (nI (pa_tk tx T p))] [] rfl rfl (by omega) rfl (Nat.le_of_ble_eq_true rfl) (Nat.le_of_ble_eq_true rfl) (Or.inr (Or.inr rfl)) (ev_r_emitF (by decide)) ?_
                                refine tv_b (pc' := 268) (ls' := [some (.ref 57), some (.int (nI o)), some (.int (nI (pa_tk tx T p))), none]) (st' := []) (h' := (n, sl, wKK kk, (rdI I (nI (pa_sk tx T p28)) (nI (pa_ed tx T p28)) 39 m28 1 (nI (pa_sk tx T p28)) (nI (ce + cs24.length + cs25.length + cs26.length + cs27.length + cs28.length)) (pa_wr (pa_wr (pa_wr (pa_wr (pa_wr cd ce cs24) (ce + cs24.length) cs25) (ce + cs24.length + cs25.length) cs26) (ce + cs24.length + cs25.length + cs26.length) cs27) (ce + cs24.length + cs25.length + cs26.length + cs27.length) cs28)), L, wQQ q)) 1 rfl ?_
                                refine tv_rv rfl ⟨rfl, _, rfl, ?_, hlast⟩
                                unfold pa_part
                                try dsimp only
                                rw [if_neg (by omega), if_neg (by omega), if_neg (by omega), if_neg (by omega), if_pos (by omega)]
                                refine rdO_b (hr24) ?_
                                try dsimp only
                                rw [if_pos hb]
                                rw [if_neg hz]
                                refine rdO_b (hr25) ?_
                                try dsimp only
                                refine rdO_b (hr26) ?_
                                try dsimp only
                                refine rdO_b ((pa_ex_t c215).trans hr27) ?_
                                try dsimp only
                                refine rdO_b (hr28) ?_
                                try dsimp only
                                first | exact rdO_F ((pa_ex_f c240)) ⟨by decide, by decide, by omega, by omega⟩ rfl | exact rdO_bl ((pa_ex_f c240)) (rdO_F ((pa_ex_f c240)) ⟨by decide, by decide, by omega, by omega⟩ rfl)
                        · refine tv_b (pc' := 223) (ls' := [some (.ref 57), some (.int (nI o)), some (.int (nI (pa_tk tx T p))), none]) (st' := [.int 0, .ref 57]) (h' := (n, sl, wKK kk, (rdI I (nI (pa_sk tx T p26)) (nI (pa_ed tx T p26)) (nI (pa_tk tx T p26)) m26 0 (-1) (nI (ce + cs24.length + cs25.length + cs26.length)) (pa_wr (pa_wr (pa_wr cd ce cs24) (ce + cs24.length) cs25) (ce + cs24.length + cs25.length) cs26)), L, wQQ q)) 1 rfl ?_
                          refine tv_cvE [.int 0] [] rfl rfl (by omega) rfl (Nat.le_of_ble_eq_true rfl) (Nat.le_of_ble_eq_true rfl) (Or.inr (Or.inr rfl)) (ev_r_ex0) ?_
                          refine tv_b (pc' := 229) (ls' := [some (.ref 57), some (.int (nI o)), some (.int (nI (pa_tk tx T p))), none]) (st' := [.int 1, .int (nI o), .ref 57]) (h' := (n, sl, wKK kk, (rdI I (nI (pa_sk tx T p26)) (nI (pa_ed tx T p26)) 39 m26 1 (nI (pa_sk tx T p26)) (nI (ce + cs24.length + cs25.length + cs26.length)) (pa_wr (pa_wr (pa_wr cd ce cs24) (ce + cs24.length) cs25) (ce + cs24.length + cs25.length) cs26)), L, wQQ q)) 3 rfl ?_
                          refine tv_b (pc' := 230) (ls' := [some (.ref 57), some (.int (nI o)), some (.int (nI (pa_tk tx T p))), none]) (st' := [.int ((nI o) + 1), .ref 57]) (h' := (n, sl, wKK kk, (rdI I (nI (pa_sk tx T p26)) (nI (pa_ed tx T p26)) 39 m26 1 (nI (pa_sk tx T p26)) (nI (ce + cs24.length + cs25.length + cs26.length)) (pa_wr (pa_wr (pa_wr cd ce cs24) (ce + cs24.length) cs25) (ce + cs24.length + cs25.length) cs26)), L, wQQ q)) 1 rfl ?_
                          refine tv_top (show (nI o) + 1 = nI (o + 1) from nI_add o 1) ?_
                          refine tv_cvE [.int (nI (o + 1))] [] rfl rfl (by omega) rfl (Nat.le_of_ble_eq_true rfl) (Nat.le_of_ble_eq_true rfl) (Or.inr (Or.inr rfl)) (ev_r_sumF (by decide)) ?_
                          refine tv_b (pc' := 248) (ls' := [some (.ref 57), some (.int (nI o)), some (.int (nI (pa_tk tx T p))), none]) (st' := [.int 0, .ref 57]) (h' := (n, sl, wKK kk, (rdI I (nI (pa_sk tx T p26)) (nI (pa_ed tx T p26)) 39 m26 1 (nI (pa_sk tx T p26)) (nI (ce + cs24.length + cs25.length + cs26.length)) (pa_wr (pa_wr (pa_wr cd ce cs24) (ce + cs24.length) cs25) (ce + cs24.length + cs25.length) cs26)), L, wQQ q)) 6 rfl ?_
                          refine tv_cvE [.int 0] [] rfl rfl (by omega) rfl (Nat.le_of_ble_eq_true rfl) (Nat.le_of_ble_eq_true rfl) (Or.inr (Or.inr rfl)) (ev_r_expectF0 (by decide)) ?_
                          refine tv_b (pc' := 253) (ls' := [some (.ref 57), some (.int (nI o)), some (.int (nI (pa_tk tx T p))), none]) (st' := [.int (nI (pa_tk tx T p)), .ref 57]) (h' := (n, sl, wKK kk, (rdI I (nI (pa_sk tx T p26)) (nI (pa_ed tx T p26)) 39 m26 1 (nI (pa_sk tx T p26)) (nI (ce + cs24.length + cs25.length + cs26.length)) (pa_wr (pa_wr (pa_wr cd ce cs24) (ce + cs24.length) cs25) (ce + cs24.length + cs25.length) cs26)), L, wQQ q)) 2 rfl ?_
                          refine tv_cvE [.int (nI (pa_tk tx T p))] [] rfl rfl (by omega) rfl (Nat.le_of_ble_eq_true rfl) (Nat.le_of_ble_eq_true rfl) (Or.inr (Or.inr rfl)) (ev_r_emitF (by decide)) ?_
                          refine tv_b (pc' := 268) (ls' := [some (.ref 57), some (.int (nI o)), some (.int (nI (pa_tk tx T p))), none]) (st' := []) (h' := (n, sl, wKK kk, (rdI I (nI (pa_sk tx T p26)) (nI (pa_ed tx T p26)) 39 m26 1 (nI (pa_sk tx T p26)) (nI (ce + cs24.length + cs25.length + cs26.length)) (pa_wr (pa_wr (pa_wr cd ce cs24) (ce + cs24.length) cs25) (ce + cs24.length + cs25.length) cs26)), L, wQQ q)) 1 rfl ?_
                          refine tv_rv rfl ⟨rfl, _, rfl, ?_, hlast⟩
                          unfold pa_part
                          try dsimp only
                          rw [if_neg (by omega), if_neg (by omega), if_neg (by omega), if_neg (by omega), if_pos (by omega)]
                          refine rdO_b (hr24) ?_
                          try dsimp only
                          rw [if_pos hb]
                          rw [if_neg hz]
                          refine rdO_b (hr25) ?_
                          try dsimp only
                          refine rdO_b (hr26) ?_
                          try dsimp only
                          first | exact rdO_F ((pa_ex_f c215)) ⟨by decide, by decide, by omega, by omega⟩ rfl | exact rdO_bl ((pa_ex_f c215)) (rdO_F ((pa_ex_f c215)) ⟨by decide, by decide, by omega, by omega⟩ rfl)
                  · refine tv_b (pc' := 195) (ls' := [some (.ref 57), some (.int (nI o)), some (.int (nI (pa_tk tx T p))), none]) (st' := [.int (nI o), .int 32, .ref 57]) (h' := (n, sl, wKK kk, (rdI I (nI (pa_sk tx T p24)) (nI (pa_ed tx T p24)) (nI (pa_tk tx T p24)) m24 0 (-1) (nI (ce + cs24.length)) (pa_wr cd ce cs24)), L, wQQ q)) 3 rfl ?_
                    refine tv_cvE [.int 32, .int (nI o)] [] rfl rfl (by omega) rfl (Nat.le_of_ble_eq_true rfl) (Nat.le_of_ble_eq_true rfl) (Or.inr (Or.inr rfl)) (ev_r_op1_32 hb (by omega)) ?_
                    refine tv_b (pc' := 268) (ls' := [some (.ref 57), some (.int (nI o)), some (.int (nI (pa_tk tx T p))), none]) (st' := []) (h' := (n, sl, wKK kk, (rdI I (nI (pa_sk tx T p24)) (nI (pa_ed tx T p24)) 39 m24 1 (nI (pa_sk tx T p24)) (nI (ce + cs24.length)) (pa_wr cd ce cs24)), L, wQQ q)) 1 rfl ?_
                    refine tv_rv rfl ⟨rfl, _, rfl, ?_, hlast⟩
                    unfold pa_part
                    try dsimp only
                    rw [if_neg (by omega), if_neg (by omega), if_neg (by omega), if_neg (by omega), if_pos (by omega)]
                    refine rdO_b (hr24) ?_
                    try dsimp only
                    rw [if_neg hb]
                    first | exact rdO_F (rfl) ⟨by decide, by decide, by omega, by omega⟩ rfl | exact rdO_bl (rfl) (rdO_F (rfl) ⟨by decide, by decide, by omega, by omega⟩ rfl)
              · refine tv_b (pc' := (if (nI (pa_tk tx T p)) = 20 then 187 else 259)) (ls' := [some (.ref 57), some (.int (nI o)), some (.int (nI (pa_tk tx T p))), none]) (st' := []) (h' := (n, sl, wKK kk, (rdI I (nI (pa_sk tx T p)) (nI (pa_ed tx T p)) (nI (pa_tk tx T p)) nm 0 (-1) (nI ce) cd), L, wQQ q)) 3 rfl ?_
                refine tv_ifq (nI_eq (a := (pa_tk tx T p)) (b := 20) (by omega) (by omega)) (fun c184 => ?_) (fun c184 => ?_)
                · refine tv_b (pc' := 188) (ls' := [some (.ref 57), some (.int (nI o)), some (.int (nI (pa_tk tx T p))), none]) (st' := [.ref 57]) (h' := (n, sl, wKK kk, (rdI I (nI (pa_sk tx T p)) (nI (pa_ed tx T p)) (nI (pa_tk tx T p)) nm 0 (-1) (nI ce) cd), L, wQQ q)) 1 rfl ?_
                  refine tv_cv [] [] rfl rfl (by omega) rfl (Nat.le_of_ble_eq_true rfl) (Nat.le_of_ble_eq_true rfl) (Or.inr (Or.inr rfl)) (tv_r_nx hH hW (by omega) (by omega)) ?_
                  rintro rv9 h9 ⟨rfl, I9, rfl, ho, hlx⟩
                  rcases rdO_c ho with ⟨k30, l30, s30, a30, m30, c30, d30, hr30, hk30, rfl⟩ | ⟨p30, cs30, m30, hr30, hp30, hn30, rfl⟩
                  · refine tv_b (pc' := 195) (ls' := [some (.ref 57), some (.int (nI o)), some (.int (nI (pa_tk tx T p))), none]) (st' := [.int (nI o), .int 32, .ref 57]) (h' := (n, sl, wKK kk, (rdI I (nI s30) (nI a30) 39 m30 (nI k30) (nI l30) (nI c30) d30), L, wQQ q)) 3 rfl ?_
                    refine tv_cvE [.int 32, .int (nI o)] [] rfl rfl (by omega) rfl (Nat.le_of_ble_eq_true rfl) (Nat.le_of_ble_eq_true rfl) (Or.inr (Or.inr rfl)) (ev_r_opensF (rd_k hk30)) ?_
                    refine tv_b (pc' := 268) (ls' := [some (.ref 57), some (.int (nI o)), some (.int (nI (pa_tk tx T p))), none]) (st' := []) (h' := (n, sl, wKK kk, (rdI I (nI s30) (nI a30) 39 m30 (nI k30) (nI l30) (nI c30) d30), L, wQQ q)) 1 rfl ?_
                    refine tv_rv rfl ⟨rfl, _, rfl, ?_, hlast⟩
                    unfold pa_part
                    try dsimp only
                    rw [if_neg (by omega), if_neg (by omega), if_neg (by omega), if_neg (by omega), if_pos (by omega)]
                    first | exact rdO_bl (hr30) (rdO_F (hr30) hk30 rfl) | exact rdO_F (hr30) hk30 rfl
                  · have ht30 := pa_tk_lt (b := tx) (n := T) p30
                    have hg30 := pa_edo (tx := tx) (T := T) p30
                    obtain ⟨hl30, hv30⟩ := hlx _ _ hr30
                    have hj30 := pa_ed_le (b := tx) (n := T) (p := p30) hp30.1
                    obtain ⟨hq30, hz30⟩ := pa_nx_r hr30
                    have hy30 : cs30.length = 0 := by rw [hz30]; rfl
                    by_cases hb : pa_tk tx T p30 = 32
                    · refine tv_b (pc' := 195) (ls' := [some (.ref 57), some (.int (nI o)), some (.int (nI (pa_tk tx T p))), none]) (st' := [.int (nI o), .int 32, .ref 57]) (h' := (n, sl, wKK kk, (rdI I (nI (pa_sk tx T p30)) (nI (pa_ed tx T p30)) (nI (pa_tk tx T p30)) m30 0 (-1) (nI (ce + cs30.length)) (pa_wr cd ce cs30)), L, wQQ q)) 3 rfl ?_
                      refine tv_cv [.int 32, .int (nI o)] [] rfl rfl (by omega) rfl (Nat.le_of_ble_eq_true rfl) (Nat.le_of_ble_eq_true rfl) (Or.inr (Or.inr rfl)) (tv_r_op_32 hH hW (by omega) (by omega) hb (by omega)) ?_
                      rintro rv9 h9 ⟨I9, rfl, ho, hlx, hv⟩
                      rcases rdO_c ho with ⟨k31, l31, s31, a31, m31, c31, d31, hr31, hk31, rfl⟩ | ⟨p31, cs31, m31, hr31, hp31, hn31, rfl⟩
                      · obtain rfl : rv9 = some (.int 0) := by rcases hv with ⟨_, h⟩ | ⟨⟨w, h⟩, _⟩; exact h; rw [hr31] at h; cases h
                        refine tv_b (pc' := 268) (ls' := [some (.ref 57), some (.int (nI o)), some (.int (nI (pa_tk tx T p))), none]) (st' := []) (h' := (n, sl, wKK kk, (rdI I (nI s31) (nI a31) 39 m31 (nI k31) (nI l31) (nI c31) d31), L, wQQ q)) 1 rfl ?_
                        refine tv_rv rfl ⟨rfl, _, rfl, ?_, hlast⟩
                        unfold pa_part
                        try dsimp only
                        rw [if_neg (by omega), if_neg (by omega), if_neg (by omega), if_neg (by omega), if_pos (by omega)]
                        refine rdO_b (hr30) ?_
                        try dsimp only
                        rw [if_pos hb]
                        rw [if_neg hz]
                        first | exact rdO_bl (hr31) (rdO_F (hr31) hk31 rfl) | exact rdO_F (hr31) hk31 rfl
                      · obtain rfl : rv9 = some (.int 1) := by rcases hv with ⟨⟨w, h⟩, _⟩ | ⟨_, h⟩; rw [hr31] at h; cases h; exact h
                        have ht31 := pa_tk_lt (b := tx) (n := T) p31
                        have hg31 := pa_edo (tx := tx) (T := T) p31
                        obtain ⟨hl31, hv31⟩ := hlx _ _ hr31
                        have hj31 := pa_ed_le (b := tx) (n := T) (p := p31) hp31.1
                        obtain ⟨hq31, hz31⟩ := pa_nx_r hr31
                        have hy31 : cs31.length = 0 := by rw [hz31]; rfl
                        refine tv_b (pc' := 204) (ls' := [some (.ref 57), some (.int (nI o)), some (.int (nI (pa_tk tx T p))), none]) (st' := [.int 1, .int (nI o), .ref 57]) (h' := (n, sl, wKK kk, (rdI I (nI (pa_sk tx T p31)) (nI (pa_ed tx T p31)) (nI (pa_tk tx T p31)) m31 0 (-1) (nI (ce + cs30.length + cs31.length)) (pa_wr (pa_wr cd ce cs30) (ce + cs30.length) cs31)), L, wQQ q)) 4 rfl ?_
                        refine tv_b (pc' := 205) (ls' := [some (.ref 57), some (.int (nI o)), some (.int (nI (pa_tk tx T p))), none]) (st' := [.int ((nI o) + 1), .ref 57]) (h' := (n, sl, wKK kk, (rdI I (nI (pa_sk tx T p31)) (nI (pa_ed tx T p31)) (nI (pa_tk tx T p31)) m31 0 (-1) (nI (ce + cs30.length + cs31.length)) (pa_wr (pa_wr cd ce cs30) (ce + cs30.length) cs31)), L, wQQ q)) 1 rfl ?_
                        refine tv_top (show (nI o) + 1 = nI (o + 1) from nI_add o 1) ?_
                        refine tv_cv [.int (nI (o + 1))] [] rfl rfl (by omega) rfl (Nat.le_of_ble_eq_true rfl) (Nat.le_of_ble_eq_true rfl) (Or.inr (Or.inr rfl)) ((hI hz0) _ p31 _ _ _ (by omega) (by omega) (by omega) hn31 hl31) ?_
                        rintro rv9 h9 ⟨rfl, I9, rfl, ho, hlx⟩
                        rcases rdO_c ho with ⟨k32, l32, s32, a32, m32, c32, d32, hr32, hk32, rfl⟩ | ⟨p32, cs32, m32, hr32, hp32, hn32, rfl⟩
                        · refine tv_b (pc' := 223) (ls' := [some (.ref 57), some (.int (nI o)), some (.int (nI (pa_tk tx T p))), none]) (st' := [.int 0, .ref 57]) (h' := (n, sl, wKK kk, (rdI I (nI s32) (nI a32) 39 m32 (nI k32) (nI l32) (nI c32) d32), L, wQQ q)) 6 rfl ?_
                          refine tv_cvE [.int 0] [] rfl rfl (by omega) rfl (Nat.le_of_ble_eq_true rfl) (Nat.le_of_ble_eq_true rfl) (Or.inr (Or.inr rfl)) (ev_r_expectF0 (rd_k hk32)) ?_
                          refine tv_b (pc' := 229) (ls' := [some (.ref 57), some (.int (nI o)), some (.int (nI (pa_tk tx T p))), none]) (st' := [.int 1, .int (nI o), .ref 57]) (h' := (n, sl, wKK kk, (rdI I (nI s32) (nI a32) 39 m32 (nI k32) (nI l32) (nI c32) d32), L, wQQ q)) 3 rfl ?_
                          refine tv_b (pc' := 230) (ls' := [some (.ref 57), some (.int (nI o)), some (.int (nI (pa_tk tx T p))), none]) (st' := [.int ((nI o) + 1), .ref 57]) (h' := (n, sl, wKK kk, (rdI I (nI s32) (nI a32) 39 m32 (nI k32) (nI l32) (nI c32) d32), L, wQQ q)) 1 rfl ?_
                          refine tv_top (show (nI o) + 1 = nI (o + 1) from nI_add o 1) ?_
                          refine tv_cvE [.int (nI (o + 1))] [] rfl rfl (by omega) rfl (Nat.le_of_ble_eq_true rfl) (Nat.le_of_ble_eq_true rfl) (Or.inr (Or.inr rfl)) (ev_r_sumF (rd_k hk32)) ?_
                          refine tv_b (pc' := 248) (ls' := [some (.ref 57), some (.int (nI o)), some (.int (nI (pa_tk tx T p))), none]) (st' := [.int 0, .ref 57]) (h' := (n, sl, wKK kk, (rdI I (nI s32) (nI a32) 39 m32 (nI k32) (nI l32) (nI c32) d32), L, wQQ q)) 6 rfl ?_
                          refine tv_cvE [.int 0] [] rfl rfl (by omega) rfl (Nat.le_of_ble_eq_true rfl) (Nat.le_of_ble_eq_true rfl) (Or.inr (Or.inr rfl)) (ev_r_expectF0 (rd_k hk32)) ?_
                          refine tv_b (pc' := 253) (ls' := [some (.ref 57), some (.int (nI o)), some (.int (nI (pa_tk tx T p))), none]) (st' := [.int (nI (pa_tk tx T p)), .ref 57]) (h' := (n, sl, wKK kk, (rdI I (nI s32) (nI a32) 39 m32 (nI k32) (nI l32) (nI c32) d32), L, wQQ q)) 2 rfl ?_
                          refine tv_cvE [.int (nI (pa_tk tx T p))] [] rfl rfl (by omega) rfl (Nat.le_of_ble_eq_true rfl) (Nat.le_of_ble_eq_true rfl) (Or.inr (Or.inr rfl)) (ev_r_emitF (rd_k hk32)) ?_
                          refine tv_b (pc' := 268) (ls' := [some (.ref 57), some (.int (nI o)), some (.int (nI (pa_tk tx T p))), none]) (st' := []) (h' := (n, sl, wKK kk, (rdI I (nI s32) (nI a32) 39 m32 (nI k32) (nI l32) (nI c32) d32), L, wQQ q)) 1 rfl ?_
                          refine tv_rv rfl ⟨rfl, _, rfl, ?_, hlast⟩
                          unfold pa_part
                          try dsimp only
                          rw [if_neg (by omega), if_neg (by omega), if_neg (by omega), if_neg (by omega), if_pos (by omega)]
                          refine rdO_b (hr30) ?_
                          try dsimp only
                          rw [if_pos hb]
                          rw [if_neg hz]
                          refine rdO_b (hr31) ?_
                          try dsimp only
                          first | exact rdO_bl (hr32) (rdO_F (hr32) hk32 rfl) | exact rdO_F (hr32) hk32 rfl
                        · have ht32 := pa_tk_lt (b := tx) (n := T) p32
                          have hg32 := pa_edo (tx := tx) (T := T) p32
                          obtain ⟨hl32, hv32⟩ := hlx _ _ hr32
                          have hj32 := pa_ed_le (b := tx) (n := T) (p := p32) hp32.1
                          refine tv_b (pc' := (if (nI (pa_tk tx T p32)) = 36 then 218 else 222)) (ls' := [some (.ref 57), some (.int (nI o)), some (.int (nI (pa_tk tx T p))), none]) (st' := [.ref 57]) (h' := (n, sl, wKK kk, (rdI I (nI (pa_sk tx T p32)) (nI (pa_ed tx T p32)) (nI (pa_tk tx T p32)) m32 0 (-1) (nI (ce + cs30.length + cs31.length + cs32.length)) (pa_wr (pa_wr (pa_wr cd ce cs30) (ce + cs30.length) cs31) (ce + cs30.length + cs31.length) cs32)), L, wQQ q)) 5 rfl ?_
                          refine tv_ifq (nI_eq (a := (pa_tk tx T p32)) (b := 36) (by omega) (by omega)) (fun c215 => ?_) (fun c215 => ?_)
                          · refine tv_b (pc' := 223) (ls' := [some (.ref 57), some (.int (nI o)), some (.int (nI (pa_tk tx T p))), none]) (st' := [.int 1, .ref 57]) (h' := (n, sl, wKK kk, (rdI I (nI (pa_sk tx T p32)) (nI (pa_ed tx T p32)) (nI (pa_tk tx T p32)) m32 0 (-1) (nI (ce + cs30.length + cs31.length + cs32.length)) (pa_wr (pa_wr (pa_wr cd ce cs30) (ce + cs30.length) cs31) (ce + cs30.length + cs31.length) cs32)), L, wQQ q)) 2 rfl ?_
                            refine tv_cv [.int 1] [] rfl rfl (by omega) rfl (Nat.le_of_ble_eq_true rfl) (Nat.le_of_ble_eq_true rfl) (Or.inr (Or.inr rfl)) (tv_r_ex1 hH hW (by omega) (by omega)) ?_
                            rintro rv9 h9 ⟨rfl, I9, rfl, ho, hlx⟩
                            rcases rdO_c ho with ⟨k33, l33, s33, a33, m33, c33, d33, hr33, hk33, rfl⟩ | ⟨p33, cs33, m33, hr33, hp33, hn33, rfl⟩
                            · refine tv_b (pc' := 229) (ls' := [some (.ref 57), some (.int (nI o)), some (.int (nI (pa_tk tx T p))), none]) (st' := [.int 1, .int (nI o), .ref 57]) (h' := (n, sl, wKK kk, (rdI I (nI s33) (nI a33) 39 m33 (nI k33) (nI l33) (nI c33) d33), L, wQQ q)) 3 rfl ?_
                              refine tv_b (pc' := 230) (ls' := [some (.ref 57), some (.int (nI o)), some (.int (nI (pa_tk tx T p))), none]) (st' := [.int ((nI o) + 1), .ref 57]) (h' := (n, sl, wKK kk, (rdI I (nI s33) (nI a33) 39 m33 (nI k33) (nI l33) (nI c33) d33), L, wQQ q)) 1 rfl ?_
                              refine tv_top (show (nI o) + 1 = nI (o + 1) from nI_add o 1) ?_
                              refine tv_cvE [.int (nI (o + 1))] [] rfl rfl (by omega) rfl (Nat.le_of_ble_eq_true rfl) (Nat.le_of_ble_eq_true rfl) (Or.inr (Or.inr rfl)) (ev_r_sumF (rd_k hk33)) ?_
                              refine tv_b (pc' := 248) (ls' := [some (.ref 57), some (.int (nI o)), some (.int (nI (pa_tk tx T p))), none]) (st' := [.int 0, .ref 57]) (h' := (n, sl, wKK kk, (rdI I (nI s33) (nI a33) 39 m33 (nI k33) (nI l33) (nI c33) d33), L, wQQ q)) 6 rfl ?_
                              refine tv_cvE [.int 0] [] rfl rfl (by omega) rfl (Nat.le_of_ble_eq_true rfl) (Nat.le_of_ble_eq_true rfl) (Or.inr (Or.inr rfl)) (ev_r_expectF0 (rd_k hk33)) ?_
                              refine tv_b (pc' := 253) (ls' := [some (.ref 57), some (.int (nI o)), some (.int (nI (pa_tk tx T p))), none]) (st' := [.int (nI (pa_tk tx T p)), .ref 57]) (h' := (n, sl, wKK kk, (rdI I (nI s33) (nI a33) 39 m33 (nI k33) (nI l33) (nI c33) d33), L, wQQ q)) 2 rfl ?_
                              refine tv_cvE [.int (nI (pa_tk tx T p))] [] rfl rfl (by omega) rfl (Nat.le_of_ble_eq_true rfl) (Nat.le_of_ble_eq_true rfl) (Or.inr (Or.inr rfl)) (ev_r_emitF (rd_k hk33)) ?_
                              refine tv_b (pc' := 268) (ls' := [some (.ref 57), some (.int (nI o)), some (.int (nI (pa_tk tx T p))), none]) (st' := []) (h' := (n, sl, wKK kk, (rdI I (nI s33) (nI a33) 39 m33 (nI k33) (nI l33) (nI c33) d33), L, wQQ q)) 1 rfl ?_
                              refine tv_rv rfl ⟨rfl, _, rfl, ?_, hlast⟩
                              unfold pa_part
                              try dsimp only
                              rw [if_neg (by omega), if_neg (by omega), if_neg (by omega), if_neg (by omega), if_pos (by omega)]
                              refine rdO_b (hr30) ?_
                              try dsimp only
                              rw [if_pos hb]
                              rw [if_neg hz]
                              refine rdO_b (hr31) ?_
                              try dsimp only
                              refine rdO_b (hr32) ?_
                              try dsimp only
                              first | exact rdO_bl ((pa_ex_t c215).trans hr33) (rdO_F ((pa_ex_t c215).trans hr33) hk33 rfl) | exact rdO_F ((pa_ex_t c215).trans hr33) hk33 rfl
                            · have ht33 := pa_tk_lt (b := tx) (n := T) p33
                              have hg33 := pa_edo (tx := tx) (T := T) p33
                              obtain ⟨hl33, hv33⟩ := hlx _ _ hr33
                              have hj33 := pa_ed_le (b := tx) (n := T) (p := p33) hp33.1
                              obtain ⟨hq33, hz33⟩ := pa_nx_r hr33
                              have hy33 : cs33.length = 0 := by rw [hz33]; rfl
                              refine tv_b (pc' := 229) (ls' := [some (.ref 57), some (.int (nI o)), some (.int (nI (pa_tk tx T p))), none]) (st' := [.int 1, .int (nI o), .ref 57]) (h' := (n, sl, wKK kk, (rdI I (nI (pa_sk tx T p33)) (nI (pa_ed tx T p33)) (nI (pa_tk tx T p33)) m33 0 (-1) (nI (ce + cs30.length + cs31.length + cs32.length + cs33.length)) (pa_wr (pa_wr (pa_wr (pa_wr cd ce cs30) (ce + cs30.length) cs31) (ce + cs30.length + cs31.length) cs32) (ce + cs30.length + cs31.length + cs32.length) cs33)), L, wQQ q)) 3 rfl ?_
                              refine tv_b (pc' := 230) (ls' := [some (.ref 57), some (.int (nI o)), some (.int (nI (pa_tk tx T p))), none]) (st' := [.int ((nI o) + 1), .ref 57]) (h' := (n, sl, wKK kk, (rdI I (nI (pa_sk tx T p33)) (nI (pa_ed tx T p33)) (nI (pa_tk tx T p33)) m33 0 (-1) (nI (ce + cs30.length + cs31.length + cs32.length + cs33.length)) (pa_wr (pa_wr (pa_wr (pa_wr cd ce cs30) (ce + cs30.length) cs31) (ce + cs30.length + cs31.length) cs32) (ce + cs30.length + cs31.length + cs32.length) cs33)), L, wQQ q)) 1 rfl ?_
                              refine tv_top (show (nI o) + 1 = nI (o + 1) from nI_add o 1) ?_
                              refine tv_cv [.int (nI (o + 1))] [] rfl rfl (by omega) rfl (Nat.le_of_ble_eq_true rfl) (Nat.le_of_ble_eq_true rfl) (Or.inr (Or.inr rfl)) ((hI hz0) _ p33 _ _ _ (by omega) (by omega) (by omega) hn33 hl33) ?_
                              rintro rv9 h9 ⟨rfl, I9, rfl, ho, hlx⟩
                              rcases rdO_c ho with ⟨k34, l34, s34, a34, m34, c34, d34, hr34, hk34, rfl⟩ | ⟨p34, cs34, m34, hr34, hp34, hn34, rfl⟩
                              · refine tv_b (pc' := 248) (ls' := [some (.ref 57), some (.int (nI o)), some (.int (nI (pa_tk tx T p))), none]) (st' := [.int 0, .ref 57]) (h' := (n, sl, wKK kk, (rdI I (nI s34) (nI a34) 39 m34 (nI k34) (nI l34) (nI c34) d34), L, wQQ q)) 6 rfl ?_
                                refine tv_cvE [.int 0] [] rfl rfl (by omega) rfl (Nat.le_of_ble_eq_true rfl) (Nat.le_of_ble_eq_true rfl) (Or.inr (Or.inr rfl)) (ev_r_expectF0 (rd_k hk34)) ?_
                                refine tv_b (pc' := 253) (ls' := [some (.ref 57), some (.int (nI o)), some (.int (nI (pa_tk tx T p))), none]) (st' := [.int (nI (pa_tk tx T p)), .ref 57]) (h' := (n, sl, wKK kk, (rdI I (nI s34) (nI a34) 39 m34 (nI k34) (nI l34) (nI c34) d34), L, wQQ q)) 2 rfl ?_
                                refine tv_cvE [.int (nI (pa_tk tx T p))] [] rfl rfl (by omega) rfl (Nat.le_of_ble_eq_true rfl) (Nat.le_of_ble_eq_true rfl) (Or.inr (Or.inr rfl)) (ev_r_emitF (rd_k hk34)) ?_
                                refine tv_b (pc' := 268) (ls' := [some (.ref 57), some (.int (nI o)), some (.int (nI (pa_tk tx T p))), none]) (st' := []) (h' := (n, sl, wKK kk, (rdI I (nI s34) (nI a34) 39 m34 (nI k34) (nI l34) (nI c34) d34), L, wQQ q)) 1 rfl ?_
                                refine tv_rv rfl ⟨rfl, _, rfl, ?_, hlast⟩
                                unfold pa_part
                                try dsimp only
                                rw [if_neg (by omega), if_neg (by omega), if_neg (by omega), if_neg (by omega), if_pos (by omega)]
                                refine rdO_b (hr30) ?_
                                try dsimp only
                                rw [if_pos hb]
                                rw [if_neg hz]
                                refine rdO_b (hr31) ?_
                                try dsimp only
                                refine rdO_b (hr32) ?_
                                try dsimp only
                                refine rdO_b ((pa_ex_t c215).trans hr33) ?_
                                try dsimp only
                                first | exact rdO_bl (hr34) (rdO_F (hr34) hk34 rfl) | exact rdO_F (hr34) hk34 rfl
                              · have ht34 := pa_tk_lt (b := tx) (n := T) p34
                                have hg34 := pa_edo (tx := tx) (T := T) p34
                                obtain ⟨hl34, hv34⟩ := hlx _ _ hr34
                                have hj34 := pa_ed_le (b := tx) (n := T) (p := p34) hp34.1
                                refine tv_b (pc' := (if (nI (pa_tk tx T p34)) = 33 then 243 else 247)) (ls' := [some (.ref 57), some (.int (nI o)), some (.int (nI (pa_tk tx T p))), none]) (st' := [.ref 57]) (h' := (n, sl, wKK kk, (rdI I (nI (pa_sk tx T p34)) (nI (pa_ed tx T p34)) (nI (pa_tk tx T p34)) m34 0 (-1) (nI (ce + cs30.length + cs31.length + cs32.length + cs33.length + cs34.length)) (pa_wr (pa_wr (pa_wr (pa_wr (pa_wr cd ce cs30) (ce + cs30.length) cs31) (ce + cs30.length + cs31.length) cs32) (ce + cs30.length + cs31.length + cs32.length) cs33) (ce + cs30.length + cs31.length + cs32.length + cs33.length) cs34)), L, wQQ q)) 5 rfl ?_
                                refine tv_ifq (nI_eq (a := (pa_tk tx T p34)) (b := 33) (by omega) (by omega)) (fun c240 => ?_) (fun c240 => ?_)
                                · refine tv_b (pc' := 248) (ls' := [some (.ref 57), some (.int (nI o)), some (.int (nI (pa_tk tx T p))), none]) (st' := [.int 1, .ref 57]) (h' := (n, sl, wKK kk, (rdI I (nI (pa_sk tx T p34)) (nI (pa_ed tx T p34)) (nI (pa_tk tx T p34)) m34 0 (-1) (nI (ce + cs30.length + cs31.length + cs32.length + cs33.length + cs34.length)) (pa_wr (pa_wr (pa_wr (pa_wr (pa_wr cd ce cs30) (ce + cs30.length) cs31) (ce + cs30.length + cs31.length) cs32) (ce + cs30.length + cs31.length + cs32.length) cs33) (ce + cs30.length + cs31.length + cs32.length + cs33.length) cs34)), L, wQQ q)) 2 rfl ?_
                                  refine tv_cv [.int 1] [] rfl rfl (by omega) rfl (Nat.le_of_ble_eq_true rfl) (Nat.le_of_ble_eq_true rfl) (Or.inr (Or.inr rfl)) (tv_r_ex1 hH hW (by omega) (by omega)) ?_
                                  rintro rv9 h9 ⟨rfl, I9, rfl, ho, hlx⟩
                                  rcases rdO_c ho with ⟨k35, l35, s35, a35, m35, c35, d35, hr35, hk35, rfl⟩ | ⟨p35, cs35, m35, hr35, hp35, hn35, rfl⟩
                                  · refine tv_b (pc' := 253) (ls' := [some (.ref 57), some (.int (nI o)), some (.int (nI (pa_tk tx T p))), none]) (st' := [.int (nI (pa_tk tx T p)), .ref 57]) (h' := (n, sl, wKK kk, (rdI I (nI s35) (nI a35) 39 m35 (nI k35) (nI l35) (nI c35) d35), L, wQQ q)) 2 rfl ?_
                                    refine tv_cvE [.int (nI (pa_tk tx T p))] [] rfl rfl (by omega) rfl (Nat.le_of_ble_eq_true rfl) (Nat.le_of_ble_eq_true rfl) (Or.inr (Or.inr rfl)) (ev_r_emitF (rd_k hk35)) ?_
                                    refine tv_b (pc' := 268) (ls' := [some (.ref 57), some (.int (nI o)), some (.int (nI (pa_tk tx T p))), none]) (st' := []) (h' := (n, sl, wKK kk, (rdI I (nI s35) (nI a35) 39 m35 (nI k35) (nI l35) (nI c35) d35), L, wQQ q)) 1 rfl ?_
                                    refine tv_rv rfl ⟨rfl, _, rfl, ?_, hlast⟩
                                    unfold pa_part
                                    try dsimp only
                                    rw [if_neg (by omega), if_neg (by omega), if_neg (by omega), if_neg (by omega), if_pos (by omega)]
                                    refine rdO_b (hr30) ?_
                                    try dsimp only
                                    rw [if_pos hb]
                                    rw [if_neg hz]
                                    refine rdO_b (hr31) ?_
                                    try dsimp only
                                    refine rdO_b (hr32) ?_
                                    try dsimp only
                                    refine rdO_b ((pa_ex_t c215).trans hr33) ?_
                                    try dsimp only
                                    refine rdO_b (hr34) ?_
                                    try dsimp only
                                    first | exact rdO_bl ((pa_ex_t c240).trans hr35) (rdO_F ((pa_ex_t c240).trans hr35) hk35 rfl) | exact rdO_F ((pa_ex_t c240).trans hr35) hk35 rfl
                                  · have ht35 := pa_tk_lt (b := tx) (n := T) p35
                                    have hg35 := pa_edo (tx := tx) (T := T) p35
                                    obtain ⟨hl35, hv35⟩ := hlx _ _ hr35
                                    have hj35 := pa_ed_le (b := tx) (n := T) (p := p35) hp35.1
                                    obtain ⟨hq35, hz35⟩ := pa_nx_r hr35
                                    have hy35 : cs35.length = 0 := by rw [hz35]; rfl
                                    refine tv_b (pc' := 253) (ls' := [some (.ref 57), some (.int (nI o)), some (.int (nI (pa_tk tx T p))), none]) (st' := [.int (nI (pa_tk tx T p)), .ref 57]) (h' := (n, sl, wKK kk, (rdI I (nI (pa_sk tx T p35)) (nI (pa_ed tx T p35)) (nI (pa_tk tx T p35)) m35 0 (-1) (nI (ce + cs30.length + cs31.length + cs32.length + cs33.length + cs34.length + cs35.length)) (pa_wr (pa_wr (pa_wr (pa_wr (pa_wr (pa_wr cd ce cs30) (ce + cs30.length) cs31) (ce + cs30.length + cs31.length) cs32) (ce + cs30.length + cs31.length + cs32.length) cs33) (ce + cs30.length + cs31.length + cs32.length + cs33.length) cs34) (ce + cs30.length + cs31.length + cs32.length + cs33.length + cs34.length) cs35)), L, wQQ q)) 2 rfl ?_
                                    refine tv_cvE [.int (nI (pa_tk tx T p))] [] rfl rfl (by omega) rfl (Nat.le_of_ble_eq_true rfl) (Nat.le_of_ble_eq_true rfl) (Or.inr (Or.inr rfl)) (ev_r_emit (by omega)) ?_
                                    refine tv_b (pc' := 268) (ls' := [some (.ref 57), some (.int (nI o)), some (.int (nI (pa_tk tx T p))), none]) (st' := []) (h' := (n, sl, wKK kk, (rdI I (nI (pa_sk tx T p35)) (nI (pa_ed tx T p35)) (nI (pa_tk tx T p35)) m35 0 (-1) (nI (ce + cs30.length + cs31.length + cs32.length + cs33.length + cs34.length + cs35.length + 1)) (upd (pa_wr (pa_wr (pa_wr (pa_wr (pa_wr (pa_wr cd ce cs30) (ce + cs30.length) cs31) (ce + cs30.length + cs31.length) cs32) (ce + cs30.length + cs31.length + cs32.length) cs33) (ce + cs30.length + cs31.length + cs32.length + cs33.length) cs34) (ce + cs30.length + cs31.length + cs32.length + cs33.length + cs34.length) cs35) (ce + cs30.length + cs31.length + cs32.length + cs33.length + cs34.length + cs35.length) (nI (pa_tk tx T p)))), L, wQQ q)) 1 rfl ?_
                                    refine tv_rv rfl ⟨rfl, _, rfl, ?_, hlast⟩
                                    unfold pa_part
                                    try dsimp only
                                    rw [if_neg (by omega), if_neg (by omega), if_neg (by omega), if_neg (by omega), if_pos (by omega)]
                                    refine rdO_b (hr30) ?_
                                    try dsimp only
                                    rw [if_pos hb]
                                    rw [if_neg hz]
                                    refine rdO_b (hr31) ?_
                                    try dsimp only
                                    refine rdO_b (hr32) ?_
                                    try dsimp only
                                    refine rdO_b ((pa_ex_t c215).trans hr33) ?_
                                    try dsimp only
                                    refine rdO_b (hr34) ?_
                                    try dsimp only
                                    refine rdO_b ((pa_ex_t c240).trans hr35) ?_
                                    try dsimp only
                                    exact rdO_em ⟨by omega, by omega⟩ hn35 rfl
                                · refine tv_b (pc' := 248) (ls' := [some (.ref 57), some (.int (nI o)), some (.int (nI (pa_tk tx T p))), none]) (st' := [.int 0, .ref 57]) (h' := (n, sl, wKK kk, (rdI I (nI (pa_sk tx T p34)) (nI (pa_ed tx T p34)) (nI (pa_tk tx T p34)) m34 0 (-1) (nI (ce + cs30.length + cs31.length + cs32.length + cs33.length + cs34.length)) (pa_wr (pa_wr (pa_wr (pa_wr (pa_wr cd ce cs30) (ce + cs30.length) cs31) (ce + cs30.length + cs31.length) cs32) (ce + cs30.length + cs31.length + cs32.length) cs33) (ce + cs30.length + cs31.length + cs32.length + cs33.length) cs34)), L, wQQ q)) 1 rfl ?_
                                  refine tv_cvE [.int 0] [] rfl rfl (by omega) rfl (Nat.le_of_ble_eq_true rfl) (Nat.le_of_ble_eq_true rfl) (Or.inr (Or.inr rfl)) (ev_r_ex0) ?_
                                  refine tv_b (pc' := 253) (ls' := [some (.ref 57), some (.int (nI o)), some (.int (nI (pa_tk tx T p))), none]) (st' := [.int (nI (pa_tk tx T p)), .ref 57]) (h' := (n, sl, wKK kk, (rdI I (nI (pa_sk tx T p34)) (nI (pa_ed tx T p34)) 39 m34 1 (nI (pa_sk tx T p34)) (nI (ce + cs30.length + cs31.length + cs32.length + cs33.length + cs34.length)) (pa_wr (pa_wr (pa_wr (pa_wr (pa_wr cd ce cs30) (ce + cs30.length) cs31) (ce + cs30.length + cs31.length) cs32) (ce + cs30.length + cs31.length + cs32.length) cs33) (ce + cs30.length + cs31.length + cs32.length + cs33.length) cs34)), L, wQQ q)) 2 rfl ?_
                                  refine tv_cvE [.int (nI (pa_tk tx T p))] [] rfl rfl (by omega) rfl (Nat.le_of_ble_eq_true rfl) (Nat.le_of_ble_eq_true rfl) (Or.inr (Or.inr rfl)) (ev_r_emitF (by decide)) ?_
                                  refine tv_b (pc' := 268) (ls' := [some (.ref 57), some (.int (nI o)), some (.int (nI (pa_tk tx T p))), none]) (st' := []) (h' := (n, sl, wKK kk, (rdI I (nI (pa_sk tx T p34)) (nI (pa_ed tx T p34)) 39 m34 1 (nI (pa_sk tx T p34)) (nI (ce + cs30.length + cs31.length + cs32.length + cs33.length + cs34.length)) (pa_wr (pa_wr (pa_wr (pa_wr (pa_wr cd ce cs30) (ce + cs30.length) cs31) (ce + cs30.length + cs31.length) cs32) (ce + cs30.length + cs31.length + cs32.length) cs33) (ce + cs30.length + cs31.length + cs32.length + cs33.length) cs34)), L, wQQ q)) 1 rfl ?_
                                  refine tv_rv rfl ⟨rfl, _, rfl, ?_, hlast⟩
                                  unfold pa_part
                                  try dsimp only
                                  rw [if_neg (by omega), if_neg (by omega), if_neg (by omega), if_neg (by omega), if_pos (by omega)]
                                  refine rdO_b (hr30) ?_
                                  try dsimp only
                                  rw [if_pos hb]
                                  rw [if_neg hz]
                                  refine rdO_b (hr31) ?_
                                  try dsimp only
                                  refine rdO_b (hr32) ?_
                                  try dsimp only
                                  refine rdO_b ((pa_ex_t c215).trans hr33) ?_
                                  try dsimp only
                                  refine rdO_b (hr34) ?_
                                  try dsimp only
                                  first | exact rdO_F ((pa_ex_f c240)) ⟨by decide, by decide, by omega, by omega⟩ rfl | exact rdO_bl ((pa_ex_f c240)) (rdO_F ((pa_ex_f c240)) ⟨by decide, by decide, by omega, by omega⟩ rfl)
                          · refine tv_b (pc' := 223) (ls' := [some (.ref 57), some (.int (nI o)), some (.int (nI (pa_tk tx T p))), none]) (st' := [.int 0, .ref 57]) (h' := (n, sl, wKK kk, (rdI I (nI (pa_sk tx T p32)) (nI (pa_ed tx T p32)) (nI (pa_tk tx T p32)) m32 0 (-1) (nI (ce + cs30.length + cs31.length + cs32.length)) (pa_wr (pa_wr (pa_wr cd ce cs30) (ce + cs30.length) cs31) (ce + cs30.length + cs31.length) cs32)), L, wQQ q)) 1 rfl ?_
                            refine tv_cvE [.int 0] [] rfl rfl (by omega) rfl (Nat.le_of_ble_eq_true rfl) (Nat.le_of_ble_eq_true rfl) (Or.inr (Or.inr rfl)) (ev_r_ex0) ?_
                            refine tv_b (pc' := 229) (ls' := [some (.ref 57), some (.int (nI o)), some (.int (nI (pa_tk tx T p))), none]) (st' := [.int 1, .int (nI o), .ref 57]) (h' := (n, sl, wKK kk, (rdI I (nI (pa_sk tx T p32)) (nI (pa_ed tx T p32)) 39 m32 1 (nI (pa_sk tx T p32)) (nI (ce + cs30.length + cs31.length + cs32.length)) (pa_wr (pa_wr (pa_wr cd ce cs30) (ce + cs30.length) cs31) (ce + cs30.length + cs31.length) cs32)), L, wQQ q)) 3 rfl ?_
                            refine tv_b (pc' := 230) (ls' := [some (.ref 57), some (.int (nI o)), some (.int (nI (pa_tk tx T p))), none]) (st' := [.int ((nI o) + 1), .ref 57]) (h' := (n, sl, wKK kk, (rdI I (nI (pa_sk tx T p32)) (nI (pa_ed tx T p32)) 39 m32 1 (nI (pa_sk tx T p32)) (nI (ce + cs30.length + cs31.length + cs32.length)) (pa_wr (pa_wr (pa_wr cd ce cs30) (ce + cs30.length) cs31) (ce + cs30.length + cs31.length) cs32)), L, wQQ q)) 1 rfl ?_
                            refine tv_top (show (nI o) + 1 = nI (o + 1) from nI_add o 1) ?_
                            refine tv_cvE [.int (nI (o + 1))] [] rfl rfl (by omega) rfl (Nat.le_of_ble_eq_true rfl) (Nat.le_of_ble_eq_true rfl) (Or.inr (Or.inr rfl)) (ev_r_sumF (by decide)) ?_
                            refine tv_b (pc' := 248) (ls' := [some (.ref 57), some (.int (nI o)), some (.int (nI (pa_tk tx T p))), none]) (st' := [.int 0, .ref 57]) (h' := (n, sl, wKK kk, (rdI I (nI (pa_sk tx T p32)) (nI (pa_ed tx T p32)) 39 m32 1 (nI (pa_sk tx T p32)) (nI (ce + cs30.length + cs31.length + cs32.length)) (pa_wr (pa_wr (pa_wr cd ce cs30) (ce + cs30.length) cs31) (ce + cs30.length + cs31.length) cs32)), L, wQQ q)) 6 rfl ?_
                            refine tv_cvE [.int 0] [] rfl rfl (by omega) rfl (Nat.le_of_ble_eq_true rfl) (Nat.le_of_ble_eq_true rfl) (Or.inr (Or.inr rfl)) (ev_r_expectF0 (by decide)) ?_
                            refine tv_b (pc' := 253) (ls' := [some (.ref 57), some (.int (nI o)), some (.int (nI (pa_tk tx T p))), none]) (st' := [.int (nI (pa_tk tx T p)), .ref 57]) (h' := (n, sl, wKK kk, (rdI I (nI (pa_sk tx T p32)) (nI (pa_ed tx T p32)) 39 m32 1 (nI (pa_sk tx T p32)) (nI (ce + cs30.length + cs31.length + cs32.length)) (pa_wr (pa_wr (pa_wr cd ce cs30) (ce + cs30.length) cs31) (ce + cs30.length + cs31.length) cs32)), L, wQQ q)) 2 rfl ?_
                            refine tv_cvE [.int (nI (pa_tk tx T p))] [] rfl rfl (by omega) rfl (Nat.le_of_ble_eq_true rfl) (Nat.le_of_ble_eq_true rfl) (Or.inr (Or.inr rfl)) (ev_r_emitF (by decide)) ?_
                            refine tv_b (pc' := 268) (ls' := [some (.ref 57), some (.int (nI o)), some (.int (nI (pa_tk tx T p))), none]) (st' := []) (h' := (n, sl, wKK kk, (rdI I (nI (pa_sk tx T p32)) (nI (pa_ed tx T p32)) 39 m32 1 (nI (pa_sk tx T p32)) (nI (ce + cs30.length + cs31.length + cs32.length)) (pa_wr (pa_wr (pa_wr cd ce cs30) (ce + cs30.length) cs31) (ce + cs30.length + cs31.length) cs32)), L, wQQ q)) 1 rfl ?_
                            refine tv_rv rfl ⟨rfl, _, rfl, ?_, hlast⟩
                            unfold pa_part
                            try dsimp only
                            rw [if_neg (by omega), if_neg (by omega), if_neg (by omega), if_neg (by omega), if_pos (by omega)]
                            refine rdO_b (hr30) ?_
                            try dsimp only
                            rw [if_pos hb]
                            rw [if_neg hz]
                            refine rdO_b (hr31) ?_
                            try dsimp only
                            refine rdO_b (hr32) ?_
                            try dsimp only
                            first | exact rdO_F ((pa_ex_f c215)) ⟨by decide, by decide, by omega, by omega⟩ rfl | exact rdO_bl ((pa_ex_f c215)) (rdO_F ((pa_ex_f c215)) ⟨by decide, by decide, by omega, by omega⟩ rfl)
                    · refine tv_b (pc' := 195) (ls' := [some (.ref 57), some (.int (nI o)), some (.int (nI (pa_tk tx T p))), none]) (st' := [.int (nI o), .int 32, .ref 57]) (h' := (n, sl, wKK kk, (rdI I (nI (pa_sk tx T p30)) (nI (pa_ed tx T p30)) (nI (pa_tk tx T p30)) m30 0 (-1) (nI (ce + cs30.length)) (pa_wr cd ce cs30)), L, wQQ q)) 3 rfl ?_
                      refine tv_cvE [.int 32, .int (nI o)] [] rfl rfl (by omega) rfl (Nat.le_of_ble_eq_true rfl) (Nat.le_of_ble_eq_true rfl) (Or.inr (Or.inr rfl)) (ev_r_op1_32 hb (by omega)) ?_
                      refine tv_b (pc' := 268) (ls' := [some (.ref 57), some (.int (nI o)), some (.int (nI (pa_tk tx T p))), none]) (st' := []) (h' := (n, sl, wKK kk, (rdI I (nI (pa_sk tx T p30)) (nI (pa_ed tx T p30)) 39 m30 1 (nI (pa_sk tx T p30)) (nI (ce + cs30.length)) (pa_wr cd ce cs30)), L, wQQ q)) 1 rfl ?_
                      refine tv_rv rfl ⟨rfl, _, rfl, ?_, hlast⟩
                      unfold pa_part
                      try dsimp only
                      rw [if_neg (by omega), if_neg (by omega), if_neg (by omega), if_neg (by omega), if_pos (by omega)]
                      refine rdO_b (hr30) ?_
                      try dsimp only
                      rw [if_neg hb]
                      first | exact rdO_F (rfl) ⟨by decide, by decide, by omega, by omega⟩ rfl | exact rdO_bl (rfl) (rdO_F (rfl) ⟨by decide, by decide, by omega, by omega⟩ rfl)
                · refine tv_b (pc' := 265) (ls' := [some (.ref 57), some (.int (nI o)), some (.int (nI (pa_tk tx T p))), none]) (st' := [.int (nI (pa_sk tx T p)), .int 1, .ref 57]) (h' := (n, sl, wKK kk, (rdI I (nI (pa_sk tx T p)) (nI (pa_ed tx T p)) (nI (pa_tk tx T p)) nm 0 (-1) (nI ce) cd), L, wQQ q)) 4 rfl ?_
                  refine tv_cvE [.int 1, .int (nI (pa_sk tx T p))] [] rfl rfl (by omega) rfl (Nat.le_of_ble_eq_true rfl) (Nat.le_of_ble_eq_true rfl) (Or.inr (Or.inr rfl)) (ev_r_fail0) ?_
                  refine tv_rv rfl ⟨rfl, _, rfl, ?_, hlast⟩
                  unfold pa_part
                  try dsimp only
                  rw [if_neg (by omega), if_neg (by omega), if_neg (by omega), if_neg (by omega), if_neg (by omega)]
                  first | exact rdO_F (rfl) ⟨by decide, by decide, by omega, by omega⟩ rfl | exact rdO_bl (rfl) (rdO_F (rfl) ⟨by decide, by decide, by omega, by omega⟩ rfl)
        · refine tv_b (pc' := 46) (ls' := [some (.ref 57), some (.int (nI o)), some (.int (nI (pa_tk tx T p))), none]) (st' := [.int (nI (pa_tk tx T p)), .ref 57]) (h' := (n, sl, wKK kk, (rdI I (nI (pa_sk tx T p)) (nI (pa_ed tx T p)) (nI (pa_tk tx T p)) nm 0 (-1) (nI ce) cd), L, wQQ q)) 2 rfl ?_
          refine tv_cvE [.int (nI (pa_tk tx T p))] [] rfl rfl (by omega) rfl (Nat.le_of_ble_eq_true rfl) (Nat.le_of_ble_eq_true rfl) (Or.inr (Or.inr rfl)) (ev_r_emit (by omega)) ?_
          refine tv_b (pc' := 50) (ls' := [some (.ref 57), some (.int (nI o)), some (.int (nI (pa_tk tx T p))), none]) (st' := [.ref 57]) (h' := (n, sl, wKK kk, (rdI I (nI (pa_sk tx T p)) (nI (pa_ed tx T p)) (nI (pa_tk tx T p)) nm 0 (-1) (nI (ce + 1)) (upd cd ce (nI (pa_tk tx T p)))), L, wQQ q)) 1 rfl ?_
          refine tv_cv [] [] rfl rfl (by omega) rfl (Nat.le_of_ble_eq_true rfl) (Nat.le_of_ble_eq_true rfl) (Or.inr (Or.inr rfl)) (tv_r_nx hH hW (by omega) (by omega)) ?_
          rintro rv9 h9 ⟨rfl, I9, rfl, ho, hlx⟩
          rcases rdO_c ho with ⟨k36, l36, s36, a36, m36, c36, d36, hr36, hk36, rfl⟩ | ⟨p36, cs36, m36, hr36, hp36, hn36, rfl⟩
          · refine tv_b (pc' := 268) (ls' := [some (.ref 57), some (.int (nI o)), some (.int (nI (pa_tk tx T p))), none]) (st' := []) (h' := (n, sl, wKK kk, (rdI I (nI s36) (nI a36) 39 m36 (nI k36) (nI l36) (nI c36) d36), L, wQQ q)) 1 rfl ?_
            refine tv_rv rfl ⟨rfl, _, rfl, ?_, hlast⟩
            unfold pa_part
            try dsimp only
            rw [if_neg (by omega), if_pos (by omega)]
            first | exact rdO_bl (hr36) (rdO_F (hr36) hk36 rfl) | exact rdO_F (hr36) hk36 rfl
          · have ht36 := pa_tk_lt (b := tx) (n := T) p36
            have hg36 := pa_edo (tx := tx) (T := T) p36
            obtain ⟨hl36, hv36⟩ := hlx _ _ hr36
            have hj36 := pa_ed_le (b := tx) (n := T) (p := p36) hp36.1
            obtain ⟨hq36, hz36⟩ := pa_nx_r hr36
            have hy36 : cs36.length = 0 := by rw [hz36]; rfl
            refine tv_b (pc' := 268) (ls' := [some (.ref 57), some (.int (nI o)), some (.int (nI (pa_tk tx T p))), none]) (st' := []) (h' := (n, sl, wKK kk, (rdI I (nI (pa_sk tx T p36)) (nI (pa_ed tx T p36)) (nI (pa_tk tx T p36)) m36 0 (-1) (nI (ce + 1 + cs36.length)) (pa_wr (upd cd ce (nI (pa_tk tx T p))) (ce + 1) cs36)), L, wQQ q)) 1 rfl ?_
            subst hz36
            refine tv_rv rfl ⟨rfl, _, rfl, ?_, hlast⟩
            unfold pa_part
            try dsimp only
            rw [if_neg (by omega), if_pos (by omega)]
            refine rdO_b hr36 ?_
            exact rdO_N (cs := [_]) rfl ⟨by omega, by simp only [List.length_cons, List.length_nil]; omega⟩ hn36 rfl
