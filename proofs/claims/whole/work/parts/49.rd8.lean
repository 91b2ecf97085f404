/-! THE CLASS'S READER: loops over operators, comparisons, facts, tests -/
theorem pa_lp_no {tx : Nat → Nat} {T : Nat} {op : Nat → Bool} {q : Nat → pa_E} {f p : Nat} (h : op (pa_tk tx T p) = false) : pa_lp tx T op q f p = .inr (p, []) := by
  cases f with
  | zero => rfl
  | succ f =>
    show cond (op (pa_tk tx T p)) _ _ = _
    rw [h]
    rfl
theorem pa_lp_yes {tx : Nat → Nat} {T : Nat} {op : Nat → Bool} {q : Nat → pa_E} {f p : Nat} (h : op (pa_tk tx T p) = true) : pa_lp tx T op q (f + 1) p = pa_bnd (pa_nx tx T p) (fun p1 => pa_bnd (q p1) (fun p2 => pa_bnd (pa_em (pa_tk tx T p) p2) (pa_lp tx T op q f))) := by
  show cond (op (pa_tk tx T p)) _ _ = _
  rw [h]
  rfl
set_option maxHeartbeats 4000000 in
theorem tv_r_product {n sl : Nat} {kk : Nat → Nat × Nat} {I : Nat → Nat → Int32} {L : Nat → Nat → Int64} {q : Nat → Nat → Option Nat} {tx : Nat → Nat} {T G : Nat} {o dp : Nat} {q1 : Nat → pa_E} (hH : rdG tx T G I) (hdp : 5 ≤ dp) (hI : rdC tx T G n sl kk I L q 77 4 dp o q1) (hlq : ∀ p p' cs, q1 p = .inr (p', cs) → pa_lf tx T p' = none ∧ p + cs.length ≤ p') : rdC tx T G n sl kk I L q 76 4 (dp + 1) o (fun p => pa_bnd (q1 p) (pa_lp tx T pa_isM q1 800)) := by
  intro d p ce cd nm gn hd hp hce hnm hl0
  obtain ⟨d, rfl⟩ : ∃ e, d = e + 6 := ⟨d - 6, by omega⟩
  have hT := hH.2.1
  have hlast : ∀ p' cs, pa_bnd (q1 p) (pa_lp tx T pa_isM q1 800) = .inr (p', cs) → pa_lf tx T p' = none ∧ p + cs.length ≤ p' := fun p' cs h => pa_row_lf rfl hlq h
  have loop : ∀ (f i p ce : Nat) (cd : Nat → Int32) (nm gn : Int32) (o3 : Option Value) , i + f = 800 → p ≤ T → ce ≤ p → rdQ tx T G p nm gn → pa_lf tx T p = none → am_T (d + 6) 76 7 [some (.ref 57), some (.int (nI o)), some (.int (nI i)), o3] [] (n, sl, wKK kk, rdT tx T I p nm gn ce cd, L, wQQ q) (fun rv h' => rv = none ∧ ∃ I', h' = (n, sl, wKK kk, I', L, wQQ q) ∧ rdO tx T G (pa_lp tx T pa_isM q1 f p) ce cd I I') := by
    intro f
    induction f with
    | zero =>
      intro i p ce cd nm gn o3 hi hp hce hnm hl0
      show am_T _ _ _ [some (.ref 57), some (.int (nI o)), some (.int (nI i)), o3] _ (n, sl, wKK kk, (rdI I (nI (pa_sk tx T p)) (nI (pa_sk tx T p)) (nI (pa_tk tx T p)) nm gn 0 (-1) (nI ce) cd), L, wQQ q) _
      refine tv_b (pc' := (if 800 ≤ (nI i) then 57 else 14)) (ls' := [some (.ref 57), some (.int (nI o)), some (.int (nI i)), o3]) (st' := []) (h' := (n, sl, wKK kk, (rdI I (nI (pa_sk tx T p)) (nI (pa_sk tx T p)) (nI (pa_tk tx T p)) nm gn 0 (-1) (nI ce) cd), L, wQQ q)) 3 rfl ?_
      refine tv_t ((nI_leI (a := 800) (b := i) (by omega) (by omega)).mpr (by omega)) ?_
      exact tv_rv rfl ⟨rfl, _, rfl, rdO_N (cs := []) rfl ⟨hp, hce⟩ hnm rfl⟩
    | succ f ih =>
      intro i p ce cd nm gn o3 hi hp hce hnm hl0
      have ht0 := pa_tk_lt (b := tx) (n := T) p
      have hg0 := pa_edo (tx := tx) (T := T) p
      have hj0 := pa_ed_le (b := tx) (n := T) (p := p) hp
      show am_T _ _ _ [some (.ref 57), some (.int (nI o)), some (.int (nI i)), o3] _ (n, sl, wKK kk, (rdI I (nI (pa_sk tx T p)) (nI (pa_sk tx T p)) (nI (pa_tk tx T p)) nm gn 0 (-1) (nI ce) cd), L, wQQ q) _
      refine tv_b (pc' := (if 800 ≤ (nI i) then 57 else 14)) (ls' := [some (.ref 57), some (.int (nI o)), some (.int (nI i)), o3]) (st' := []) (h' := (n, sl, wKK kk, (rdI I (nI (pa_sk tx T p)) (nI (pa_sk tx T p)) (nI (pa_tk tx T p)) nm gn 0 (-1) (nI ce) cd), L, wQQ q)) 3 rfl ?_
      refine tv_f (fun hq => absurd ((nI_leI (a := 800) (b := i) (by omega) (by omega)).mp hq) (by omega)) ?_
      refine tv_b (pc' := (if (nI (pa_tk tx T p)) = 24 then 32 else 23)) (ls' := [some (.ref 57), some (.int (nI o)), some (.int (nI i)), o3]) (st' := []) (h' := (n, sl, wKK kk, (rdI I (nI (pa_sk tx T p)) (nI (pa_sk tx T p)) (nI (pa_tk tx T p)) nm gn 0 (-1) (nI ce) cd), L, wQQ q)) 4 rfl ?_
      refine tv_ifq (nI_eq (a := (pa_tk tx T p)) (b := 24) (by omega) (by omega)) (fun c20 => ?_) (fun c20 => ?_)
      · refine tv_b (pc' := 38) (ls' := [some (.ref 57), some (.int (nI o)), some (.int (nI i)), some (.int (nI (pa_tk tx T p)))]) (st' := [.ref 57]) (h' := (n, sl, wKK kk, (rdI I (nI (pa_sk tx T p)) (nI (pa_sk tx T p)) (nI (pa_tk tx T p)) nm gn 0 (-1) (nI ce) cd), L, wQQ q)) 4 rfl ?_
        refine tv_cv [] [] rfl rfl (by omega) rfl (Nat.le_of_ble_eq_true rfl) (Nat.le_of_ble_eq_true rfl) (Or.inr (Or.inr rfl)) (tv_r_nx hH (by omega) (by omega) hnm) ?_
        rintro rv9 h9 ⟨rfl, I9, rfl, ho, hlx⟩
        rcases rdO_c ho with ⟨k1, l1, s1, w1, m1, g1, f1, y1, c1, d1, hr1, hk1, hc1, rfl⟩ | ⟨p1, cs1, m1, g1, hr1, hp1, hn1, rfl⟩
        · refine tv_b (pc' := 43) (ls' := [some (.ref 57), some (.int (nI o)), some (.int (nI i)), some (.int (nI (pa_tk tx T p)))]) (st' := [.int (nI o), .ref 57]) (h' := (n, sl, wKK kk, (rdI I s1 w1 39 m1 g1 f1 y1 (nI c1) d1), L, wQQ q)) 2 rfl ?_
          refine tv_cvE [.int (nI o)] [] rfl rfl (by omega) rfl (Nat.le_of_ble_eq_true rfl) (Nat.le_of_ble_eq_true rfl) (Or.inr (Or.inr rfl)) (ev_r_partE hk1) ?_
          refine tv_b (pc' := 48) (ls' := [some (.ref 57), some (.int (nI o)), some (.int (nI i)), some (.int (nI (pa_tk tx T p)))]) (st' := [.int (nI (pa_tk tx T p)), .ref 57]) (h' := (n, sl, wKK kk, (rdI I s1 w1 39 m1 g1 (nI k1) (nI l1) (nI c1) d1), L, wQQ q)) 2 rfl ?_
          refine tv_cvE [.int (nI (pa_tk tx T p))] [] rfl rfl (by omega) rfl (Nat.le_of_ble_eq_true rfl) (Nat.le_of_ble_eq_true rfl) (Or.inr (Or.inr rfl)) (ev_r_emitF (rd_k (rd_F hk1))) ?_
          refine tv_iincN (k := i) (ls' := [some (.ref 57), some (.int (nI o)), some (.int (nI (i + 1))), some (.int (nI (pa_tk tx T p)))]) rfl rfl rfl ?_
          refine tv_b (pc' := 7) (ls' := [some (.ref 57), some (.int (nI o)), some (.int (nI (i + 1))), some (.int (nI (pa_tk tx T p)))]) (st' := []) (h' := (n, sl, wKK kk, (rdI I s1 w1 39 m1 g1 (nI k1) (nI l1) (nI c1) d1), L, wQQ q)) 1 rfl ?_
          refine tv_b (pc' := (if 800 ≤ (nI (i + 1)) then 57 else 14)) (ls' := [some (.ref 57), some (.int (nI o)), some (.int (nI (i + 1))), some (.int (nI (pa_tk tx T p)))]) (st' := []) (h' := (n, sl, wKK kk, (rdI I s1 w1 39 m1 g1 (nI k1) (nI l1) (nI c1) d1), L, wQQ q)) 3 rfl ?_
          refine tv_ifq (nI_leI (a := 800) (b := i + 1) (by omega) (by omega)) (fun c11 => ?_) (fun c11 => ?_)
          · refine tv_rv rfl ⟨rfl, _, rfl, ?_⟩
            rw [pa_lp_yes (op := pa_isM) (by rw [c20]; rfl)]
            exact rdO_bl hr1 (rdO_F hr1 ⟨(rd_F hk1), by omega⟩ rfl)
          · refine tv_b (pc' := 57) (ls' := [some (.ref 57), some (.int (nI o)), some (.int (nI (i + 1))), some (.int (nI (pa_tk tx T p)))]) (st' := []) (h' := (n, sl, wKK kk, (rdI I s1 w1 39 m1 g1 (nI k1) (nI l1) (nI c1) d1), L, wQQ q)) 8 rfl ?_
            refine tv_rv rfl ⟨rfl, _, rfl, ?_⟩
            rw [pa_lp_yes (op := pa_isM) (by rw [c20]; rfl)]
            exact rdO_bl hr1 (rdO_F hr1 ⟨(rd_F hk1), by omega⟩ rfl)
        · have ht1 := pa_tk_lt (b := tx) (n := T) p1
          have hg1 := pa_edo (tx := tx) (T := T) p1
          obtain ⟨hl1, hv1⟩ := hlx _ _ hr1
          have hj1 := pa_ed_le (b := tx) (n := T) (p := p1) hp1.1
          obtain ⟨hq1, hz1⟩ := pa_nx_r hr1
          have hy1 : cs1.length = 0 := by rw [hz1]; rfl
          refine tv_b (pc' := 43) (ls' := [some (.ref 57), some (.int (nI o)), some (.int (nI i)), some (.int (nI (pa_tk tx T p)))]) (st' := [.int (nI o), .ref 57]) (h' := (n, sl, wKK kk, (rdI I (nI (pa_sk tx T p1)) (nI (pa_sk tx T p1)) (nI (pa_tk tx T p1)) m1 g1 0 (-1) (nI (ce + cs1.length)) (pa_wr cd ce cs1)), L, wQQ q)) 2 rfl ?_
          refine tv_cv [.int (nI o)] [] rfl rfl (by omega) rfl (Nat.le_of_ble_eq_true rfl) (Nat.le_of_ble_eq_true rfl) (Or.inr (Or.inr rfl)) (hI _ p1 _ _ _ _ (by omega) (by omega) (by omega) hn1 hl1) ?_
          rintro rv9 h9 ⟨rfl, I9, rfl, ho, hlx⟩
          rcases rdO_c ho with ⟨k2, l2, s2, w2, m2, g2, f2, y2, c2, d2, hr2, hk2, hc2, rfl⟩ | ⟨p2, cs2, m2, g2, hr2, hp2, hn2, rfl⟩
          · refine tv_b (pc' := 48) (ls' := [some (.ref 57), some (.int (nI o)), some (.int (nI i)), some (.int (nI (pa_tk tx T p)))]) (st' := [.int (nI (pa_tk tx T p)), .ref 57]) (h' := (n, sl, wKK kk, (rdI I s2 w2 39 m2 g2 f2 y2 (nI c2) d2), L, wQQ q)) 2 rfl ?_
            refine tv_cv [.int (nI (pa_tk tx T p))] [] rfl rfl (by omega) rfl (Nat.le_of_ble_eq_true rfl) (Nat.le_of_ble_eq_true rfl) (Or.inr (Or.inr rfl)) (tv_r_emitE hk2 (by omega)) ?_
            rintro rv9 h9 ⟨rfl, e9, b9, hb9, rfl⟩
            refine tv_iincN (k := i) (ls' := [some (.ref 57), some (.int (nI o)), some (.int (nI (i + 1))), some (.int (nI (pa_tk tx T p)))]) rfl rfl rfl ?_
            refine tv_b (pc' := 7) (ls' := [some (.ref 57), some (.int (nI o)), some (.int (nI (i + 1))), some (.int (nI (pa_tk tx T p)))]) (st' := []) (h' := (n, sl, wKK kk, (rdI I s2 w2 39 m2 g2 f2 y2 (nI e9) b9), L, wQQ q)) 1 rfl ?_
            refine tv_b (pc' := (if 800 ≤ (nI (i + 1)) then 57 else 14)) (ls' := [some (.ref 57), some (.int (nI o)), some (.int (nI (i + 1))), some (.int (nI (pa_tk tx T p)))]) (st' := []) (h' := (n, sl, wKK kk, (rdI I s2 w2 39 m2 g2 f2 y2 (nI e9) b9), L, wQQ q)) 3 rfl ?_
            refine tv_ifq (nI_leI (a := 800) (b := i + 1) (by omega) (by omega)) (fun c11 => ?_) (fun c11 => ?_)
            · refine tv_rv rfl ⟨rfl, _, rfl, ?_⟩
              rw [pa_lp_yes (op := pa_isM) (by rw [c20]; rfl)]
              refine rdO_b hr1 ?_
              try dsimp only
              exact rdO_bl hr2 (rdO_F hr2 ⟨hk2, by omega⟩ rfl)
            · refine tv_b (pc' := 57) (ls' := [some (.ref 57), some (.int (nI o)), some (.int (nI (i + 1))), some (.int (nI (pa_tk tx T p)))]) (st' := []) (h' := (n, sl, wKK kk, (rdI I s2 w2 39 m2 g2 f2 y2 (nI e9) b9), L, wQQ q)) 8 rfl ?_
              refine tv_rv rfl ⟨rfl, _, rfl, ?_⟩
              rw [pa_lp_yes (op := pa_isM) (by rw [c20]; rfl)]
              refine rdO_b hr1 ?_
              try dsimp only
              exact rdO_bl hr2 (rdO_F hr2 ⟨hk2, by omega⟩ rfl)
          · have ht2 := pa_tk_lt (b := tx) (n := T) p2
            have hg2 := pa_edo (tx := tx) (T := T) p2
            obtain ⟨hl2, hv2⟩ := hlx _ _ hr2
            have hj2 := pa_ed_le (b := tx) (n := T) (p := p2) hp2.1
            refine tv_b (pc' := 48) (ls' := [some (.ref 57), some (.int (nI o)), some (.int (nI i)), some (.int (nI (pa_tk tx T p)))]) (st' := [.int (nI (pa_tk tx T p)), .ref 57]) (h' := (n, sl, wKK kk, (rdI I (nI (pa_sk tx T p2)) (nI (pa_sk tx T p2)) (nI (pa_tk tx T p2)) m2 g2 0 (-1) (nI (ce + cs1.length + cs2.length)) (pa_wr (pa_wr cd ce cs1) (ce + cs1.length) cs2)), L, wQQ q)) 2 rfl ?_
            refine tv_cvE [.int (nI (pa_tk tx T p))] [] rfl rfl (by omega) rfl (Nat.le_of_ble_eq_true rfl) (Nat.le_of_ble_eq_true rfl) (Or.inr (Or.inr rfl)) (ev_r_emit (by omega)) ?_
            refine tv_iincN (k := i) (ls' := [some (.ref 57), some (.int (nI o)), some (.int (nI (i + 1))), some (.int (nI (pa_tk tx T p)))]) rfl rfl rfl ?_
            refine tv_b (pc' := 7) (ls' := [some (.ref 57), some (.int (nI o)), some (.int (nI (i + 1))), some (.int (nI (pa_tk tx T p)))]) (st' := []) (h' := (n, sl, wKK kk, (rdI I (nI (pa_sk tx T p2)) (nI (pa_sk tx T p2)) (nI (pa_tk tx T p2)) m2 g2 0 (-1) (nI (ce + cs1.length + cs2.length + 1)) (upd (pa_wr (pa_wr cd ce cs1) (ce + cs1.length) cs2) (ce + cs1.length + cs2.length) (nI (pa_tk tx T p)))), L, wQQ q)) 1 rfl ?_
            refine tv_w (ih (i + 1) p2 (ce + cs1.length + cs2.length + 1) (upd (pa_wr (pa_wr cd ce cs1) (ce + cs1.length) cs2) (ce + cs1.length + cs2.length) (nI (pa_tk tx T p))) m2 g2 _ (by omega) (by omega) (by omega) hn2 hl2) ?_
            rintro rv h' ⟨rfl, I2, rfl, ho2⟩
            refine ⟨rfl, _, rfl, ?_⟩
            rw [pa_lp_yes (op := pa_isM) (by rw [c20]; rfl)]
            refine rdO_b hr1 ?_
            try dsimp only
            refine rdO_b hr2 ?_
            try dsimp only
            refine rdO_b (cs := [pa_tk tx T p]) (p := p2) rfl ?_
            exact ho2
      · refine tv_b (pc' := (if (nI (pa_tk tx T p)) = 25 then 32 else 57)) (ls' := [some (.ref 57), some (.int (nI o)), some (.int (nI i)), o3]) (st' := []) (h' := (n, sl, wKK kk, (rdI I (nI (pa_sk tx T p)) (nI (pa_sk tx T p)) (nI (pa_tk tx T p)) nm gn 0 (-1) (nI ce) cd), L, wQQ q)) 4 rfl ?_
        refine tv_ifq (nI_eq (a := (pa_tk tx T p)) (b := 25) (by omega) (by omega)) (fun c29 => ?_) (fun c29 => ?_)
        · refine tv_b (pc' := 38) (ls' := [some (.ref 57), some (.int (nI o)), some (.int (nI i)), some (.int (nI (pa_tk tx T p)))]) (st' := [.ref 57]) (h' := (n, sl, wKK kk, (rdI I (nI (pa_sk tx T p)) (nI (pa_sk tx T p)) (nI (pa_tk tx T p)) nm gn 0 (-1) (nI ce) cd), L, wQQ q)) 4 rfl ?_
          refine tv_cv [] [] rfl rfl (by omega) rfl (Nat.le_of_ble_eq_true rfl) (Nat.le_of_ble_eq_true rfl) (Or.inr (Or.inr rfl)) (tv_r_nx hH (by omega) (by omega) hnm) ?_
          rintro rv9 h9 ⟨rfl, I9, rfl, ho, hlx⟩
          rcases rdO_c ho with ⟨k3, l3, s3, w3, m3, g3, f3, y3, c3, d3, hr3, hk3, hc3, rfl⟩ | ⟨p3, cs3, m3, g3, hr3, hp3, hn3, rfl⟩
          · refine tv_b (pc' := 43) (ls' := [some (.ref 57), some (.int (nI o)), some (.int (nI i)), some (.int (nI (pa_tk tx T p)))]) (st' := [.int (nI o), .ref 57]) (h' := (n, sl, wKK kk, (rdI I s3 w3 39 m3 g3 f3 y3 (nI c3) d3), L, wQQ q)) 2 rfl ?_
            refine tv_cvE [.int (nI o)] [] rfl rfl (by omega) rfl (Nat.le_of_ble_eq_true rfl) (Nat.le_of_ble_eq_true rfl) (Or.inr (Or.inr rfl)) (ev_r_partE hk3) ?_
            refine tv_b (pc' := 48) (ls' := [some (.ref 57), some (.int (nI o)), some (.int (nI i)), some (.int (nI (pa_tk tx T p)))]) (st' := [.int (nI (pa_tk tx T p)), .ref 57]) (h' := (n, sl, wKK kk, (rdI I s3 w3 39 m3 g3 (nI k3) (nI l3) (nI c3) d3), L, wQQ q)) 2 rfl ?_
            refine tv_cvE [.int (nI (pa_tk tx T p))] [] rfl rfl (by omega) rfl (Nat.le_of_ble_eq_true rfl) (Nat.le_of_ble_eq_true rfl) (Or.inr (Or.inr rfl)) (ev_r_emitF (rd_k (rd_F hk3))) ?_
            refine tv_iincN (k := i) (ls' := [some (.ref 57), some (.int (nI o)), some (.int (nI (i + 1))), some (.int (nI (pa_tk tx T p)))]) rfl rfl rfl ?_
            refine tv_b (pc' := 7) (ls' := [some (.ref 57), some (.int (nI o)), some (.int (nI (i + 1))), some (.int (nI (pa_tk tx T p)))]) (st' := []) (h' := (n, sl, wKK kk, (rdI I s3 w3 39 m3 g3 (nI k3) (nI l3) (nI c3) d3), L, wQQ q)) 1 rfl ?_
            refine tv_b (pc' := (if 800 ≤ (nI (i + 1)) then 57 else 14)) (ls' := [some (.ref 57), some (.int (nI o)), some (.int (nI (i + 1))), some (.int (nI (pa_tk tx T p)))]) (st' := []) (h' := (n, sl, wKK kk, (rdI I s3 w3 39 m3 g3 (nI k3) (nI l3) (nI c3) d3), L, wQQ q)) 3 rfl ?_
            refine tv_ifq (nI_leI (a := 800) (b := i + 1) (by omega) (by omega)) (fun c11 => ?_) (fun c11 => ?_)
            · refine tv_rv rfl ⟨rfl, _, rfl, ?_⟩
              rw [pa_lp_yes (op := pa_isM) (by rw [c29]; rfl)]
              exact rdO_bl hr3 (rdO_F hr3 ⟨(rd_F hk3), by omega⟩ rfl)
            · refine tv_b (pc' := 57) (ls' := [some (.ref 57), some (.int (nI o)), some (.int (nI (i + 1))), some (.int (nI (pa_tk tx T p)))]) (st' := []) (h' := (n, sl, wKK kk, (rdI I s3 w3 39 m3 g3 (nI k3) (nI l3) (nI c3) d3), L, wQQ q)) 8 rfl ?_
              refine tv_rv rfl ⟨rfl, _, rfl, ?_⟩
              rw [pa_lp_yes (op := pa_isM) (by rw [c29]; rfl)]
              exact rdO_bl hr3 (rdO_F hr3 ⟨(rd_F hk3), by omega⟩ rfl)
          · have ht3 := pa_tk_lt (b := tx) (n := T) p3
            have hg3 := pa_edo (tx := tx) (T := T) p3
            obtain ⟨hl3, hv3⟩ := hlx _ _ hr3
            have hj3 := pa_ed_le (b := tx) (n := T) (p := p3) hp3.1
            obtain ⟨hq3, hz3⟩ := pa_nx_r hr3
            have hy3 : cs3.length = 0 := by rw [hz3]; rfl
            refine tv_b (pc' := 43) (ls' := [some (.ref 57), some (.int (nI o)), some (.int (nI i)), some (.int (nI (pa_tk tx T p)))]) (st' := [.int (nI o), .ref 57]) (h' := (n, sl, wKK kk, (rdI I (nI (pa_sk tx T p3)) (nI (pa_sk tx T p3)) (nI (pa_tk tx T p3)) m3 g3 0 (-1) (nI (ce + cs3.length)) (pa_wr cd ce cs3)), L, wQQ q)) 2 rfl ?_
            refine tv_cv [.int (nI o)] [] rfl rfl (by omega) rfl (Nat.le_of_ble_eq_true rfl) (Nat.le_of_ble_eq_true rfl) (Or.inr (Or.inr rfl)) (hI _ p3 _ _ _ _ (by omega) (by omega) (by omega) hn3 hl3) ?_
            rintro rv9 h9 ⟨rfl, I9, rfl, ho, hlx⟩
            rcases rdO_c ho with ⟨k4, l4, s4, w4, m4, g4, f4, y4, c4, d4, hr4, hk4, hc4, rfl⟩ | ⟨p4, cs4, m4, g4, hr4, hp4, hn4, rfl⟩
            · refine tv_b (pc' := 48) (ls' := [some (.ref 57), some (.int (nI o)), some (.int (nI i)), some (.int (nI (pa_tk tx T p)))]) (st' := [.int (nI (pa_tk tx T p)), .ref 57]) (h' := (n, sl, wKK kk, (rdI I s4 w4 39 m4 g4 f4 y4 (nI c4) d4), L, wQQ q)) 2 rfl ?_
              refine tv_cv [.int (nI (pa_tk tx T p))] [] rfl rfl (by omega) rfl (Nat.le_of_ble_eq_true rfl) (Nat.le_of_ble_eq_true rfl) (Or.inr (Or.inr rfl)) (tv_r_emitE hk4 (by omega)) ?_
              rintro rv9 h9 ⟨rfl, e10, b10, hb10, rfl⟩
              refine tv_iincN (k := i) (ls' := [some (.ref 57), some (.int (nI o)), some (.int (nI (i + 1))), some (.int (nI (pa_tk tx T p)))]) rfl rfl rfl ?_
              refine tv_b (pc' := 7) (ls' := [some (.ref 57), some (.int (nI o)), some (.int (nI (i + 1))), some (.int (nI (pa_tk tx T p)))]) (st' := []) (h' := (n, sl, wKK kk, (rdI I s4 w4 39 m4 g4 f4 y4 (nI e10) b10), L, wQQ q)) 1 rfl ?_
              refine tv_b (pc' := (if 800 ≤ (nI (i + 1)) then 57 else 14)) (ls' := [some (.ref 57), some (.int (nI o)), some (.int (nI (i + 1))), some (.int (nI (pa_tk tx T p)))]) (st' := []) (h' := (n, sl, wKK kk, (rdI I s4 w4 39 m4 g4 f4 y4 (nI e10) b10), L, wQQ q)) 3 rfl ?_
              refine tv_ifq (nI_leI (a := 800) (b := i + 1) (by omega) (by omega)) (fun c11 => ?_) (fun c11 => ?_)
              · refine tv_rv rfl ⟨rfl, _, rfl, ?_⟩
                rw [pa_lp_yes (op := pa_isM) (by rw [c29]; rfl)]
                refine rdO_b hr3 ?_
                try dsimp only
                exact rdO_bl hr4 (rdO_F hr4 ⟨hk4, by omega⟩ rfl)
              · refine tv_b (pc' := 57) (ls' := [some (.ref 57), some (.int (nI o)), some (.int (nI (i + 1))), some (.int (nI (pa_tk tx T p)))]) (st' := []) (h' := (n, sl, wKK kk, (rdI I s4 w4 39 m4 g4 f4 y4 (nI e10) b10), L, wQQ q)) 8 rfl ?_
                refine tv_rv rfl ⟨rfl, _, rfl, ?_⟩
                rw [pa_lp_yes (op := pa_isM) (by rw [c29]; rfl)]
                refine rdO_b hr3 ?_
                try dsimp only
                exact rdO_bl hr4 (rdO_F hr4 ⟨hk4, by omega⟩ rfl)
            · have ht4 := pa_tk_lt (b := tx) (n := T) p4
              have hg4 := pa_edo (tx := tx) (T := T) p4
              obtain ⟨hl4, hv4⟩ := hlx _ _ hr4
              have hj4 := pa_ed_le (b := tx) (n := T) (p := p4) hp4.1
              refine tv_b (pc' := 48) (ls' := [some (.ref 57), some (.int (nI o)), some (.int (nI i)), some (.int (nI (pa_tk tx T p)))]) (st' := [.int (nI (pa_tk tx T p)), .ref 57]) (h' := (n, sl, wKK kk, (rdI I (nI (pa_sk tx T p4)) (nI (pa_sk tx T p4)) (nI (pa_tk tx T p4)) m4 g4 0 (-1) (nI (ce + cs3.length + cs4.length)) (pa_wr (pa_wr cd ce cs3) (ce + cs3.length) cs4)), L, wQQ q)) 2 rfl ?_
              refine tv_cvE [.int (nI (pa_tk tx T p))] [] rfl rfl (by omega) rfl (Nat.le_of_ble_eq_true rfl) (Nat.le_of_ble_eq_true rfl) (Or.inr (Or.inr rfl)) (ev_r_emit (by omega)) ?_
              refine tv_iincN (k := i) (ls' := [some (.ref 57), some (.int (nI o)), some (.int (nI (i + 1))), some (.int (nI (pa_tk tx T p)))]) rfl rfl rfl ?_
              refine tv_b (pc' := 7) (ls' := [some (.ref 57), some (.int (nI o)), some (.int (nI (i + 1))), some (.int (nI (pa_tk tx T p)))]) (st' := []) (h' := (n, sl, wKK kk, (rdI I (nI (pa_sk tx T p4)) (nI (pa_sk tx T p4)) (nI (pa_tk tx T p4)) m4 g4 0 (-1) (nI (ce + cs3.length + cs4.length + 1)) (upd (pa_wr (pa_wr cd ce cs3) (ce + cs3.length) cs4) (ce + cs3.length + cs4.length) (nI (pa_tk tx T p)))), L, wQQ q)) 1 rfl ?_
              refine tv_w (ih (i + 1) p4 (ce + cs3.length + cs4.length + 1) (upd (pa_wr (pa_wr cd ce cs3) (ce + cs3.length) cs4) (ce + cs3.length + cs4.length) (nI (pa_tk tx T p))) m4 g4 _ (by omega) (by omega) (by omega) hn4 hl4) ?_
              rintro rv h' ⟨rfl, I2, rfl, ho2⟩
              refine ⟨rfl, _, rfl, ?_⟩
              rw [pa_lp_yes (op := pa_isM) (by rw [c29]; rfl)]
              refine rdO_b hr3 ?_
              try dsimp only
              refine rdO_b hr4 ?_
              try dsimp only
              refine rdO_b (cs := [pa_tk tx T p]) (p := p4) rfl ?_
              exact ho2
        · have hno : pa_isM (pa_tk tx T p) = false := by
            unfold pa_isM; rw [pa_bfalse c20, pa_bfalse c29]; rfl
          exact tv_rv rfl ⟨rfl, _, rfl, by rw [pa_lp_no hno]; exact rdO_N (cs := []) rfl ⟨hp, hce⟩ hnm rfl⟩
  have ht0 := pa_tk_lt (b := tx) (n := T) p
  have hg0 := pa_edo (tx := tx) (T := T) p
  have hj0 := pa_ed_le (b := tx) (n := T) (p := p) hp
  show am_T _ _ _ [some (.ref 57), some (.int (nI o)), none, none] _ (n, sl, wKK kk, (rdI I (nI (pa_sk tx T p)) (nI (pa_sk tx T p)) (nI (pa_tk tx T p)) nm gn 0 (-1) (nI ce) cd), L, wQQ q) _
  refine tv_b (pc' := 2) (ls' := [some (.ref 57), some (.int (nI o)), none, none]) (st' := [.int (nI o), .ref 57]) (h' := (n, sl, wKK kk, (rdI I (nI (pa_sk tx T p)) (nI (pa_sk tx T p)) (nI (pa_tk tx T p)) nm gn 0 (-1) (nI ce) cd), L, wQQ q)) 2 rfl ?_
  refine tv_cv [.int (nI o)] [] rfl rfl (by omega) rfl (Nat.le_of_ble_eq_true rfl) (Nat.le_of_ble_eq_true rfl) (Or.inr (Or.inr rfl)) (hI _ p _ _ _ _ (by omega) (by omega) (by omega) hnm hl0) ?_
  rintro rv9 h9 ⟨rfl, I9, rfl, ho, hlx⟩
  rcases rdO_c ho with ⟨k1, l1, s1, w1, m1, g1, f1, y1, c1, d1, hr1, hk1, hc1, rfl⟩ | ⟨p1, cs1, m1, g1, hr1, hp1, hn1, rfl⟩
  · refine tv_b (pc' := 7) (ls' := [some (.ref 57), some (.int (nI o)), some (.int 0), none]) (st' := []) (h' := (n, sl, wKK kk, (rdI I s1 w1 39 m1 g1 f1 y1 (nI c1) d1), L, wQQ q)) 2 rfl ?_
    refine tv_b (pc' := 57) (ls' := [some (.ref 57), some (.int (nI o)), some (.int 0), none]) (st' := []) (h' := (n, sl, wKK kk, (rdI I s1 w1 39 m1 g1 f1 y1 (nI c1) d1), L, wQQ q)) 11 rfl ?_
    exact tv_rv rfl ⟨rfl, _, rfl, rdO_bl hr1 (rdO_F hr1 ⟨hk1, by omega⟩ rfl), hlast⟩
  · have ht1 := pa_tk_lt (b := tx) (n := T) p1
    have hg1 := pa_edo (tx := tx) (T := T) p1
    obtain ⟨hl1, hv1⟩ := hlx _ _ hr1
    have hj1 := pa_ed_le (b := tx) (n := T) (p := p1) hp1.1
    refine tv_b (pc' := 7) (ls' := [some (.ref 57), some (.int (nI o)), some (.int 0), none]) (st' := []) (h' := (n, sl, wKK kk, (rdI I (nI (pa_sk tx T p1)) (nI (pa_sk tx T p1)) (nI (pa_tk tx T p1)) m1 g1 0 (-1) (nI (ce + cs1.length)) (pa_wr cd ce cs1)), L, wQQ q)) 2 rfl ?_
    refine tv_w (loop 800 0 p1 (ce + cs1.length) (pa_wr cd ce cs1) m1 g1 _ (by omega) (by omega) (by omega) hn1 hl1) ?_
    rintro rv h' ⟨rfl, I2, rfl, ho2⟩
    exact ⟨rfl, _, rfl, rdO_b hr1 ho2, hlast⟩
set_option maxHeartbeats 4000000 in
theorem tv_r_sum {n sl : Nat} {kk : Nat → Nat × Nat} {I : Nat → Nat → Int32} {L : Nat → Nat → Int64} {q : Nat → Nat → Option Nat} {tx : Nat → Nat} {T G : Nat} {o dp : Nat} {q1 : Nat → pa_E} (hH : rdG tx T G I) (hdp : 6 ≤ dp) (hI : rdC tx T G n sl kk I L q 76 4 dp o q1) (hlq : ∀ p p' cs, q1 p = .inr (p', cs) → pa_lf tx T p' = none ∧ p + cs.length ≤ p') : rdC tx T G n sl kk I L q 75 4 (dp + 1) o (fun p => pa_bnd (q1 p) (pa_lp tx T pa_isA q1 800)) := by
  intro d p ce cd nm gn hd hp hce hnm hl0
  obtain ⟨d, rfl⟩ : ∃ e, d = e + 7 := ⟨d - 7, by omega⟩
  have hT := hH.2.1
  have hlast : ∀ p' cs, pa_bnd (q1 p) (pa_lp tx T pa_isA q1 800) = .inr (p', cs) → pa_lf tx T p' = none ∧ p + cs.length ≤ p' := fun p' cs h => pa_row_lf rfl hlq h
  have loop : ∀ (f i p ce : Nat) (cd : Nat → Int32) (nm gn : Int32) (o3 : Option Value) , i + f = 800 → p ≤ T → ce ≤ p → rdQ tx T G p nm gn → pa_lf tx T p = none → am_T (d + 7) 75 7 [some (.ref 57), some (.int (nI o)), some (.int (nI i)), o3] [] (n, sl, wKK kk, rdT tx T I p nm gn ce cd, L, wQQ q) (fun rv h' => rv = none ∧ ∃ I', h' = (n, sl, wKK kk, I', L, wQQ q) ∧ rdO tx T G (pa_lp tx T pa_isA q1 f p) ce cd I I') := by
    intro f
    induction f with
    | zero =>
      intro i p ce cd nm gn o3 hi hp hce hnm hl0
      show am_T _ _ _ [some (.ref 57), some (.int (nI o)), some (.int (nI i)), o3] _ (n, sl, wKK kk, (rdI I (nI (pa_sk tx T p)) (nI (pa_sk tx T p)) (nI (pa_tk tx T p)) nm gn 0 (-1) (nI ce) cd), L, wQQ q) _
      refine tv_b (pc' := (if 800 ≤ (nI i) then 57 else 14)) (ls' := [some (.ref 57), some (.int (nI o)), some (.int (nI i)), o3]) (st' := []) (h' := (n, sl, wKK kk, (rdI I (nI (pa_sk tx T p)) (nI (pa_sk tx T p)) (nI (pa_tk tx T p)) nm gn 0 (-1) (nI ce) cd), L, wQQ q)) 3 rfl ?_
      refine tv_t ((nI_leI (a := 800) (b := i) (by omega) (by omega)).mpr (by omega)) ?_
      exact tv_rv rfl ⟨rfl, _, rfl, rdO_N (cs := []) rfl ⟨hp, hce⟩ hnm rfl⟩
    | succ f ih =>
      intro i p ce cd nm gn o3 hi hp hce hnm hl0
      have ht0 := pa_tk_lt (b := tx) (n := T) p
      have hg0 := pa_edo (tx := tx) (T := T) p
      have hj0 := pa_ed_le (b := tx) (n := T) (p := p) hp
      show am_T _ _ _ [some (.ref 57), some (.int (nI o)), some (.int (nI i)), o3] _ (n, sl, wKK kk, (rdI I (nI (pa_sk tx T p)) (nI (pa_sk tx T p)) (nI (pa_tk tx T p)) nm gn 0 (-1) (nI ce) cd), L, wQQ q) _
      refine tv_b (pc' := (if 800 ≤ (nI i) then 57 else 14)) (ls' := [some (.ref 57), some (.int (nI o)), some (.int (nI i)), o3]) (st' := []) (h' := (n, sl, wKK kk, (rdI I (nI (pa_sk tx T p)) (nI (pa_sk tx T p)) (nI (pa_tk tx T p)) nm gn 0 (-1) (nI ce) cd), L, wQQ q)) 3 rfl ?_
      refine tv_f (fun hq => absurd ((nI_leI (a := 800) (b := i) (by omega) (by omega)).mp hq) (by omega)) ?_
      refine tv_b (pc' := (if (nI (pa_tk tx T p)) = 22 then 32 else 23)) (ls' := [some (.ref 57), some (.int (nI o)), some (.int (nI i)), o3]) (st' := []) (h' := (n, sl, wKK kk, (rdI I (nI (pa_sk tx T p)) (nI (pa_sk tx T p)) (nI (pa_tk tx T p)) nm gn 0 (-1) (nI ce) cd), L, wQQ q)) 4 rfl ?_
      refine tv_ifq (nI_eq (a := (pa_tk tx T p)) (b := 22) (by omega) (by omega)) (fun c20 => ?_) (fun c20 => ?_)
      · refine tv_b (pc' := 38) (ls' := [some (.ref 57), some (.int (nI o)), some (.int (nI i)), some (.int (nI (pa_tk tx T p)))]) (st' := [.ref 57]) (h' := (n, sl, wKK kk, (rdI I (nI (pa_sk tx T p)) (nI (pa_sk tx T p)) (nI (pa_tk tx T p)) nm gn 0 (-1) (nI ce) cd), L, wQQ q)) 4 rfl ?_
        refine tv_cv [] [] rfl rfl (by omega) rfl (Nat.le_of_ble_eq_true rfl) (Nat.le_of_ble_eq_true rfl) (Or.inr (Or.inr rfl)) (tv_r_nx hH (by omega) (by omega) hnm) ?_
        rintro rv9 h9 ⟨rfl, I9, rfl, ho, hlx⟩
        rcases rdO_c ho with ⟨k1, l1, s1, w1, m1, g1, f1, y1, c1, d1, hr1, hk1, hc1, rfl⟩ | ⟨p1, cs1, m1, g1, hr1, hp1, hn1, rfl⟩
        · refine tv_b (pc' := 43) (ls' := [some (.ref 57), some (.int (nI o)), some (.int (nI i)), some (.int (nI (pa_tk tx T p)))]) (st' := [.int (nI o), .ref 57]) (h' := (n, sl, wKK kk, (rdI I s1 w1 39 m1 g1 f1 y1 (nI c1) d1), L, wQQ q)) 2 rfl ?_
          refine tv_cvE [.int (nI o)] [] rfl rfl (by omega) rfl (Nat.le_of_ble_eq_true rfl) (Nat.le_of_ble_eq_true rfl) (Or.inr (Or.inr rfl)) (ev_r_productE hk1) ?_
          refine tv_b (pc' := 48) (ls' := [some (.ref 57), some (.int (nI o)), some (.int (nI i)), some (.int (nI (pa_tk tx T p)))]) (st' := [.int (nI (pa_tk tx T p)), .ref 57]) (h' := (n, sl, wKK kk, (rdI I s1 w1 39 m1 g1 (nI k1) (nI l1) (nI c1) d1), L, wQQ q)) 2 rfl ?_
          refine tv_cvE [.int (nI (pa_tk tx T p))] [] rfl rfl (by omega) rfl (Nat.le_of_ble_eq_true rfl) (Nat.le_of_ble_eq_true rfl) (Or.inr (Or.inr rfl)) (ev_r_emitF (rd_k (rd_F hk1))) ?_
          refine tv_iincN (k := i) (ls' := [some (.ref 57), some (.int (nI o)), some (.int (nI (i + 1))), some (.int (nI (pa_tk tx T p)))]) rfl rfl rfl ?_
          refine tv_b (pc' := 7) (ls' := [some (.ref 57), some (.int (nI o)), some (.int (nI (i + 1))), some (.int (nI (pa_tk tx T p)))]) (st' := []) (h' := (n, sl, wKK kk, (rdI I s1 w1 39 m1 g1 (nI k1) (nI l1) (nI c1) d1), L, wQQ q)) 1 rfl ?_
          refine tv_b (pc' := (if 800 ≤ (nI (i + 1)) then 57 else 14)) (ls' := [some (.ref 57), some (.int (nI o)), some (.int (nI (i + 1))), some (.int (nI (pa_tk tx T p)))]) (st' := []) (h' := (n, sl, wKK kk, (rdI I s1 w1 39 m1 g1 (nI k1) (nI l1) (nI c1) d1), L, wQQ q)) 3 rfl ?_
          refine tv_ifq (nI_leI (a := 800) (b := i + 1) (by omega) (by omega)) (fun c11 => ?_) (fun c11 => ?_)
          · refine tv_rv rfl ⟨rfl, _, rfl, ?_⟩
            rw [pa_lp_yes (op := pa_isA) (by rw [c20]; rfl)]
            exact rdO_bl hr1 (rdO_F hr1 ⟨(rd_F hk1), by omega⟩ rfl)
          · refine tv_b (pc' := 57) (ls' := [some (.ref 57), some (.int (nI o)), some (.int (nI (i + 1))), some (.int (nI (pa_tk tx T p)))]) (st' := []) (h' := (n, sl, wKK kk, (rdI I s1 w1 39 m1 g1 (nI k1) (nI l1) (nI c1) d1), L, wQQ q)) 8 rfl ?_
            refine tv_rv rfl ⟨rfl, _, rfl, ?_⟩
            rw [pa_lp_yes (op := pa_isA) (by rw [c20]; rfl)]
            exact rdO_bl hr1 (rdO_F hr1 ⟨(rd_F hk1), by omega⟩ rfl)
        · have ht1 := pa_tk_lt (b := tx) (n := T) p1
          have hg1 := pa_edo (tx := tx) (T := T) p1
          obtain ⟨hl1, hv1⟩ := hlx _ _ hr1
          have hj1 := pa_ed_le (b := tx) (n := T) (p := p1) hp1.1
          obtain ⟨hq1, hz1⟩ := pa_nx_r hr1
          have hy1 : cs1.length = 0 := by rw [hz1]; rfl
          refine tv_b (pc' := 43) (ls' := [some (.ref 57), some (.int (nI o)), some (.int (nI i)), some (.int (nI (pa_tk tx T p)))]) (st' := [.int (nI o), .ref 57]) (h' := (n, sl, wKK kk, (rdI I (nI (pa_sk tx T p1)) (nI (pa_sk tx T p1)) (nI (pa_tk tx T p1)) m1 g1 0 (-1) (nI (ce + cs1.length)) (pa_wr cd ce cs1)), L, wQQ q)) 2 rfl ?_
          refine tv_cv [.int (nI o)] [] rfl rfl (by omega) rfl (Nat.le_of_ble_eq_true rfl) (Nat.le_of_ble_eq_true rfl) (Or.inr (Or.inr rfl)) (hI _ p1 _ _ _ _ (by omega) (by omega) (by omega) hn1 hl1) ?_
          rintro rv9 h9 ⟨rfl, I9, rfl, ho, hlx⟩
          rcases rdO_c ho with ⟨k2, l2, s2, w2, m2, g2, f2, y2, c2, d2, hr2, hk2, hc2, rfl⟩ | ⟨p2, cs2, m2, g2, hr2, hp2, hn2, rfl⟩
          · refine tv_b (pc' := 48) (ls' := [some (.ref 57), some (.int (nI o)), some (.int (nI i)), some (.int (nI (pa_tk tx T p)))]) (st' := [.int (nI (pa_tk tx T p)), .ref 57]) (h' := (n, sl, wKK kk, (rdI I s2 w2 39 m2 g2 f2 y2 (nI c2) d2), L, wQQ q)) 2 rfl ?_
            refine tv_cv [.int (nI (pa_tk tx T p))] [] rfl rfl (by omega) rfl (Nat.le_of_ble_eq_true rfl) (Nat.le_of_ble_eq_true rfl) (Or.inr (Or.inr rfl)) (tv_r_emitE hk2 (by omega)) ?_
            rintro rv9 h9 ⟨rfl, e11, b11, hb11, rfl⟩
            refine tv_iincN (k := i) (ls' := [some (.ref 57), some (.int (nI o)), some (.int (nI (i + 1))), some (.int (nI (pa_tk tx T p)))]) rfl rfl rfl ?_
            refine tv_b (pc' := 7) (ls' := [some (.ref 57), some (.int (nI o)), some (.int (nI (i + 1))), some (.int (nI (pa_tk tx T p)))]) (st' := []) (h' := (n, sl, wKK kk, (rdI I s2 w2 39 m2 g2 f2 y2 (nI e11) b11), L, wQQ q)) 1 rfl ?_
            refine tv_b (pc' := (if 800 ≤ (nI (i + 1)) then 57 else 14)) (ls' := [some (.ref 57), some (.int (nI o)), some (.int (nI (i + 1))), some (.int (nI (pa_tk tx T p)))]) (st' := []) (h' := (n, sl, wKK kk, (rdI I s2 w2 39 m2 g2 f2 y2 (nI e11) b11), L, wQQ q)) 3 rfl ?_
            refine tv_ifq (nI_leI (a := 800) (b := i + 1) (by omega) (by omega)) (fun c11 => ?_) (fun c11 => ?_)
            · refine tv_rv rfl ⟨rfl, _, rfl, ?_⟩
              rw [pa_lp_yes (op := pa_isA) (by rw [c20]; rfl)]
              refine rdO_b hr1 ?_
              try dsimp only
              exact rdO_bl hr2 (rdO_F hr2 ⟨hk2, by omega⟩ rfl)
            · refine tv_b (pc' := 57) (ls' := [some (.ref 57), some (.int (nI o)), some (.int (nI (i + 1))), some (.int (nI (pa_tk tx T p)))]) (st' := []) (h' := (n, sl, wKK kk, (rdI I s2 w2 39 m2 g2 f2 y2 (nI e11) b11), L, wQQ q)) 8 rfl ?_
              refine tv_rv rfl ⟨rfl, _, rfl, ?_⟩
              rw [pa_lp_yes (op := pa_isA) (by rw [c20]; rfl)]
              refine rdO_b hr1 ?_
              try dsimp only
              exact rdO_bl hr2 (rdO_F hr2 ⟨hk2, by omega⟩ rfl)
          · have ht2 := pa_tk_lt (b := tx) (n := T) p2
            have hg2 := pa_edo (tx := tx) (T := T) p2
            obtain ⟨hl2, hv2⟩ := hlx _ _ hr2
            have hj2 := pa_ed_le (b := tx) (n := T) (p := p2) hp2.1
            refine tv_b (pc' := 48) (ls' := [some (.ref 57), some (.int (nI o)), some (.int (nI i)), some (.int (nI (pa_tk tx T p)))]) (st' := [.int (nI (pa_tk tx T p)), .ref 57]) (h' := (n, sl, wKK kk, (rdI I (nI (pa_sk tx T p2)) (nI (pa_sk tx T p2)) (nI (pa_tk tx T p2)) m2 g2 0 (-1) (nI (ce + cs1.length + cs2.length)) (pa_wr (pa_wr cd ce cs1) (ce + cs1.length) cs2)), L, wQQ q)) 2 rfl ?_
            refine tv_cvE [.int (nI (pa_tk tx T p))] [] rfl rfl (by omega) rfl (Nat.le_of_ble_eq_true rfl) (Nat.le_of_ble_eq_true rfl) (Or.inr (Or.inr rfl)) (ev_r_emit (by omega)) ?_
            refine tv_iincN (k := i) (ls' := [some (.ref 57), some (.int (nI o)), some (.int (nI (i + 1))), some (.int (nI (pa_tk tx T p)))]) rfl rfl rfl ?_
            refine tv_b (pc' := 7) (ls' := [some (.ref 57), some (.int (nI o)), some (.int (nI (i + 1))), some (.int (nI (pa_tk tx T p)))]) (st' := []) (h' := (n, sl, wKK kk, (rdI I (nI (pa_sk tx T p2)) (nI (pa_sk tx T p2)) (nI (pa_tk tx T p2)) m2 g2 0 (-1) (nI (ce + cs1.length + cs2.length + 1)) (upd (pa_wr (pa_wr cd ce cs1) (ce + cs1.length) cs2) (ce + cs1.length + cs2.length) (nI (pa_tk tx T p)))), L, wQQ q)) 1 rfl ?_
            refine tv_w (ih (i + 1) p2 (ce + cs1.length + cs2.length + 1) (upd (pa_wr (pa_wr cd ce cs1) (ce + cs1.length) cs2) (ce + cs1.length + cs2.length) (nI (pa_tk tx T p))) m2 g2 _ (by omega) (by omega) (by omega) hn2 hl2) ?_
            rintro rv h' ⟨rfl, I2, rfl, ho2⟩
            refine ⟨rfl, _, rfl, ?_⟩
            rw [pa_lp_yes (op := pa_isA) (by rw [c20]; rfl)]
            refine rdO_b hr1 ?_
            try dsimp only
            refine rdO_b hr2 ?_
            try dsimp only
            refine rdO_b (cs := [pa_tk tx T p]) (p := p2) rfl ?_
            exact ho2
      · refine tv_b (pc' := (if (nI (pa_tk tx T p)) = 23 then 32 else 57)) (ls' := [some (.ref 57), some (.int (nI o)), some (.int (nI i)), o3]) (st' := []) (h' := (n, sl, wKK kk, (rdI I (nI (pa_sk tx T p)) (nI (pa_sk tx T p)) (nI (pa_tk tx T p)) nm gn 0 (-1) (nI ce) cd), L, wQQ q)) 4 rfl ?_
        refine tv_ifq (nI_eq (a := (pa_tk tx T p)) (b := 23) (by omega) (by omega)) (fun c29 => ?_) (fun c29 => ?_)
        · refine tv_b (pc' := 38) (ls' := [some (.ref 57), some (.int (nI o)), some (.int (nI i)), some (.int (nI (pa_tk tx T p)))]) (st' := [.ref 57]) (h' := (n, sl, wKK kk, (rdI I (nI (pa_sk tx T p)) (nI (pa_sk tx T p)) (nI (pa_tk tx T p)) nm gn 0 (-1) (nI ce) cd), L, wQQ q)) 4 rfl ?_
          refine tv_cv [] [] rfl rfl (by omega) rfl (Nat.le_of_ble_eq_true rfl) (Nat.le_of_ble_eq_true rfl) (Or.inr (Or.inr rfl)) (tv_r_nx hH (by omega) (by omega) hnm) ?_
          rintro rv9 h9 ⟨rfl, I9, rfl, ho, hlx⟩
          rcases rdO_c ho with ⟨k3, l3, s3, w3, m3, g3, f3, y3, c3, d3, hr3, hk3, hc3, rfl⟩ | ⟨p3, cs3, m3, g3, hr3, hp3, hn3, rfl⟩
          · refine tv_b (pc' := 43) (ls' := [some (.ref 57), some (.int (nI o)), some (.int (nI i)), some (.int (nI (pa_tk tx T p)))]) (st' := [.int (nI o), .ref 57]) (h' := (n, sl, wKK kk, (rdI I s3 w3 39 m3 g3 f3 y3 (nI c3) d3), L, wQQ q)) 2 rfl ?_
            refine tv_cvE [.int (nI o)] [] rfl rfl (by omega) rfl (Nat.le_of_ble_eq_true rfl) (Nat.le_of_ble_eq_true rfl) (Or.inr (Or.inr rfl)) (ev_r_productE hk3) ?_
            refine tv_b (pc' := 48) (ls' := [some (.ref 57), some (.int (nI o)), some (.int (nI i)), some (.int (nI (pa_tk tx T p)))]) (st' := [.int (nI (pa_tk tx T p)), .ref 57]) (h' := (n, sl, wKK kk, (rdI I s3 w3 39 m3 g3 (nI k3) (nI l3) (nI c3) d3), L, wQQ q)) 2 rfl ?_
            refine tv_cvE [.int (nI (pa_tk tx T p))] [] rfl rfl (by omega) rfl (Nat.le_of_ble_eq_true rfl) (Nat.le_of_ble_eq_true rfl) (Or.inr (Or.inr rfl)) (ev_r_emitF (rd_k (rd_F hk3))) ?_
            refine tv_iincN (k := i) (ls' := [some (.ref 57), some (.int (nI o)), some (.int (nI (i + 1))), some (.int (nI (pa_tk tx T p)))]) rfl rfl rfl ?_
            refine tv_b (pc' := 7) (ls' := [some (.ref 57), some (.int (nI o)), some (.int (nI (i + 1))), some (.int (nI (pa_tk tx T p)))]) (st' := []) (h' := (n, sl, wKK kk, (rdI I s3 w3 39 m3 g3 (nI k3) (nI l3) (nI c3) d3), L, wQQ q)) 1 rfl ?_
            refine tv_b (pc' := (if 800 ≤ (nI (i + 1)) then 57 else 14)) (ls' := [some (.ref 57), some (.int (nI o)), some (.int (nI (i + 1))), some (.int (nI (pa_tk tx T p)))]) (st' := []) (h' := (n, sl, wKK kk, (rdI I s3 w3 39 m3 g3 (nI k3) (nI l3) (nI c3) d3), L, wQQ q)) 3 rfl ?_
            refine tv_ifq (nI_leI (a := 800) (b := i + 1) (by omega) (by omega)) (fun c11 => ?_) (fun c11 => ?_)
            · refine tv_rv rfl ⟨rfl, _, rfl, ?_⟩
              rw [pa_lp_yes (op := pa_isA) (by rw [c29]; rfl)]
              exact rdO_bl hr3 (rdO_F hr3 ⟨(rd_F hk3), by omega⟩ rfl)
            · refine tv_b (pc' := 57) (ls' := [some (.ref 57), some (.int (nI o)), some (.int (nI (i + 1))), some (.int (nI (pa_tk tx T p)))]) (st' := []) (h' := (n, sl, wKK kk, (rdI I s3 w3 39 m3 g3 (nI k3) (nI l3) (nI c3) d3), L, wQQ q)) 8 rfl ?_
              refine tv_rv rfl ⟨rfl, _, rfl, ?_⟩
              rw [pa_lp_yes (op := pa_isA) (by rw [c29]; rfl)]
              exact rdO_bl hr3 (rdO_F hr3 ⟨(rd_F hk3), by omega⟩ rfl)
          · have ht3 := pa_tk_lt (b := tx) (n := T) p3
            have hg3 := pa_edo (tx := tx) (T := T) p3
            obtain ⟨hl3, hv3⟩ := hlx _ _ hr3
            have hj3 := pa_ed_le (b := tx) (n := T) (p := p3) hp3.1
            obtain ⟨hq3, hz3⟩ := pa_nx_r hr3
            have hy3 : cs3.length = 0 := by rw [hz3]; rfl
            refine tv_b (pc' := 43) (ls' := [some (.ref 57), some (.int (nI o)), some (.int (nI i)), some (.int (nI (pa_tk tx T p)))]) (st' := [.int (nI o), .ref 57]) (h' := (n, sl, wKK kk, (rdI I (nI (pa_sk tx T p3)) (nI (pa_sk tx T p3)) (nI (pa_tk tx T p3)) m3 g3 0 (-1) (nI (ce + cs3.length)) (pa_wr cd ce cs3)), L, wQQ q)) 2 rfl ?_
            refine tv_cv [.int (nI o)] [] rfl rfl (by omega) rfl (Nat.le_of_ble_eq_true rfl) (Nat.le_of_ble_eq_true rfl) (Or.inr (Or.inr rfl)) (hI _ p3 _ _ _ _ (by omega) (by omega) (by omega) hn3 hl3) ?_
            rintro rv9 h9 ⟨rfl, I9, rfl, ho, hlx⟩
            rcases rdO_c ho with ⟨k4, l4, s4, w4, m4, g4, f4, y4, c4, d4, hr4, hk4, hc4, rfl⟩ | ⟨p4, cs4, m4, g4, hr4, hp4, hn4, rfl⟩
            · refine tv_b (pc' := 48) (ls' := [some (.ref 57), some (.int (nI o)), some (.int (nI i)), some (.int (nI (pa_tk tx T p)))]) (st' := [.int (nI (pa_tk tx T p)), .ref 57]) (h' := (n, sl, wKK kk, (rdI I s4 w4 39 m4 g4 f4 y4 (nI c4) d4), L, wQQ q)) 2 rfl ?_
              refine tv_cv [.int (nI (pa_tk tx T p))] [] rfl rfl (by omega) rfl (Nat.le_of_ble_eq_true rfl) (Nat.le_of_ble_eq_true rfl) (Or.inr (Or.inr rfl)) (tv_r_emitE hk4 (by omega)) ?_
              rintro rv9 h9 ⟨rfl, e12, b12, hb12, rfl⟩
              refine tv_iincN (k := i) (ls' := [some (.ref 57), some (.int (nI o)), some (.int (nI (i + 1))), some (.int (nI (pa_tk tx T p)))]) rfl rfl rfl ?_
              refine tv_b (pc' := 7) (ls' := [some (.ref 57), some (.int (nI o)), some (.int (nI (i + 1))), some (.int (nI (pa_tk tx T p)))]) (st' := []) (h' := (n, sl, wKK kk, (rdI I s4 w4 39 m4 g4 f4 y4 (nI e12) b12), L, wQQ q)) 1 rfl ?_
              refine tv_b (pc' := (if 800 ≤ (nI (i + 1)) then 57 else 14)) (ls' := [some (.ref 57), some (.int (nI o)), some (.int (nI (i + 1))), some (.int (nI (pa_tk tx T p)))]) (st' := []) (h' := (n, sl, wKK kk, (rdI I s4 w4 39 m4 g4 f4 y4 (nI e12) b12), L, wQQ q)) 3 rfl ?_
              refine tv_ifq (nI_leI (a := 800) (b := i + 1) (by omega) (by omega)) (fun c11 => ?_) (fun c11 => ?_)
              · refine tv_rv rfl ⟨rfl, _, rfl, ?_⟩
                rw [pa_lp_yes (op := pa_isA) (by rw [c29]; rfl)]
                refine rdO_b hr3 ?_
                try dsimp only
                exact rdO_bl hr4 (rdO_F hr4 ⟨hk4, by omega⟩ rfl)
              · refine tv_b (pc' := 57) (ls' := [some (.ref 57), some (.int (nI o)), some (.int (nI (i + 1))), some (.int (nI (pa_tk tx T p)))]) (st' := []) (h' := (n, sl, wKK kk, (rdI I s4 w4 39 m4 g4 f4 y4 (nI e12) b12), L, wQQ q)) 8 rfl ?_
                refine tv_rv rfl ⟨rfl, _, rfl, ?_⟩
                rw [pa_lp_yes (op := pa_isA) (by rw [c29]; rfl)]
                refine rdO_b hr3 ?_
                try dsimp only
                exact rdO_bl hr4 (rdO_F hr4 ⟨hk4, by omega⟩ rfl)
            · have ht4 := pa_tk_lt (b := tx) (n := T) p4
              have hg4 := pa_edo (tx := tx) (T := T) p4
              obtain ⟨hl4, hv4⟩ := hlx _ _ hr4
              have hj4 := pa_ed_le (b := tx) (n := T) (p := p4) hp4.1
              refine tv_b (pc' := 48) (ls' := [some (.ref 57), some (.int (nI o)), some (.int (nI i)), some (.int (nI (pa_tk tx T p)))]) (st' := [.int (nI (pa_tk tx T p)), .ref 57]) (h' := (n, sl, wKK kk, (rdI I (nI (pa_sk tx T p4)) (nI (pa_sk tx T p4)) (nI (pa_tk tx T p4)) m4 g4 0 (-1) (nI (ce + cs3.length + cs4.length)) (pa_wr (pa_wr cd ce cs3) (ce + cs3.length) cs4)), L, wQQ q)) 2 rfl ?_
              refine tv_cvE [.int (nI (pa_tk tx T p))] [] rfl rfl (by omega) rfl (Nat.le_of_ble_eq_true rfl) (Nat.le_of_ble_eq_true rfl) (Or.inr (Or.inr rfl)) (ev_r_emit (by omega)) ?_
              refine tv_iincN (k := i) (ls' := [some (.ref 57), some (.int (nI o)), some (.int (nI (i + 1))), some (.int (nI (pa_tk tx T p)))]) rfl rfl rfl ?_
              refine tv_b (pc' := 7) (ls' := [some (.ref 57), some (.int (nI o)), some (.int (nI (i + 1))), some (.int (nI (pa_tk tx T p)))]) (st' := []) (h' := (n, sl, wKK kk, (rdI I (nI (pa_sk tx T p4)) (nI (pa_sk tx T p4)) (nI (pa_tk tx T p4)) m4 g4 0 (-1) (nI (ce + cs3.length + cs4.length + 1)) (upd (pa_wr (pa_wr cd ce cs3) (ce + cs3.length) cs4) (ce + cs3.length + cs4.length) (nI (pa_tk tx T p)))), L, wQQ q)) 1 rfl ?_
              refine tv_w (ih (i + 1) p4 (ce + cs3.length + cs4.length + 1) (upd (pa_wr (pa_wr cd ce cs3) (ce + cs3.length) cs4) (ce + cs3.length + cs4.length) (nI (pa_tk tx T p))) m4 g4 _ (by omega) (by omega) (by omega) hn4 hl4) ?_
              rintro rv h' ⟨rfl, I2, rfl, ho2⟩
              refine ⟨rfl, _, rfl, ?_⟩
              rw [pa_lp_yes (op := pa_isA) (by rw [c29]; rfl)]
              refine rdO_b hr3 ?_
              try dsimp only
              refine rdO_b hr4 ?_
              try dsimp only
              refine rdO_b (cs := [pa_tk tx T p]) (p := p4) rfl ?_
              exact ho2
        · have hno : pa_isA (pa_tk tx T p) = false := by
            unfold pa_isA; rw [pa_bfalse c20, pa_bfalse c29]; rfl
          exact tv_rv rfl ⟨rfl, _, rfl, by rw [pa_lp_no hno]; exact rdO_N (cs := []) rfl ⟨hp, hce⟩ hnm rfl⟩
  have ht0 := pa_tk_lt (b := tx) (n := T) p
  have hg0 := pa_edo (tx := tx) (T := T) p
  have hj0 := pa_ed_le (b := tx) (n := T) (p := p) hp
  show am_T _ _ _ [some (.ref 57), some (.int (nI o)), none, none] _ (n, sl, wKK kk, (rdI I (nI (pa_sk tx T p)) (nI (pa_sk tx T p)) (nI (pa_tk tx T p)) nm gn 0 (-1) (nI ce) cd), L, wQQ q) _
  refine tv_b (pc' := 2) (ls' := [some (.ref 57), some (.int (nI o)), none, none]) (st' := [.int (nI o), .ref 57]) (h' := (n, sl, wKK kk, (rdI I (nI (pa_sk tx T p)) (nI (pa_sk tx T p)) (nI (pa_tk tx T p)) nm gn 0 (-1) (nI ce) cd), L, wQQ q)) 2 rfl ?_
  refine tv_cv [.int (nI o)] [] rfl rfl (by omega) rfl (Nat.le_of_ble_eq_true rfl) (Nat.le_of_ble_eq_true rfl) (Or.inr (Or.inr rfl)) (hI _ p _ _ _ _ (by omega) (by omega) (by omega) hnm hl0) ?_
  rintro rv9 h9 ⟨rfl, I9, rfl, ho, hlx⟩
  rcases rdO_c ho with ⟨k1, l1, s1, w1, m1, g1, f1, y1, c1, d1, hr1, hk1, hc1, rfl⟩ | ⟨p1, cs1, m1, g1, hr1, hp1, hn1, rfl⟩
  · refine tv_b (pc' := 7) (ls' := [some (.ref 57), some (.int (nI o)), some (.int 0), none]) (st' := []) (h' := (n, sl, wKK kk, (rdI I s1 w1 39 m1 g1 f1 y1 (nI c1) d1), L, wQQ q)) 2 rfl ?_
    refine tv_b (pc' := 57) (ls' := [some (.ref 57), some (.int (nI o)), some (.int 0), none]) (st' := []) (h' := (n, sl, wKK kk, (rdI I s1 w1 39 m1 g1 f1 y1 (nI c1) d1), L, wQQ q)) 11 rfl ?_
    exact tv_rv rfl ⟨rfl, _, rfl, rdO_bl hr1 (rdO_F hr1 ⟨hk1, by omega⟩ rfl), hlast⟩
  · have ht1 := pa_tk_lt (b := tx) (n := T) p1
    have hg1 := pa_edo (tx := tx) (T := T) p1
    obtain ⟨hl1, hv1⟩ := hlx _ _ hr1
    have hj1 := pa_ed_le (b := tx) (n := T) (p := p1) hp1.1
    refine tv_b (pc' := 7) (ls' := [some (.ref 57), some (.int (nI o)), some (.int 0), none]) (st' := []) (h' := (n, sl, wKK kk, (rdI I (nI (pa_sk tx T p1)) (nI (pa_sk tx T p1)) (nI (pa_tk tx T p1)) m1 g1 0 (-1) (nI (ce + cs1.length)) (pa_wr cd ce cs1)), L, wQQ q)) 2 rfl ?_
    refine tv_w (loop 800 0 p1 (ce + cs1.length) (pa_wr cd ce cs1) m1 g1 _ (by omega) (by omega) (by omega) hn1 hl1) ?_
    rintro rv h' ⟨rfl, I2, rfl, ho2⟩
    exact ⟨rfl, _, rfl, rdO_b hr1 ho2, hlast⟩
set_option maxHeartbeats 4000000 in
theorem tv_r_both {n sl : Nat} {kk : Nat → Nat × Nat} {I : Nat → Nat → Int32} {L : Nat → Nat → Int64} {q : Nat → Nat → Option Nat} {tx : Nat → Nat} {T G : Nat} {o dp : Nat} {q1 : Nat → pa_E} (hH : rdG tx T G I) (hdp : 9 ≤ dp) (hI : rdC tx T G n sl kk I L q 73 4 dp o q1) (hlq : ∀ p p' cs, q1 p = .inr (p', cs) → pa_lf tx T p' = none ∧ p + cs.length ≤ p') : rdC tx T G n sl kk I L q 72 3 (dp + 1) o (fun p => pa_bnd (q1 p) (pa_lp tx T (fun t => Nat.beq t 8) q1 800)) := by
  intro d p ce cd nm gn hd hp hce hnm hl0
  obtain ⟨d, rfl⟩ : ∃ e, d = e + 10 := ⟨d - 10, by omega⟩
  have hT := hH.2.1
  have hlast : ∀ p' cs, pa_bnd (q1 p) (pa_lp tx T (fun t => Nat.beq t 8) q1 800) = .inr (p', cs) → pa_lf tx T p' = none ∧ p + cs.length ≤ p' := fun p' cs h => pa_row_lf rfl hlq h
  have loop : ∀ (f i p ce : Nat) (cd : Nat → Int32) (nm gn : Int32) , i + f = 800 → p ≤ T → ce ≤ p → rdQ tx T G p nm gn → pa_lf tx T p = none → am_T (d + 10) 72 7 [some (.ref 57), some (.int (nI o)), some (.int (nI i))] [] (n, sl, wKK kk, rdT tx T I p nm gn ce cd, L, wQQ q) (fun rv h' => rv = none ∧ ∃ I', h' = (n, sl, wKK kk, I', L, wQQ q) ∧ rdO tx T G (pa_lp tx T (fun t => Nat.beq t 8) q1 f p) ce cd I I') := by
    intro f
    induction f with
    | zero =>
      intro i p ce cd nm gn  hi hp hce hnm hl0
      show am_T _ _ _ [some (.ref 57), some (.int (nI o)), some (.int (nI i))] _ (n, sl, wKK kk, (rdI I (nI (pa_sk tx T p)) (nI (pa_sk tx T p)) (nI (pa_tk tx T p)) nm gn 0 (-1) (nI ce) cd), L, wQQ q) _
      refine tv_b (pc' := (if 800 ≤ (nI i) then 44 else 14)) (ls' := [some (.ref 57), some (.int (nI o)), some (.int (nI i))]) (st' := []) (h' := (n, sl, wKK kk, (rdI I (nI (pa_sk tx T p)) (nI (pa_sk tx T p)) (nI (pa_tk tx T p)) nm gn 0 (-1) (nI ce) cd), L, wQQ q)) 3 rfl ?_
      refine tv_t ((nI_leI (a := 800) (b := i) (by omega) (by omega)).mpr (by omega)) ?_
      exact tv_rv rfl ⟨rfl, _, rfl, rdO_N (cs := []) rfl ⟨hp, hce⟩ hnm rfl⟩
    | succ f ih =>
      intro i p ce cd nm gn  hi hp hce hnm hl0
      have ht0 := pa_tk_lt (b := tx) (n := T) p
      have hg0 := pa_edo (tx := tx) (T := T) p
      have hj0 := pa_ed_le (b := tx) (n := T) (p := p) hp
      show am_T _ _ _ [some (.ref 57), some (.int (nI o)), some (.int (nI i))] _ (n, sl, wKK kk, (rdI I (nI (pa_sk tx T p)) (nI (pa_sk tx T p)) (nI (pa_tk tx T p)) nm gn 0 (-1) (nI ce) cd), L, wQQ q) _
      refine tv_b (pc' := (if 800 ≤ (nI i) then 44 else 14)) (ls' := [some (.ref 57), some (.int (nI o)), some (.int (nI i))]) (st' := []) (h' := (n, sl, wKK kk, (rdI I (nI (pa_sk tx T p)) (nI (pa_sk tx T p)) (nI (pa_tk tx T p)) nm gn 0 (-1) (nI ce) cd), L, wQQ q)) 3 rfl ?_
      refine tv_f (fun hq => absurd ((nI_leI (a := 800) (b := i) (by omega) (by omega)).mp hq) (by omega)) ?_
      refine tv_b (pc' := (if (nI (pa_tk tx T p)) = 8 then 23 else 44)) (ls' := [some (.ref 57), some (.int (nI o)), some (.int (nI i))]) (st' := []) (h' := (n, sl, wKK kk, (rdI I (nI (pa_sk tx T p)) (nI (pa_sk tx T p)) (nI (pa_tk tx T p)) nm gn 0 (-1) (nI ce) cd), L, wQQ q)) 4 rfl ?_
      refine tv_ifq (nI_eq (a := (pa_tk tx T p)) (b := 8) (by omega) (by omega)) (fun c20 => ?_) (fun c20 => ?_)
      · refine tv_b (pc' := 24) (ls' := [some (.ref 57), some (.int (nI o)), some (.int (nI i))]) (st' := [.ref 57]) (h' := (n, sl, wKK kk, (rdI I (nI (pa_sk tx T p)) (nI (pa_sk tx T p)) (nI (pa_tk tx T p)) nm gn 0 (-1) (nI ce) cd), L, wQQ q)) 1 rfl ?_
        refine tv_cv [] [] rfl rfl (by omega) rfl (Nat.le_of_ble_eq_true rfl) (Nat.le_of_ble_eq_true rfl) (Or.inr (Or.inr rfl)) (tv_r_nx hH (by omega) (by omega) hnm) ?_
        rintro rv9 h9 ⟨rfl, I9, rfl, ho, hlx⟩
        rcases rdO_c ho with ⟨k1, l1, s1, w1, m1, g1, f1, y1, c1, d1, hr1, hk1, hc1, rfl⟩ | ⟨p1, cs1, m1, g1, hr1, hp1, hn1, rfl⟩
        · refine tv_b (pc' := 29) (ls' := [some (.ref 57), some (.int (nI o)), some (.int (nI i))]) (st' := [.int (nI o), .ref 57]) (h' := (n, sl, wKK kk, (rdI I s1 w1 39 m1 g1 f1 y1 (nI c1) d1), L, wQQ q)) 2 rfl ?_
          refine tv_cvE [.int (nI o)] [] rfl rfl (by omega) rfl (Nat.le_of_ble_eq_true rfl) (Nat.le_of_ble_eq_true rfl) (Or.inr (Or.inr rfl)) (ev_r_factE hk1) ?_
          refine tv_b (pc' := 35) (ls' := [some (.ref 57), some (.int (nI o)), some (.int (nI i))]) (st' := [.int 8, .ref 57]) (h' := (n, sl, wKK kk, (rdI I s1 w1 39 m1 g1 (nI k1) (nI l1) (nI c1) d1), L, wQQ q)) 2 rfl ?_
          refine tv_cvE [.int 8] [] rfl rfl (by omega) rfl (Nat.le_of_ble_eq_true rfl) (Nat.le_of_ble_eq_true rfl) (Or.inr (Or.inr rfl)) (ev_r_emitF (rd_k (rd_F hk1))) ?_
          refine tv_iincN (k := i) (ls' := [some (.ref 57), some (.int (nI o)), some (.int (nI (i + 1)))]) rfl rfl rfl ?_
          refine tv_b (pc' := 7) (ls' := [some (.ref 57), some (.int (nI o)), some (.int (nI (i + 1)))]) (st' := []) (h' := (n, sl, wKK kk, (rdI I s1 w1 39 m1 g1 (nI k1) (nI l1) (nI c1) d1), L, wQQ q)) 1 rfl ?_
          refine tv_b (pc' := (if 800 ≤ (nI (i + 1)) then 44 else 14)) (ls' := [some (.ref 57), some (.int (nI o)), some (.int (nI (i + 1)))]) (st' := []) (h' := (n, sl, wKK kk, (rdI I s1 w1 39 m1 g1 (nI k1) (nI l1) (nI c1) d1), L, wQQ q)) 3 rfl ?_
          refine tv_ifq (nI_leI (a := 800) (b := i + 1) (by omega) (by omega)) (fun c11 => ?_) (fun c11 => ?_)
          · refine tv_rv rfl ⟨rfl, _, rfl, ?_⟩
            rw [pa_lp_yes (op := (fun t => Nat.beq t 8)) (by rw [c20]; rfl)]
            exact rdO_bl hr1 (rdO_F hr1 ⟨(rd_F hk1), by omega⟩ rfl)
          · refine tv_b (pc' := 44) (ls' := [some (.ref 57), some (.int (nI o)), some (.int (nI (i + 1)))]) (st' := []) (h' := (n, sl, wKK kk, (rdI I s1 w1 39 m1 g1 (nI k1) (nI l1) (nI c1) d1), L, wQQ q)) 4 rfl ?_
            refine tv_rv rfl ⟨rfl, _, rfl, ?_⟩
            rw [pa_lp_yes (op := (fun t => Nat.beq t 8)) (by rw [c20]; rfl)]
            exact rdO_bl hr1 (rdO_F hr1 ⟨(rd_F hk1), by omega⟩ rfl)
        · have ht1 := pa_tk_lt (b := tx) (n := T) p1
          have hg1 := pa_edo (tx := tx) (T := T) p1
          obtain ⟨hl1, hv1⟩ := hlx _ _ hr1
          have hj1 := pa_ed_le (b := tx) (n := T) (p := p1) hp1.1
          obtain ⟨hq1, hz1⟩ := pa_nx_r hr1
          have hy1 : cs1.length = 0 := by rw [hz1]; rfl
          refine tv_b (pc' := 29) (ls' := [some (.ref 57), some (.int (nI o)), some (.int (nI i))]) (st' := [.int (nI o), .ref 57]) (h' := (n, sl, wKK kk, (rdI I (nI (pa_sk tx T p1)) (nI (pa_sk tx T p1)) (nI (pa_tk tx T p1)) m1 g1 0 (-1) (nI (ce + cs1.length)) (pa_wr cd ce cs1)), L, wQQ q)) 2 rfl ?_
          refine tv_cv [.int (nI o)] [] rfl rfl (by omega) rfl (Nat.le_of_ble_eq_true rfl) (Nat.le_of_ble_eq_true rfl) (Or.inr (Or.inr rfl)) (hI _ p1 _ _ _ _ (by omega) (by omega) (by omega) hn1 hl1) ?_
          rintro rv9 h9 ⟨rfl, I9, rfl, ho, hlx⟩
          rcases rdO_c ho with ⟨k2, l2, s2, w2, m2, g2, f2, y2, c2, d2, hr2, hk2, hc2, rfl⟩ | ⟨p2, cs2, m2, g2, hr2, hp2, hn2, rfl⟩
          · refine tv_b (pc' := 35) (ls' := [some (.ref 57), some (.int (nI o)), some (.int (nI i))]) (st' := [.int 8, .ref 57]) (h' := (n, sl, wKK kk, (rdI I s2 w2 39 m2 g2 f2 y2 (nI c2) d2), L, wQQ q)) 2 rfl ?_
            refine tv_cv [.int 8] [] rfl rfl (by omega) rfl (Nat.le_of_ble_eq_true rfl) (Nat.le_of_ble_eq_true rfl) (Or.inr (Or.inr rfl)) (tv_r_emitE hk2 (by omega)) ?_
            rintro rv9 h9 ⟨rfl, e13, b13, hb13, rfl⟩
            refine tv_iincN (k := i) (ls' := [some (.ref 57), some (.int (nI o)), some (.int (nI (i + 1)))]) rfl rfl rfl ?_
            refine tv_b (pc' := 7) (ls' := [some (.ref 57), some (.int (nI o)), some (.int (nI (i + 1)))]) (st' := []) (h' := (n, sl, wKK kk, (rdI I s2 w2 39 m2 g2 f2 y2 (nI e13) b13), L, wQQ q)) 1 rfl ?_
            refine tv_b (pc' := (if 800 ≤ (nI (i + 1)) then 44 else 14)) (ls' := [some (.ref 57), some (.int (nI o)), some (.int (nI (i + 1)))]) (st' := []) (h' := (n, sl, wKK kk, (rdI I s2 w2 39 m2 g2 f2 y2 (nI e13) b13), L, wQQ q)) 3 rfl ?_
            refine tv_ifq (nI_leI (a := 800) (b := i + 1) (by omega) (by omega)) (fun c11 => ?_) (fun c11 => ?_)
            · refine tv_rv rfl ⟨rfl, _, rfl, ?_⟩
              rw [pa_lp_yes (op := (fun t => Nat.beq t 8)) (by rw [c20]; rfl)]
              refine rdO_b hr1 ?_
              try dsimp only
              exact rdO_bl hr2 (rdO_F hr2 ⟨hk2, by omega⟩ rfl)
            · refine tv_b (pc' := 44) (ls' := [some (.ref 57), some (.int (nI o)), some (.int (nI (i + 1)))]) (st' := []) (h' := (n, sl, wKK kk, (rdI I s2 w2 39 m2 g2 f2 y2 (nI e13) b13), L, wQQ q)) 4 rfl ?_
              refine tv_rv rfl ⟨rfl, _, rfl, ?_⟩
              rw [pa_lp_yes (op := (fun t => Nat.beq t 8)) (by rw [c20]; rfl)]
              refine rdO_b hr1 ?_
              try dsimp only
              exact rdO_bl hr2 (rdO_F hr2 ⟨hk2, by omega⟩ rfl)
          · have ht2 := pa_tk_lt (b := tx) (n := T) p2
            have hg2 := pa_edo (tx := tx) (T := T) p2
            obtain ⟨hl2, hv2⟩ := hlx _ _ hr2
            have hj2 := pa_ed_le (b := tx) (n := T) (p := p2) hp2.1
            refine tv_b (pc' := 35) (ls' := [some (.ref 57), some (.int (nI o)), some (.int (nI i))]) (st' := [.int 8, .ref 57]) (h' := (n, sl, wKK kk, (rdI I (nI (pa_sk tx T p2)) (nI (pa_sk tx T p2)) (nI (pa_tk tx T p2)) m2 g2 0 (-1) (nI (ce + cs1.length + cs2.length)) (pa_wr (pa_wr cd ce cs1) (ce + cs1.length) cs2)), L, wQQ q)) 2 rfl ?_
            refine tv_cvE [.int 8] [] rfl rfl (by omega) rfl (Nat.le_of_ble_eq_true rfl) (Nat.le_of_ble_eq_true rfl) (Or.inr (Or.inr rfl)) (ev_r_emit (by omega)) ?_
            refine tv_iincN (k := i) (ls' := [some (.ref 57), some (.int (nI o)), some (.int (nI (i + 1)))]) rfl rfl rfl ?_
            refine tv_b (pc' := 7) (ls' := [some (.ref 57), some (.int (nI o)), some (.int (nI (i + 1)))]) (st' := []) (h' := (n, sl, wKK kk, (rdI I (nI (pa_sk tx T p2)) (nI (pa_sk tx T p2)) (nI (pa_tk tx T p2)) m2 g2 0 (-1) (nI (ce + cs1.length + cs2.length + 1)) (upd (pa_wr (pa_wr cd ce cs1) (ce + cs1.length) cs2) (ce + cs1.length + cs2.length) 8)), L, wQQ q)) 1 rfl ?_
            refine tv_w (ih (i + 1) p2 (ce + cs1.length + cs2.length + 1) (upd (pa_wr (pa_wr cd ce cs1) (ce + cs1.length) cs2) (ce + cs1.length + cs2.length) 8) m2 g2 (by omega) (by omega) (by omega) hn2 hl2) ?_
            rintro rv h' ⟨rfl, I2, rfl, ho2⟩
            refine ⟨rfl, _, rfl, ?_⟩
            rw [pa_lp_yes (op := (fun t => Nat.beq t 8)) (by rw [c20]; rfl)]
            refine rdO_b hr1 ?_
            try dsimp only
            refine rdO_b hr2 ?_
            try dsimp only
            refine rdO_b (cs := [pa_tk tx T p]) (p := p2) rfl ?_
            have e8 : nI (pa_tk tx T p) = 8 := by rw [c20]; rfl
            show rdO tx T G _ (ce + cs1.length + cs2.length + 1) (upd (pa_wr (pa_wr cd ce cs1) (ce + cs1.length) cs2) (ce + cs1.length + cs2.length) (nI (pa_tk tx T p))) I I2
            rw [e8]
            exact ho2
      · have hno : (fun t => Nat.beq t 8) (pa_tk tx T p) = false := by
          exact pa_bfalse c20
        exact tv_rv rfl ⟨rfl, _, rfl, by rw [pa_lp_no hno]; exact rdO_N (cs := []) rfl ⟨hp, hce⟩ hnm rfl⟩
  have ht0 := pa_tk_lt (b := tx) (n := T) p
  have hg0 := pa_edo (tx := tx) (T := T) p
  have hj0 := pa_ed_le (b := tx) (n := T) (p := p) hp
  show am_T _ _ _ [some (.ref 57), some (.int (nI o)), none] _ (n, sl, wKK kk, (rdI I (nI (pa_sk tx T p)) (nI (pa_sk tx T p)) (nI (pa_tk tx T p)) nm gn 0 (-1) (nI ce) cd), L, wQQ q) _
  refine tv_b (pc' := 2) (ls' := [some (.ref 57), some (.int (nI o)), none]) (st' := [.int (nI o), .ref 57]) (h' := (n, sl, wKK kk, (rdI I (nI (pa_sk tx T p)) (nI (pa_sk tx T p)) (nI (pa_tk tx T p)) nm gn 0 (-1) (nI ce) cd), L, wQQ q)) 2 rfl ?_
  refine tv_cv [.int (nI o)] [] rfl rfl (by omega) rfl (Nat.le_of_ble_eq_true rfl) (Nat.le_of_ble_eq_true rfl) (Or.inr (Or.inr rfl)) (hI _ p _ _ _ _ (by omega) (by omega) (by omega) hnm hl0) ?_
  rintro rv9 h9 ⟨rfl, I9, rfl, ho, hlx⟩
  rcases rdO_c ho with ⟨k1, l1, s1, w1, m1, g1, f1, y1, c1, d1, hr1, hk1, hc1, rfl⟩ | ⟨p1, cs1, m1, g1, hr1, hp1, hn1, rfl⟩
  · refine tv_b (pc' := 7) (ls' := [some (.ref 57), some (.int (nI o)), some (.int 0)]) (st' := []) (h' := (n, sl, wKK kk, (rdI I s1 w1 39 m1 g1 f1 y1 (nI c1) d1), L, wQQ q)) 2 rfl ?_
    refine tv_b (pc' := 44) (ls' := [some (.ref 57), some (.int (nI o)), some (.int 0)]) (st' := []) (h' := (n, sl, wKK kk, (rdI I s1 w1 39 m1 g1 f1 y1 (nI c1) d1), L, wQQ q)) 7 rfl ?_
    exact tv_rv rfl ⟨rfl, _, rfl, rdO_bl hr1 (rdO_F hr1 ⟨hk1, by omega⟩ rfl), hlast⟩
  · have ht1 := pa_tk_lt (b := tx) (n := T) p1
    have hg1 := pa_edo (tx := tx) (T := T) p1
    obtain ⟨hl1, hv1⟩ := hlx _ _ hr1
    have hj1 := pa_ed_le (b := tx) (n := T) (p := p1) hp1.1
    refine tv_b (pc' := 7) (ls' := [some (.ref 57), some (.int (nI o)), some (.int 0)]) (st' := []) (h' := (n, sl, wKK kk, (rdI I (nI (pa_sk tx T p1)) (nI (pa_sk tx T p1)) (nI (pa_tk tx T p1)) m1 g1 0 (-1) (nI (ce + cs1.length)) (pa_wr cd ce cs1)), L, wQQ q)) 2 rfl ?_
    refine tv_w (loop 800 0 p1 (ce + cs1.length) (pa_wr cd ce cs1) m1 g1 (by omega) (by omega) (by omega) hn1 hl1) ?_
    rintro rv h' ⟨rfl, I2, rfl, ho2⟩
    exact ⟨rfl, _, rfl, rdO_b hr1 ho2, hlast⟩
set_option maxHeartbeats 4000000 in
theorem tv_r_test {n sl : Nat} {kk : Nat → Nat × Nat} {I : Nat → Nat → Int32} {L : Nat → Nat → Int64} {q : Nat → Nat → Option Nat} {tx : Nat → Nat} {T G : Nat} {o dp : Nat} {q1 : Nat → pa_E} (hH : rdG tx T G I) (hdp : 10 ≤ dp) (hI : rdC tx T G n sl kk I L q 72 3 dp o q1) (hlq : ∀ p p' cs, q1 p = .inr (p', cs) → pa_lf tx T p' = none ∧ p + cs.length ≤ p') : rdC tx T G n sl kk I L q 71 3 (dp + 1) o (fun p => pa_bnd (q1 p) (pa_lp tx T (fun t => Nat.beq t 7) q1 800)) := by
  intro d p ce cd nm gn hd hp hce hnm hl0
  obtain ⟨d, rfl⟩ : ∃ e, d = e + 11 := ⟨d - 11, by omega⟩
  have hT := hH.2.1
  have hlast : ∀ p' cs, pa_bnd (q1 p) (pa_lp tx T (fun t => Nat.beq t 7) q1 800) = .inr (p', cs) → pa_lf tx T p' = none ∧ p + cs.length ≤ p' := fun p' cs h => pa_row_lf rfl hlq h
  have loop : ∀ (f i p ce : Nat) (cd : Nat → Int32) (nm gn : Int32) , i + f = 800 → p ≤ T → ce ≤ p → rdQ tx T G p nm gn → pa_lf tx T p = none → am_T (d + 11) 71 7 [some (.ref 57), some (.int (nI o)), some (.int (nI i))] [] (n, sl, wKK kk, rdT tx T I p nm gn ce cd, L, wQQ q) (fun rv h' => rv = none ∧ ∃ I', h' = (n, sl, wKK kk, I', L, wQQ q) ∧ rdO tx T G (pa_lp tx T (fun t => Nat.beq t 7) q1 f p) ce cd I I') := by
    intro f
    induction f with
    | zero =>
      intro i p ce cd nm gn  hi hp hce hnm hl0
      show am_T _ _ _ [some (.ref 57), some (.int (nI o)), some (.int (nI i))] _ (n, sl, wKK kk, (rdI I (nI (pa_sk tx T p)) (nI (pa_sk tx T p)) (nI (pa_tk tx T p)) nm gn 0 (-1) (nI ce) cd), L, wQQ q) _
      refine tv_b (pc' := (if 800 ≤ (nI i) then 44 else 14)) (ls' := [some (.ref 57), some (.int (nI o)), some (.int (nI i))]) (st' := []) (h' := (n, sl, wKK kk, (rdI I (nI (pa_sk tx T p)) (nI (pa_sk tx T p)) (nI (pa_tk tx T p)) nm gn 0 (-1) (nI ce) cd), L, wQQ q)) 3 rfl ?_
      refine tv_t ((nI_leI (a := 800) (b := i) (by omega) (by omega)).mpr (by omega)) ?_
      exact tv_rv rfl ⟨rfl, _, rfl, rdO_N (cs := []) rfl ⟨hp, hce⟩ hnm rfl⟩
    | succ f ih =>
      intro i p ce cd nm gn  hi hp hce hnm hl0
      have ht0 := pa_tk_lt (b := tx) (n := T) p
      have hg0 := pa_edo (tx := tx) (T := T) p
      have hj0 := pa_ed_le (b := tx) (n := T) (p := p) hp
      show am_T _ _ _ [some (.ref 57), some (.int (nI o)), some (.int (nI i))] _ (n, sl, wKK kk, (rdI I (nI (pa_sk tx T p)) (nI (pa_sk tx T p)) (nI (pa_tk tx T p)) nm gn 0 (-1) (nI ce) cd), L, wQQ q) _
      refine tv_b (pc' := (if 800 ≤ (nI i) then 44 else 14)) (ls' := [some (.ref 57), some (.int (nI o)), some (.int (nI i))]) (st' := []) (h' := (n, sl, wKK kk, (rdI I (nI (pa_sk tx T p)) (nI (pa_sk tx T p)) (nI (pa_tk tx T p)) nm gn 0 (-1) (nI ce) cd), L, wQQ q)) 3 rfl ?_
      refine tv_f (fun hq => absurd ((nI_leI (a := 800) (b := i) (by omega) (by omega)).mp hq) (by omega)) ?_
      refine tv_b (pc' := (if (nI (pa_tk tx T p)) = 7 then 23 else 44)) (ls' := [some (.ref 57), some (.int (nI o)), some (.int (nI i))]) (st' := []) (h' := (n, sl, wKK kk, (rdI I (nI (pa_sk tx T p)) (nI (pa_sk tx T p)) (nI (pa_tk tx T p)) nm gn 0 (-1) (nI ce) cd), L, wQQ q)) 4 rfl ?_
      refine tv_ifq (nI_eq (a := (pa_tk tx T p)) (b := 7) (by omega) (by omega)) (fun c20 => ?_) (fun c20 => ?_)
      · refine tv_b (pc' := 24) (ls' := [some (.ref 57), some (.int (nI o)), some (.int (nI i))]) (st' := [.ref 57]) (h' := (n, sl, wKK kk, (rdI I (nI (pa_sk tx T p)) (nI (pa_sk tx T p)) (nI (pa_tk tx T p)) nm gn 0 (-1) (nI ce) cd), L, wQQ q)) 1 rfl ?_
        refine tv_cv [] [] rfl rfl (by omega) rfl (Nat.le_of_ble_eq_true rfl) (Nat.le_of_ble_eq_true rfl) (Or.inr (Or.inr rfl)) (tv_r_nx hH (by omega) (by omega) hnm) ?_
        rintro rv9 h9 ⟨rfl, I9, rfl, ho, hlx⟩
        rcases rdO_c ho with ⟨k1, l1, s1, w1, m1, g1, f1, y1, c1, d1, hr1, hk1, hc1, rfl⟩ | ⟨p1, cs1, m1, g1, hr1, hp1, hn1, rfl⟩
        · refine tv_b (pc' := 29) (ls' := [some (.ref 57), some (.int (nI o)), some (.int (nI i))]) (st' := [.int (nI o), .ref 57]) (h' := (n, sl, wKK kk, (rdI I s1 w1 39 m1 g1 f1 y1 (nI c1) d1), L, wQQ q)) 2 rfl ?_
          refine tv_cvE [.int (nI o)] [] rfl rfl (by omega) rfl (Nat.le_of_ble_eq_true rfl) (Nat.le_of_ble_eq_true rfl) (Or.inr (Or.inr rfl)) (ev_r_bothE hk1) ?_
          refine tv_b (pc' := 35) (ls' := [some (.ref 57), some (.int (nI o)), some (.int (nI i))]) (st' := [.int 7, .ref 57]) (h' := (n, sl, wKK kk, (rdI I s1 w1 39 m1 g1 (nI k1) (nI l1) (nI c1) d1), L, wQQ q)) 2 rfl ?_
          refine tv_cvE [.int 7] [] rfl rfl (by omega) rfl (Nat.le_of_ble_eq_true rfl) (Nat.le_of_ble_eq_true rfl) (Or.inr (Or.inr rfl)) (ev_r_emitF (rd_k (rd_F hk1))) ?_
          refine tv_iincN (k := i) (ls' := [some (.ref 57), some (.int (nI o)), some (.int (nI (i + 1)))]) rfl rfl rfl ?_
          refine tv_b (pc' := 7) (ls' := [some (.ref 57), some (.int (nI o)), some (.int (nI (i + 1)))]) (st' := []) (h' := (n, sl, wKK kk, (rdI I s1 w1 39 m1 g1 (nI k1) (nI l1) (nI c1) d1), L, wQQ q)) 1 rfl ?_
          refine tv_b (pc' := (if 800 ≤ (nI (i + 1)) then 44 else 14)) (ls' := [some (.ref 57), some (.int (nI o)), some (.int (nI (i + 1)))]) (st' := []) (h' := (n, sl, wKK kk, (rdI I s1 w1 39 m1 g1 (nI k1) (nI l1) (nI c1) d1), L, wQQ q)) 3 rfl ?_
          refine tv_ifq (nI_leI (a := 800) (b := i + 1) (by omega) (by omega)) (fun c11 => ?_) (fun c11 => ?_)
          · refine tv_rv rfl ⟨rfl, _, rfl, ?_⟩
            rw [pa_lp_yes (op := (fun t => Nat.beq t 7)) (by rw [c20]; rfl)]
            exact rdO_bl hr1 (rdO_F hr1 ⟨(rd_F hk1), by omega⟩ rfl)
          · refine tv_b (pc' := 44) (ls' := [some (.ref 57), some (.int (nI o)), some (.int (nI (i + 1)))]) (st' := []) (h' := (n, sl, wKK kk, (rdI I s1 w1 39 m1 g1 (nI k1) (nI l1) (nI c1) d1), L, wQQ q)) 4 rfl ?_
            refine tv_rv rfl ⟨rfl, _, rfl, ?_⟩
            rw [pa_lp_yes (op := (fun t => Nat.beq t 7)) (by rw [c20]; rfl)]
            exact rdO_bl hr1 (rdO_F hr1 ⟨(rd_F hk1), by omega⟩ rfl)
        · have ht1 := pa_tk_lt (b := tx) (n := T) p1
          have hg1 := pa_edo (tx := tx) (T := T) p1
          obtain ⟨hl1, hv1⟩ := hlx _ _ hr1
          have hj1 := pa_ed_le (b := tx) (n := T) (p := p1) hp1.1
          obtain ⟨hq1, hz1⟩ := pa_nx_r hr1
          have hy1 : cs1.length = 0 := by rw [hz1]; rfl
          refine tv_b (pc' := 29) (ls' := [some (.ref 57), some (.int (nI o)), some (.int (nI i))]) (st' := [.int (nI o), .ref 57]) (h' := (n, sl, wKK kk, (rdI I (nI (pa_sk tx T p1)) (nI (pa_sk tx T p1)) (nI (pa_tk tx T p1)) m1 g1 0 (-1) (nI (ce + cs1.length)) (pa_wr cd ce cs1)), L, wQQ q)) 2 rfl ?_
          refine tv_cv [.int (nI o)] [] rfl rfl (by omega) rfl (Nat.le_of_ble_eq_true rfl) (Nat.le_of_ble_eq_true rfl) (Or.inr (Or.inr rfl)) (hI _ p1 _ _ _ _ (by omega) (by omega) (by omega) hn1 hl1) ?_
          rintro rv9 h9 ⟨rfl, I9, rfl, ho, hlx⟩
          rcases rdO_c ho with ⟨k2, l2, s2, w2, m2, g2, f2, y2, c2, d2, hr2, hk2, hc2, rfl⟩ | ⟨p2, cs2, m2, g2, hr2, hp2, hn2, rfl⟩
          · refine tv_b (pc' := 35) (ls' := [some (.ref 57), some (.int (nI o)), some (.int (nI i))]) (st' := [.int 7, .ref 57]) (h' := (n, sl, wKK kk, (rdI I s2 w2 39 m2 g2 f2 y2 (nI c2) d2), L, wQQ q)) 2 rfl ?_
            refine tv_cv [.int 7] [] rfl rfl (by omega) rfl (Nat.le_of_ble_eq_true rfl) (Nat.le_of_ble_eq_true rfl) (Or.inr (Or.inr rfl)) (tv_r_emitE hk2 (by omega)) ?_
            rintro rv9 h9 ⟨rfl, e14, b14, hb14, rfl⟩
            refine tv_iincN (k := i) (ls' := [some (.ref 57), some (.int (nI o)), some (.int (nI (i + 1)))]) rfl rfl rfl ?_
            refine tv_b (pc' := 7) (ls' := [some (.ref 57), some (.int (nI o)), some (.int (nI (i + 1)))]) (st' := []) (h' := (n, sl, wKK kk, (rdI I s2 w2 39 m2 g2 f2 y2 (nI e14) b14), L, wQQ q)) 1 rfl ?_
            refine tv_b (pc' := (if 800 ≤ (nI (i + 1)) then 44 else 14)) (ls' := [some (.ref 57), some (.int (nI o)), some (.int (nI (i + 1)))]) (st' := []) (h' := (n, sl, wKK kk, (rdI I s2 w2 39 m2 g2 f2 y2 (nI e14) b14), L, wQQ q)) 3 rfl ?_
            refine tv_ifq (nI_leI (a := 800) (b := i + 1) (by omega) (by omega)) (fun c11 => ?_) (fun c11 => ?_)
            · refine tv_rv rfl ⟨rfl, _, rfl, ?_⟩
              rw [pa_lp_yes (op := (fun t => Nat.beq t 7)) (by rw [c20]; rfl)]
              refine rdO_b hr1 ?_
              try dsimp only
              exact rdO_bl hr2 (rdO_F hr2 ⟨hk2, by omega⟩ rfl)
            · refine tv_b (pc' := 44) (ls' := [some (.ref 57), some (.int (nI o)), some (.int (nI (i + 1)))]) (st' := []) (h' := (n, sl, wKK kk, (rdI I s2 w2 39 m2 g2 f2 y2 (nI e14) b14), L, wQQ q)) 4 rfl ?_
              refine tv_rv rfl ⟨rfl, _, rfl, ?_⟩
              rw [pa_lp_yes (op := (fun t => Nat.beq t 7)) (by rw [c20]; rfl)]
              refine rdO_b hr1 ?_
              try dsimp only
              exact rdO_bl hr2 (rdO_F hr2 ⟨hk2, by omega⟩ rfl)
          · have ht2 := pa_tk_lt (b := tx) (n := T) p2
            have hg2 := pa_edo (tx := tx) (T := T) p2
            obtain ⟨hl2, hv2⟩ := hlx _ _ hr2
            have hj2 := pa_ed_le (b := tx) (n := T) (p := p2) hp2.1
            refine tv_b (pc' := 35) (ls' := [some (.ref 57), some (.int (nI o)), some (.int (nI i))]) (st' := [.int 7, .ref 57]) (h' := (n, sl, wKK kk, (rdI I (nI (pa_sk tx T p2)) (nI (pa_sk tx T p2)) (nI (pa_tk tx T p2)) m2 g2 0 (-1) (nI (ce + cs1.length + cs2.length)) (pa_wr (pa_wr cd ce cs1) (ce + cs1.length) cs2)), L, wQQ q)) 2 rfl ?_
            refine tv_cvE [.int 7] [] rfl rfl (by omega) rfl (Nat.le_of_ble_eq_true rfl) (Nat.le_of_ble_eq_true rfl) (Or.inr (Or.inr rfl)) (ev_r_emit (by omega)) ?_
            refine tv_iincN (k := i) (ls' := [some (.ref 57), some (.int (nI o)), some (.int (nI (i + 1)))]) rfl rfl rfl ?_
            refine tv_b (pc' := 7) (ls' := [some (.ref 57), some (.int (nI o)), some (.int (nI (i + 1)))]) (st' := []) (h' := (n, sl, wKK kk, (rdI I (nI (pa_sk tx T p2)) (nI (pa_sk tx T p2)) (nI (pa_tk tx T p2)) m2 g2 0 (-1) (nI (ce + cs1.length + cs2.length + 1)) (upd (pa_wr (pa_wr cd ce cs1) (ce + cs1.length) cs2) (ce + cs1.length + cs2.length) 7)), L, wQQ q)) 1 rfl ?_
            refine tv_w (ih (i + 1) p2 (ce + cs1.length + cs2.length + 1) (upd (pa_wr (pa_wr cd ce cs1) (ce + cs1.length) cs2) (ce + cs1.length + cs2.length) 7) m2 g2 (by omega) (by omega) (by omega) hn2 hl2) ?_
            rintro rv h' ⟨rfl, I2, rfl, ho2⟩
            refine ⟨rfl, _, rfl, ?_⟩
            rw [pa_lp_yes (op := (fun t => Nat.beq t 7)) (by rw [c20]; rfl)]
            refine rdO_b hr1 ?_
            try dsimp only
            refine rdO_b hr2 ?_
            try dsimp only
            refine rdO_b (cs := [pa_tk tx T p]) (p := p2) rfl ?_
            have e8 : nI (pa_tk tx T p) = 7 := by rw [c20]; rfl
            show rdO tx T G _ (ce + cs1.length + cs2.length + 1) (upd (pa_wr (pa_wr cd ce cs1) (ce + cs1.length) cs2) (ce + cs1.length + cs2.length) (nI (pa_tk tx T p))) I I2
            rw [e8]
            exact ho2
      · have hno : (fun t => Nat.beq t 7) (pa_tk tx T p) = false := by
          exact pa_bfalse c20
        exact tv_rv rfl ⟨rfl, _, rfl, by rw [pa_lp_no hno]; exact rdO_N (cs := []) rfl ⟨hp, hce⟩ hnm rfl⟩
  have ht0 := pa_tk_lt (b := tx) (n := T) p
  have hg0 := pa_edo (tx := tx) (T := T) p
  have hj0 := pa_ed_le (b := tx) (n := T) (p := p) hp
  show am_T _ _ _ [some (.ref 57), some (.int (nI o)), none] _ (n, sl, wKK kk, (rdI I (nI (pa_sk tx T p)) (nI (pa_sk tx T p)) (nI (pa_tk tx T p)) nm gn 0 (-1) (nI ce) cd), L, wQQ q) _
  refine tv_b (pc' := 2) (ls' := [some (.ref 57), some (.int (nI o)), none]) (st' := [.int (nI o), .ref 57]) (h' := (n, sl, wKK kk, (rdI I (nI (pa_sk tx T p)) (nI (pa_sk tx T p)) (nI (pa_tk tx T p)) nm gn 0 (-1) (nI ce) cd), L, wQQ q)) 2 rfl ?_
  refine tv_cv [.int (nI o)] [] rfl rfl (by omega) rfl (Nat.le_of_ble_eq_true rfl) (Nat.le_of_ble_eq_true rfl) (Or.inr (Or.inr rfl)) (hI _ p _ _ _ _ (by omega) (by omega) (by omega) hnm hl0) ?_
  rintro rv9 h9 ⟨rfl, I9, rfl, ho, hlx⟩
  rcases rdO_c ho with ⟨k1, l1, s1, w1, m1, g1, f1, y1, c1, d1, hr1, hk1, hc1, rfl⟩ | ⟨p1, cs1, m1, g1, hr1, hp1, hn1, rfl⟩
  · refine tv_b (pc' := 7) (ls' := [some (.ref 57), some (.int (nI o)), some (.int 0)]) (st' := []) (h' := (n, sl, wKK kk, (rdI I s1 w1 39 m1 g1 f1 y1 (nI c1) d1), L, wQQ q)) 2 rfl ?_
    refine tv_b (pc' := 44) (ls' := [some (.ref 57), some (.int (nI o)), some (.int 0)]) (st' := []) (h' := (n, sl, wKK kk, (rdI I s1 w1 39 m1 g1 f1 y1 (nI c1) d1), L, wQQ q)) 7 rfl ?_
    exact tv_rv rfl ⟨rfl, _, rfl, rdO_bl hr1 (rdO_F hr1 ⟨hk1, by omega⟩ rfl), hlast⟩
  · have ht1 := pa_tk_lt (b := tx) (n := T) p1
    have hg1 := pa_edo (tx := tx) (T := T) p1
    obtain ⟨hl1, hv1⟩ := hlx _ _ hr1
    have hj1 := pa_ed_le (b := tx) (n := T) (p := p1) hp1.1
    refine tv_b (pc' := 7) (ls' := [some (.ref 57), some (.int (nI o)), some (.int 0)]) (st' := []) (h' := (n, sl, wKK kk, (rdI I (nI (pa_sk tx T p1)) (nI (pa_sk tx T p1)) (nI (pa_tk tx T p1)) m1 g1 0 (-1) (nI (ce + cs1.length)) (pa_wr cd ce cs1)), L, wQQ q)) 2 rfl ?_
    refine tv_w (loop 800 0 p1 (ce + cs1.length) (pa_wr cd ce cs1) m1 g1 (by omega) (by omega) (by omega) hn1 hl1) ?_
    rintro rv h' ⟨rfl, I2, rfl, ho2⟩
    exact ⟨rfl, _, rfl, rdO_b hr1 ho2, hlast⟩
