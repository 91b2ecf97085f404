/-! THE CLASS'S READER: the next token, brackets -/
section RP
variable {tx : Nat → Nat} {T ce : Nat} {cd : Nat → Int32} {I I' : Nat → Nat → Int32}
theorem pa_ex_t {t p : Nat} (h : pa_tk tx T p = t) : pa_ex tx T (Nat.beq (pa_tk tx T p) t) p = pa_nx tx T p := by
  rw [h, Nat.beq_refl]; rfl
theorem pa_ex_f {t p : Nat} (h : ¬ pa_tk tx T p = t) : pa_ex tx T (Nat.beq (pa_tk tx T p) t) p = .inl (1, pa_sk tx T p) := by
  rw [pa_bfalse h]; rfl
theorem pa_edo (p : Nat) : pa_tk tx T p = 38 ∨ (p < pa_ed tx T p ∧ pa_ed tx T p ≤ T) := by
  by_cases h : pa_tk tx T p = 38
  · exact Or.inl h
  · exact Or.inr (pa_ed_gt h)
theorem rdO_em {G p c : Nat} {nm gn : Int32} (hp : p ≤ T ∧ ce + 1 ≤ p) (hn : rdQ tx T G p nm gn) (hI : I' = rdT tx T I p nm gn (ce + 1) (upd cd ce (nI c))) : rdO tx T G (pa_em c p) ce cd I I' := rdO_N (cs := [c]) rfl hp hn hI
theorem pa_nm_lt {p : Nat} (h : pa_lf tx T p = none) (h21 : pa_tk tx T p = 21) : pa_nm tx T p < 10000000 := pa_nm_b tx T p
theorem pa_nx_lf {p p' : Nat} {cs : List Nat} (h : pa_nx tx T p = .inr (p', cs)) : pa_lf tx T p' = none := by
  unfold pa_nx at h
  cases hf : pa_lf tx T (pa_ed tx T p) with
  | none =>
    rw [hf] at h
    have h3 := Sum.inr.inj h
    rw [← (Prod.mk.inj h3).1]
    exact hf
  | some f => rw [hf] at h; cases h
end RP
theorem ev_r_isCol {d v : Nat} {h : am_H} (hv : v < 2 ^ 31) : am_Ev d 149 0 (am_ent 1 [.int (nI v)]) [] h (some (.int (if v < 16 then 1 else 0)), h) := by
  have e := ev_isColumn (d := d) (h := h) (x := nI v)
  have e2 : sp_isColumn (nI v) = (if v < 16 then 1 else 0) := by
    unfold sp_isColumn
    rw [if_neg (Int32.not_lt.mpr (nI_0le hv))]
    by_cases c : v < 16
    · rw [if_pos c, if_neg (fun q => by have := (nI_leI (a := 16) (by omega) hv).mp q; omega)]
    · rw [if_neg c, if_pos (show (16 : Int32) ≤ nI v from (nI_leI (a := 16) (by omega) hv).mpr (by omega))]
  rw [e2] at e
  exact e
/-- the contract of a piece of the grammar -/
def rdC (tx : Nat → Nat) (T G n sl : Nat) (kk : Nat → Nat × Nat) (I : Nat → Nat → Int32) (L : Nat → Nat → Int64) (q : Nat → Nat → Option Nat) (mi ml dep o : Nat) (f : Nat → pa_E) : Prop := ∀ (d p ce : Nat) (cd : Nat → Int32) (nm gn : Int32), dep ≤ d → p ≤ T → ce ≤ p → rdQ tx T G p nm gn → pa_lf tx T p = none → am_T d mi 0 (am_ent ml [.ref 57, .int (nI o)]) [] (n, sl, wKK kk, rdT tx T I p nm gn ce cd, L, wQQ q) (fun rv h' => rv = none ∧ ∃ I', h' = (n, sl, wKK kk, I', L, wQQ q) ∧ rdO tx T G (f p) ce cd I I' ∧ (∀ p' cs, f p = .inr (p', cs) → pa_lf tx T p' = none ∧ p + cs.length ≤ p'))
theorem tv_r_nx {d n sl : Nat} {kk : Nat → Nat × Nat} {I : Nat → Nat → Int32} {L : Nat → Nat → Int64} {q : Nat → Nat → Option Nat} {tx : Nat → Nat} {T G : Nat} {p ce : Nat} {cd : Nat → Int32} {nm gn : Int32} (hH : rdG tx T G I) (hp : p ≤ T) (hce : ce ≤ pa_ed tx T p) (hn : rdQ tx T G p nm gn) : am_T d 83 0 (am_ent 1 [.ref 57]) [] (n, sl, wKK kk, rdT tx T I p nm gn ce cd, L, wQQ q) (fun rv h' => rv = none ∧ ∃ I', h' = (n, sl, wKK kk, I', L, wQQ q) ∧ rdO tx T G (pa_nx tx T p) ce cd I I' ∧ (∀ p' cs, pa_nx tx T p = .inr (p', cs) → pa_lf tx T p' = none ∧ p + cs.length ≤ p')) := by
  have hT := hH.2.1
  have he := (pa_ed_le (b := tx) hp).1
  refine tv_w (tv_r_nxK hH hn) ?_
  rintro rv h' ⟨rfl, nm2, gn2, hq, rfl⟩
  refine ⟨rfl, _, rfl, ?_, fun p' cs h => ⟨pa_nx_lf h, ?_⟩⟩
  rotate_left
  · obtain ⟨h1, h2⟩ := pa_nx_r h
    have h3 := (pa_ed_le (b := tx) hp).2
    rw [h1, h2]
    exact h3
  unfold pa_nx
  cases hf : pa_lf tx T (pa_ed tx T p) with
  | some f => exact rdK_s hf (by omega)
  | none =>
    rw [(pa_kd_n hf).1] at hq
    exact ⟨he, hce, nm2, gn2, hq, rdK_n hf⟩
theorem tv_r_ex1 {d n sl : Nat} {kk : Nat → Nat × Nat} {I : Nat → Nat → Int32} {L : Nat → Nat → Int64} {q : Nat → Nat → Option Nat} {tx : Nat → Nat} {T G : Nat} {p ce : Nat} {cd : Nat → Int32} {nm gn : Int32} (hH : rdG tx T G I) (hp : p ≤ T) (hce : ce ≤ pa_ed tx T p) (hn : rdQ tx T G p nm gn) : am_T (d + 1) 79 0 (am_ent 2 [.ref 57, .int 1]) [] (n, sl, wKK kk, rdT tx T I p nm gn ce cd, L, wQQ q) (fun rv h' => rv = none ∧ ∃ I', h' = (n, sl, wKK kk, I', L, wQQ q) ∧ rdO tx T G (pa_nx tx T p) ce cd I I' ∧ (∀ p' cs, pa_nx tx T p = .inr (p', cs) → pa_lf tx T p' = none ∧ p + cs.length ≤ p')) := by
  show am_T _ _ 0 [some (.ref 57), some (.int 1)] _ (n, sl, wKK kk, (rdI I (nI (pa_sk tx T p)) (nI (pa_sk tx T p)) (nI (pa_tk tx T p)) nm gn 0 (-1) (nI ce) cd), L, wQQ q) _
  refine tv_b (pc' := 14) (ls' := [some (.ref 57), some (.int 1)]) (st' := [.ref 57]) (h' := (n, sl, wKK kk, (rdI I (nI (pa_sk tx T p)) (nI (pa_sk tx T p)) (nI (pa_tk tx T p)) nm gn 0 (-1) (nI ce) cd), L, wQQ q)) 3 rfl ?_
  refine tv_cv [] [] rfl rfl (by omega) rfl (Nat.le_of_ble_eq_true rfl) (Nat.le_of_ble_eq_true rfl) (Or.inr (Or.inr rfl)) (tv_r_nx hH hp hce hn) ?_
  rintro rv9 h9 ⟨rfl, ho⟩
  exact tv_rv rfl ⟨rfl, ho⟩
theorem ev_r_ex0 {d n sl : Nat} {kk : Nat → Nat × Nat} {I : Nat → Nat → Int32} {L : Nat → Nat → Int64} {q : Nat → Nat → Option Nat} {tx : Nat → Nat} {T : Nat} {p ce : Nat} {cd : Nat → Int32} {nm gn : Int32}  : am_Ev (d + 1) 79 0 (am_ent 2 [.ref 57, .int 0]) [] (n, sl, wKK kk, (rdI I (nI (pa_sk tx T p)) (nI (pa_sk tx T p)) (nI (pa_tk tx T p)) nm gn 0 (-1) (nI ce) cd), L, wQQ q) (none, (n, sl, wKK kk, (rdI I (nI (pa_sk tx T p)) (nI (pa_sk tx T p)) 39 nm gn 1 (nI (pa_sk tx T p)) (nI ce) cd), L, wQQ q)) := by
  refine tv_ev ?_
  show am_T _ _ 0 [some (.ref 57), some (.int 0)] _ _ _
  refine tv_b (pc' := 10) (ls' := [some (.ref 57), some (.int 0)]) (st' := [.int (nI (pa_sk tx T p)), .int 1, .ref 57]) (h' := (n, sl, wKK kk, (rdI I (nI (pa_sk tx T p)) (nI (pa_sk tx T p)) (nI (pa_tk tx T p)) nm gn 0 (-1) (nI ce) cd), L, wQQ q)) 6 rfl ?_
  refine tv_cvE [.int 1, .int (nI (pa_sk tx T p))] [] rfl rfl (by omega) rfl (Nat.le_of_ble_eq_true rfl) (Nat.le_of_ble_eq_true rfl) (Or.inr (Or.inr rfl)) (ev_r_fail0) ?_
  refine tv_b (pc' := 14) (ls' := [some (.ref 57), some (.int 0)]) (st' := [.ref 57]) (h' := (n, sl, wKK kk, (rdI I (nI (pa_sk tx T p)) (nI (pa_sk tx T p)) 39 nm gn 1 (nI (pa_sk tx T p)) (nI ce) cd), L, wQQ q)) 1 rfl ?_
  refine tv_cvE [] [] rfl rfl (by omega) rfl (Nat.le_of_ble_eq_true rfl) (Nat.le_of_ble_eq_true rfl) (Or.inr (Or.inr rfl)) (ev_r_nextF (by decide)) ?_
  exact tv_rv rfl ⟨rfl, rfl⟩
theorem ev_r_op5_32 {d n sl : Nat} {kk : Nat → Nat × Nat} {I : Nat → Nat → Int32} {L : Nat → Nat → Int64} {q : Nat → Nat → Option Nat} {tx : Nat → Nat} {T : Nat} {p ce : Nat} {cd : Nat → Int32} {nm gn : Int32} {o : Nat} (ht : pa_tk tx T p = 32) (ho : 8 ≤ o) (ho2 : o ≤ 100) : am_Ev (d + 1) 78 0 (am_ent 3 [.ref 57, .int 32, .int (nI o)]) [] (n, sl, wKK kk, (rdI I (nI (pa_sk tx T p)) (nI (pa_sk tx T p)) (nI (pa_tk tx T p)) nm gn 0 (-1) (nI ce) cd), L, wQQ q) (some (.int 0), (n, sl, wKK kk, (rdI I (nI (pa_sk tx T p)) (nI (pa_sk tx T p)) 39 nm gn 5 (nI (pa_sk tx T p)) (nI ce) cd), L, wQQ q)) := by
  refine tv_ev ?_
  show am_T _ _ 0 [some (.ref 57), some (.int 32), some (.int (nI o))] _ _ _
  refine tv_b (pc' := (if (nI (pa_tk tx T p)) = 32 then 20 else 8)) (ls' := [some (.ref 57), some (.int 32), some (.int (nI o))]) (st' := []) (h' := (n, sl, wKK kk, (rdI I (nI (pa_sk tx T p)) (nI (pa_sk tx T p)) (nI (pa_tk tx T p)) nm gn 0 (-1) (nI ce) cd), L, wQQ q)) 4 rfl ?_
  refine tv_t ((nI_eq (a := (pa_tk tx T p)) (b := 32) (by omega) (by omega)).mpr (by omega)) ?_
  refine tv_b (pc' := (if (nI o) < 8 then 35 else 26)) (ls' := [some (.ref 57), some (.int 32), some (.int (nI o))]) (st' := []) (h' := (n, sl, wKK kk, (rdI I (nI (pa_sk tx T p)) (nI (pa_sk tx T p)) (nI (pa_tk tx T p)) nm gn 0 (-1) (nI ce) cd), L, wQQ q)) 3 rfl ?_
  refine tv_f (fun hq => absurd ((nI_ltI (a := o) (b := 8) (by omega) (by omega)).mp hq) (by omega)) ?_
  refine tv_b (pc' := 32) (ls' := [some (.ref 57), some (.int 32), some (.int (nI o))]) (st' := [.int (nI (pa_sk tx T p)), .int 5, .ref 57]) (h' := (n, sl, wKK kk, (rdI I (nI (pa_sk tx T p)) (nI (pa_sk tx T p)) (nI (pa_tk tx T p)) nm gn 0 (-1) (nI ce) cd), L, wQQ q)) 4 rfl ?_
  refine tv_cvE [.int 5, .int (nI (pa_sk tx T p))] [] rfl rfl (by omega) rfl (Nat.le_of_ble_eq_true rfl) (Nat.le_of_ble_eq_true rfl) (Or.inr (Or.inr rfl)) (ev_r_fail0) ?_
  refine tv_b (pc' := 36) (ls' := [some (.ref 57), some (.int 32), some (.int (nI o))]) (st' := [.ref 57]) (h' := (n, sl, wKK kk, (rdI I (nI (pa_sk tx T p)) (nI (pa_sk tx T p)) 39 nm gn 5 (nI (pa_sk tx T p)) (nI ce) cd), L, wQQ q)) 1 rfl ?_
  refine tv_cvE [] [] rfl rfl (by omega) rfl (Nat.le_of_ble_eq_true rfl) (Nat.le_of_ble_eq_true rfl) (Or.inr (Or.inr rfl)) (ev_r_nextF (by decide)) ?_
  refine tv_b (pc' := 51) (ls' := [some (.ref 57), some (.int 32), some (.int (nI o))]) (st' := [.int 0]) (h' := (n, sl, wKK kk, (rdI I (nI (pa_sk tx T p)) (nI (pa_sk tx T p)) 39 nm gn 5 (nI (pa_sk tx T p)) (nI ce) cd), L, wQQ q)) 4 rfl ?_
  exact tv_rz rfl (Or.inl rfl) ⟨rfl, rfl⟩
theorem ev_r_op1_32 {d n sl : Nat} {kk : Nat → Nat × Nat} {I : Nat → Nat → Int32} {L : Nat → Nat → Int64} {q : Nat → Nat → Option Nat} {tx : Nat → Nat} {T : Nat} {p ce : Nat} {cd : Nat → Int32} {nm gn : Int32} {x : Int32} (ht : ¬ pa_tk tx T p = 32) (h40 : pa_tk tx T p < 40) : am_Ev (d + 1) 78 0 (am_ent 3 [.ref 57, .int 32, .int x]) [] (n, sl, wKK kk, (rdI I (nI (pa_sk tx T p)) (nI (pa_sk tx T p)) (nI (pa_tk tx T p)) nm gn 0 (-1) (nI ce) cd), L, wQQ q) (some (.int 0), (n, sl, wKK kk, (rdI I (nI (pa_sk tx T p)) (nI (pa_sk tx T p)) 39 nm gn 1 (nI (pa_sk tx T p)) (nI ce) cd), L, wQQ q)) := by
  refine tv_ev ?_
  show am_T _ _ 0 [some (.ref 57), some (.int 32), some (.int x)] _ _ _
  refine tv_b (pc' := (if (nI (pa_tk tx T p)) = 32 then 20 else 8)) (ls' := [some (.ref 57), some (.int 32), some (.int x)]) (st' := []) (h' := (n, sl, wKK kk, (rdI I (nI (pa_sk tx T p)) (nI (pa_sk tx T p)) (nI (pa_tk tx T p)) nm gn 0 (-1) (nI ce) cd), L, wQQ q)) 4 rfl ?_
  refine tv_f (fun hq => absurd ((nI_eq (a := (pa_tk tx T p)) (b := 32) (by omega) (by omega)).mp hq) (by omega)) ?_
  refine tv_b (pc' := 14) (ls' := [some (.ref 57), some (.int 32), some (.int x)]) (st' := [.int (nI (pa_sk tx T p)), .int 1, .ref 57]) (h' := (n, sl, wKK kk, (rdI I (nI (pa_sk tx T p)) (nI (pa_sk tx T p)) (nI (pa_tk tx T p)) nm gn 0 (-1) (nI ce) cd), L, wQQ q)) 4 rfl ?_
  refine tv_cvE [.int 1, .int (nI (pa_sk tx T p))] [] rfl rfl (by omega) rfl (Nat.le_of_ble_eq_true rfl) (Nat.le_of_ble_eq_true rfl) (Or.inr (Or.inr rfl)) (ev_r_fail0) ?_
  refine tv_b (pc' := 36) (ls' := [some (.ref 57), some (.int 32), some (.int x)]) (st' := [.ref 57]) (h' := (n, sl, wKK kk, (rdI I (nI (pa_sk tx T p)) (nI (pa_sk tx T p)) 39 nm gn 1 (nI (pa_sk tx T p)) (nI ce) cd), L, wQQ q)) 2 rfl ?_
  refine tv_cvE [] [] rfl rfl (by omega) rfl (Nat.le_of_ble_eq_true rfl) (Nat.le_of_ble_eq_true rfl) (Or.inr (Or.inr rfl)) (ev_r_nextF (by decide)) ?_
  refine tv_b (pc' := 51) (ls' := [some (.ref 57), some (.int 32), some (.int x)]) (st' := [.int 0]) (h' := (n, sl, wKK kk, (rdI I (nI (pa_sk tx T p)) (nI (pa_sk tx T p)) 39 nm gn 1 (nI (pa_sk tx T p)) (nI ce) cd), L, wQQ q)) 4 rfl ?_
  exact tv_rz rfl (Or.inl rfl) ⟨rfl, rfl⟩
theorem tv_r_op_32 {d n sl : Nat} {kk : Nat → Nat × Nat} {I : Nat → Nat → Int32} {L : Nat → Nat → Int64} {q : Nat → Nat → Option Nat} {tx : Nat → Nat} {T G : Nat} {p ce o : Nat} {cd : Nat → Int32} {nm gn : Int32} (hH : rdG tx T G I) (hp : p ≤ T) (hce : ce ≤ p) (ht : pa_tk tx T p = 32) (ho : o < 8) (hn : rdQ tx T G p nm gn) : am_T (d + 1) 78 0 (am_ent 3 [.ref 57, .int 32, .int (nI o)]) [] (n, sl, wKK kk, rdT tx T I p nm gn ce cd, L, wQQ q) (fun rv h' => (rv = some (.int 1) ∨ rv = some (.int 0)) ∧ (∀ w, pa_nx tx T p = .inr w → rv = some (.int 1)) ∧ ∃ I', h' = (n, sl, wKK kk, I', L, wQQ q) ∧ rdO tx T G (pa_nx tx T p) ce cd I I' ∧ (∀ p' cs, pa_nx tx T p = .inr (p', cs) → pa_lf tx T p' = none ∧ p + cs.length ≤ p')) := by
  have hT := hH.2.1
  have hg0 := pa_edo (tx := tx) (T := T) p
  have hj0 := pa_ed_le (b := tx) (n := T) (p := p) hp
  show am_T _ _ 0 [some (.ref 57), some (.int 32), some (.int (nI o))] _ (n, sl, wKK kk, (rdI I (nI (pa_sk tx T p)) (nI (pa_sk tx T p)) (nI (pa_tk tx T p)) nm gn 0 (-1) (nI ce) cd), L, wQQ q) _
  refine tv_b (pc' := (if (nI (pa_tk tx T p)) = 32 then 20 else 8)) (ls' := [some (.ref 57), some (.int 32), some (.int (nI o))]) (st' := []) (h' := (n, sl, wKK kk, (rdI I (nI (pa_sk tx T p)) (nI (pa_sk tx T p)) (nI (pa_tk tx T p)) nm gn 0 (-1) (nI ce) cd), L, wQQ q)) 4 rfl ?_
  refine tv_t ((nI_eq (a := (pa_tk tx T p)) (b := 32) (by omega) (by omega)).mpr (by omega)) ?_
  refine tv_b (pc' := (if (nI o) < 8 then 35 else 26)) (ls' := [some (.ref 57), some (.int 32), some (.int (nI o))]) (st' := []) (h' := (n, sl, wKK kk, (rdI I (nI (pa_sk tx T p)) (nI (pa_sk tx T p)) (nI (pa_tk tx T p)) nm gn 0 (-1) (nI ce) cd), L, wQQ q)) 3 rfl ?_
  refine tv_t ((nI_ltI (a := o) (b := 8) (by omega) (by omega)).mpr (by omega)) ?_
  refine tv_b (pc' := 36) (ls' := [some (.ref 57), some (.int 32), some (.int (nI o))]) (st' := [.ref 57]) (h' := (n, sl, wKK kk, (rdI I (nI (pa_sk tx T p)) (nI (pa_sk tx T p)) (nI (pa_tk tx T p)) nm gn 0 (-1) (nI ce) cd), L, wQQ q)) 1 rfl ?_
  refine tv_cv [] [] rfl rfl (by omega) rfl (Nat.le_of_ble_eq_true rfl) (Nat.le_of_ble_eq_true rfl) (Or.inr (Or.inr rfl)) (tv_r_nx hH hp (by omega) hn) ?_
  rintro rv9 h9 ⟨rfl, I9, rfl, ho, hlx⟩
  rcases rdO_c ho with ⟨k1, l1, s1, w1, m1, g1, f1, y1, c1, d1, hr1, hk1, hc1, rfl⟩ | ⟨p1, cs1, m1, g1, hr1, hp1, hn1, rfl⟩
  · refine tv_b (pc' := (if f1 = 0 then 46 else 50)) (ls' := [some (.ref 57), some (.int 32), some (.int (nI o))]) (st' := []) (h' := (n, sl, wKK kk, (rdI I s1 w1 39 m1 g1 f1 y1 (nI c1) d1), L, wQQ q)) 3 rfl ?_
    refine tv_if (fun c43 => ?_) (fun c43 => ?_)
    · refine tv_b (pc' := 51) (ls' := [some (.ref 57), some (.int 32), some (.int (nI o))]) (st' := [.int 1]) (h' := (n, sl, wKK kk, (rdI I s1 w1 39 m1 g1 f1 y1 (nI c1) d1), L, wQQ q)) 2 rfl ?_
      exact tv_rz rfl (Or.inr rfl) ⟨Or.inl rfl, (fun _ _ => rfl), _, rfl, rdO_F hr1 ⟨hk1, by omega⟩ rfl, hlx⟩
    · refine tv_b (pc' := 51) (ls' := [some (.ref 57), some (.int 32), some (.int (nI o))]) (st' := [.int 0]) (h' := (n, sl, wKK kk, (rdI I s1 w1 39 m1 g1 f1 y1 (nI c1) d1), L, wQQ q)) 1 rfl ?_
      exact tv_rz rfl (Or.inl rfl) ⟨Or.inr rfl, (fun w h => by rw [hr1] at h; cases h), _, rfl, rdO_F hr1 ⟨hk1, by omega⟩ rfl, hlx⟩
  · have ht1 := pa_tk_lt (b := tx) (n := T) p1
    have hg1 := pa_edo (tx := tx) (T := T) p1
    obtain ⟨hl1, hv1⟩ := hlx _ _ hr1
    have hj1 := pa_ed_le (b := tx) (n := T) (p := p1) hp1.1
    obtain ⟨hq1, hz1⟩ := pa_nx_r hr1
    have hy1 : cs1.length = 0 := by rw [hz1]; rfl
    refine tv_b (pc' := 51) (ls' := [some (.ref 57), some (.int 32), some (.int (nI o))]) (st' := [.int 1]) (h' := (n, sl, wKK kk, (rdI I (nI (pa_sk tx T p1)) (nI (pa_sk tx T p1)) (nI (pa_tk tx T p1)) m1 g1 0 (-1) (nI (ce + cs1.length)) (pa_wr cd ce cs1)), L, wQQ q)) 5 rfl ?_
    exact tv_rz rfl (Or.inr rfl) ⟨Or.inl rfl, fun _ _ => rfl, _, rfl, rdO_N hr1 hp1 hn1 rfl, hlx⟩
theorem ev_r_op5_34 {d n sl : Nat} {kk : Nat → Nat × Nat} {I : Nat → Nat → Int32} {L : Nat → Nat → Int64} {q : Nat → Nat → Option Nat} {tx : Nat → Nat} {T : Nat} {p ce : Nat} {cd : Nat → Int32} {nm gn : Int32} {o : Nat} (ht : pa_tk tx T p = 34) (ho : 8 ≤ o) (ho2 : o ≤ 100) : am_Ev (d + 1) 78 0 (am_ent 3 [.ref 57, .int 34, .int (nI o)]) [] (n, sl, wKK kk, (rdI I (nI (pa_sk tx T p)) (nI (pa_sk tx T p)) (nI (pa_tk tx T p)) nm gn 0 (-1) (nI ce) cd), L, wQQ q) (some (.int 0), (n, sl, wKK kk, (rdI I (nI (pa_sk tx T p)) (nI (pa_sk tx T p)) 39 nm gn 5 (nI (pa_sk tx T p)) (nI ce) cd), L, wQQ q)) := by
  refine tv_ev ?_
  show am_T _ _ 0 [some (.ref 57), some (.int 34), some (.int (nI o))] _ _ _
  refine tv_b (pc' := (if (nI (pa_tk tx T p)) = 34 then 20 else 8)) (ls' := [some (.ref 57), some (.int 34), some (.int (nI o))]) (st' := []) (h' := (n, sl, wKK kk, (rdI I (nI (pa_sk tx T p)) (nI (pa_sk tx T p)) (nI (pa_tk tx T p)) nm gn 0 (-1) (nI ce) cd), L, wQQ q)) 4 rfl ?_
  refine tv_t ((nI_eq (a := (pa_tk tx T p)) (b := 34) (by omega) (by omega)).mpr (by omega)) ?_
  refine tv_b (pc' := (if (nI o) < 8 then 35 else 26)) (ls' := [some (.ref 57), some (.int 34), some (.int (nI o))]) (st' := []) (h' := (n, sl, wKK kk, (rdI I (nI (pa_sk tx T p)) (nI (pa_sk tx T p)) (nI (pa_tk tx T p)) nm gn 0 (-1) (nI ce) cd), L, wQQ q)) 3 rfl ?_
  refine tv_f (fun hq => absurd ((nI_ltI (a := o) (b := 8) (by omega) (by omega)).mp hq) (by omega)) ?_
  refine tv_b (pc' := 32) (ls' := [some (.ref 57), some (.int 34), some (.int (nI o))]) (st' := [.int (nI (pa_sk tx T p)), .int 5, .ref 57]) (h' := (n, sl, wKK kk, (rdI I (nI (pa_sk tx T p)) (nI (pa_sk tx T p)) (nI (pa_tk tx T p)) nm gn 0 (-1) (nI ce) cd), L, wQQ q)) 4 rfl ?_
  refine tv_cvE [.int 5, .int (nI (pa_sk tx T p))] [] rfl rfl (by omega) rfl (Nat.le_of_ble_eq_true rfl) (Nat.le_of_ble_eq_true rfl) (Or.inr (Or.inr rfl)) (ev_r_fail0) ?_
  refine tv_b (pc' := 36) (ls' := [some (.ref 57), some (.int 34), some (.int (nI o))]) (st' := [.ref 57]) (h' := (n, sl, wKK kk, (rdI I (nI (pa_sk tx T p)) (nI (pa_sk tx T p)) 39 nm gn 5 (nI (pa_sk tx T p)) (nI ce) cd), L, wQQ q)) 1 rfl ?_
  refine tv_cvE [] [] rfl rfl (by omega) rfl (Nat.le_of_ble_eq_true rfl) (Nat.le_of_ble_eq_true rfl) (Or.inr (Or.inr rfl)) (ev_r_nextF (by decide)) ?_
  refine tv_b (pc' := 51) (ls' := [some (.ref 57), some (.int 34), some (.int (nI o))]) (st' := [.int 0]) (h' := (n, sl, wKK kk, (rdI I (nI (pa_sk tx T p)) (nI (pa_sk tx T p)) 39 nm gn 5 (nI (pa_sk tx T p)) (nI ce) cd), L, wQQ q)) 4 rfl ?_
  exact tv_rz rfl (Or.inl rfl) ⟨rfl, rfl⟩
theorem ev_r_op1_34 {d n sl : Nat} {kk : Nat → Nat × Nat} {I : Nat → Nat → Int32} {L : Nat → Nat → Int64} {q : Nat → Nat → Option Nat} {tx : Nat → Nat} {T : Nat} {p ce : Nat} {cd : Nat → Int32} {nm gn : Int32} {x : Int32} (ht : ¬ pa_tk tx T p = 34) (h40 : pa_tk tx T p < 40) : am_Ev (d + 1) 78 0 (am_ent 3 [.ref 57, .int 34, .int x]) [] (n, sl, wKK kk, (rdI I (nI (pa_sk tx T p)) (nI (pa_sk tx T p)) (nI (pa_tk tx T p)) nm gn 0 (-1) (nI ce) cd), L, wQQ q) (some (.int 0), (n, sl, wKK kk, (rdI I (nI (pa_sk tx T p)) (nI (pa_sk tx T p)) 39 nm gn 1 (nI (pa_sk tx T p)) (nI ce) cd), L, wQQ q)) := by
  refine tv_ev ?_
  show am_T _ _ 0 [some (.ref 57), some (.int 34), some (.int x)] _ _ _
  refine tv_b (pc' := (if (nI (pa_tk tx T p)) = 34 then 20 else 8)) (ls' := [some (.ref 57), some (.int 34), some (.int x)]) (st' := []) (h' := (n, sl, wKK kk, (rdI I (nI (pa_sk tx T p)) (nI (pa_sk tx T p)) (nI (pa_tk tx T p)) nm gn 0 (-1) (nI ce) cd), L, wQQ q)) 4 rfl ?_
  refine tv_f (fun hq => absurd ((nI_eq (a := (pa_tk tx T p)) (b := 34) (by omega) (by omega)).mp hq) (by omega)) ?_
  refine tv_b (pc' := 14) (ls' := [some (.ref 57), some (.int 34), some (.int x)]) (st' := [.int (nI (pa_sk tx T p)), .int 1, .ref 57]) (h' := (n, sl, wKK kk, (rdI I (nI (pa_sk tx T p)) (nI (pa_sk tx T p)) (nI (pa_tk tx T p)) nm gn 0 (-1) (nI ce) cd), L, wQQ q)) 4 rfl ?_
  refine tv_cvE [.int 1, .int (nI (pa_sk tx T p))] [] rfl rfl (by omega) rfl (Nat.le_of_ble_eq_true rfl) (Nat.le_of_ble_eq_true rfl) (Or.inr (Or.inr rfl)) (ev_r_fail0) ?_
  refine tv_b (pc' := 36) (ls' := [some (.ref 57), some (.int 34), some (.int x)]) (st' := [.ref 57]) (h' := (n, sl, wKK kk, (rdI I (nI (pa_sk tx T p)) (nI (pa_sk tx T p)) 39 nm gn 1 (nI (pa_sk tx T p)) (nI ce) cd), L, wQQ q)) 2 rfl ?_
  refine tv_cvE [] [] rfl rfl (by omega) rfl (Nat.le_of_ble_eq_true rfl) (Nat.le_of_ble_eq_true rfl) (Or.inr (Or.inr rfl)) (ev_r_nextF (by decide)) ?_
  refine tv_b (pc' := 51) (ls' := [some (.ref 57), some (.int 34), some (.int x)]) (st' := [.int 0]) (h' := (n, sl, wKK kk, (rdI I (nI (pa_sk tx T p)) (nI (pa_sk tx T p)) 39 nm gn 1 (nI (pa_sk tx T p)) (nI ce) cd), L, wQQ q)) 4 rfl ?_
  exact tv_rz rfl (Or.inl rfl) ⟨rfl, rfl⟩
theorem tv_r_op_34 {d n sl : Nat} {kk : Nat → Nat × Nat} {I : Nat → Nat → Int32} {L : Nat → Nat → Int64} {q : Nat → Nat → Option Nat} {tx : Nat → Nat} {T G : Nat} {p ce o : Nat} {cd : Nat → Int32} {nm gn : Int32} (hH : rdG tx T G I) (hp : p ≤ T) (hce : ce ≤ p) (ht : pa_tk tx T p = 34) (ho : o < 8) (hn : rdQ tx T G p nm gn) : am_T (d + 1) 78 0 (am_ent 3 [.ref 57, .int 34, .int (nI o)]) [] (n, sl, wKK kk, rdT tx T I p nm gn ce cd, L, wQQ q) (fun rv h' => (rv = some (.int 1) ∨ rv = some (.int 0)) ∧ (∀ w, pa_nx tx T p = .inr w → rv = some (.int 1)) ∧ ∃ I', h' = (n, sl, wKK kk, I', L, wQQ q) ∧ rdO tx T G (pa_nx tx T p) ce cd I I' ∧ (∀ p' cs, pa_nx tx T p = .inr (p', cs) → pa_lf tx T p' = none ∧ p + cs.length ≤ p')) := by
  have hT := hH.2.1
  have hg0 := pa_edo (tx := tx) (T := T) p
  have hj0 := pa_ed_le (b := tx) (n := T) (p := p) hp
  show am_T _ _ 0 [some (.ref 57), some (.int 34), some (.int (nI o))] _ (n, sl, wKK kk, (rdI I (nI (pa_sk tx T p)) (nI (pa_sk tx T p)) (nI (pa_tk tx T p)) nm gn 0 (-1) (nI ce) cd), L, wQQ q) _
  refine tv_b (pc' := (if (nI (pa_tk tx T p)) = 34 then 20 else 8)) (ls' := [some (.ref 57), some (.int 34), some (.int (nI o))]) (st' := []) (h' := (n, sl, wKK kk, (rdI I (nI (pa_sk tx T p)) (nI (pa_sk tx T p)) (nI (pa_tk tx T p)) nm gn 0 (-1) (nI ce) cd), L, wQQ q)) 4 rfl ?_
  refine tv_t ((nI_eq (a := (pa_tk tx T p)) (b := 34) (by omega) (by omega)).mpr (by omega)) ?_
  refine tv_b (pc' := (if (nI o) < 8 then 35 else 26)) (ls' := [some (.ref 57), some (.int 34), some (.int (nI o))]) (st' := []) (h' := (n, sl, wKK kk, (rdI I (nI (pa_sk tx T p)) (nI (pa_sk tx T p)) (nI (pa_tk tx T p)) nm gn 0 (-1) (nI ce) cd), L, wQQ q)) 3 rfl ?_
  refine tv_t ((nI_ltI (a := o) (b := 8) (by omega) (by omega)).mpr (by omega)) ?_
  refine tv_b (pc' := 36) (ls' := [some (.ref 57), some (.int 34), some (.int (nI o))]) (st' := [.ref 57]) (h' := (n, sl, wKK kk, (rdI I (nI (pa_sk tx T p)) (nI (pa_sk tx T p)) (nI (pa_tk tx T p)) nm gn 0 (-1) (nI ce) cd), L, wQQ q)) 1 rfl ?_
  refine tv_cv [] [] rfl rfl (by omega) rfl (Nat.le_of_ble_eq_true rfl) (Nat.le_of_ble_eq_true rfl) (Or.inr (Or.inr rfl)) (tv_r_nx hH hp (by omega) hn) ?_
  rintro rv9 h9 ⟨rfl, I9, rfl, ho, hlx⟩
  rcases rdO_c ho with ⟨k1, l1, s1, w1, m1, g1, f1, y1, c1, d1, hr1, hk1, hc1, rfl⟩ | ⟨p1, cs1, m1, g1, hr1, hp1, hn1, rfl⟩
  · refine tv_b (pc' := (if f1 = 0 then 46 else 50)) (ls' := [some (.ref 57), some (.int 34), some (.int (nI o))]) (st' := []) (h' := (n, sl, wKK kk, (rdI I s1 w1 39 m1 g1 f1 y1 (nI c1) d1), L, wQQ q)) 3 rfl ?_
    refine tv_if (fun c43 => ?_) (fun c43 => ?_)
    · refine tv_b (pc' := 51) (ls' := [some (.ref 57), some (.int 34), some (.int (nI o))]) (st' := [.int 1]) (h' := (n, sl, wKK kk, (rdI I s1 w1 39 m1 g1 f1 y1 (nI c1) d1), L, wQQ q)) 2 rfl ?_
      exact tv_rz rfl (Or.inr rfl) ⟨Or.inl rfl, (fun _ _ => rfl), _, rfl, rdO_F hr1 ⟨hk1, by omega⟩ rfl, hlx⟩
    · refine tv_b (pc' := 51) (ls' := [some (.ref 57), some (.int 34), some (.int (nI o))]) (st' := [.int 0]) (h' := (n, sl, wKK kk, (rdI I s1 w1 39 m1 g1 f1 y1 (nI c1) d1), L, wQQ q)) 1 rfl ?_
      exact tv_rz rfl (Or.inl rfl) ⟨Or.inr rfl, (fun w h => by rw [hr1] at h; cases h), _, rfl, rdO_F hr1 ⟨hk1, by omega⟩ rfl, hlx⟩
  · have ht1 := pa_tk_lt (b := tx) (n := T) p1
    have hg1 := pa_edo (tx := tx) (T := T) p1
    obtain ⟨hl1, hv1⟩ := hlx _ _ hr1
    have hj1 := pa_ed_le (b := tx) (n := T) (p := p1) hp1.1
    obtain ⟨hq1, hz1⟩ := pa_nx_r hr1
    have hy1 : cs1.length = 0 := by rw [hz1]; rfl
    refine tv_b (pc' := 51) (ls' := [some (.ref 57), some (.int 34), some (.int (nI o))]) (st' := [.int 1]) (h' := (n, sl, wKK kk, (rdI I (nI (pa_sk tx T p1)) (nI (pa_sk tx T p1)) (nI (pa_tk tx T p1)) m1 g1 0 (-1) (nI (ce + cs1.length)) (pa_wr cd ce cs1)), L, wQQ q)) 5 rfl ?_
    exact tv_rz rfl (Or.inr rfl) ⟨Or.inl rfl, fun _ _ => rfl, _, rfl, rdO_N hr1 hp1 hn1 rfl, hlx⟩
