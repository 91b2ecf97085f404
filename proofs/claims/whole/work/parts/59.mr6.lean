/-! THE REFERENCE'S READER: reads -/
section BR
variable {b : Nat → Nat} {n : Nat}
theorem pa_nr_i {p : Nat} {k : Nat → pa_R} {z : Bool × pa_S} (h : pa_nr b n p k = .inr z) : ∃ p', pa_nx b n p = .inr (p', []) ∧ k p' = .inr z := by
  unfold pa_nr at h
  cases hn : pa_nx b n p with
  | inl e => rw [hn] at h; cases h
  | inr w =>
    obtain ⟨p', cs⟩ := w
    rw [hn] at h
    obtain ⟨_, rfl⟩ := pa_nx_r hn
    exact ⟨p', rfl, h⟩
theorem botR_k {f g : pa_F} {fs : List pa_F} (h : botR (f :: fs)) (e : g.1 = f.1) : botR (g :: fs) := ⟨fun q => h.1 (e ▸ q), h.2⟩
theorem botR_n {f g : pa_F} {fs : List pa_F} (h : botR (f :: fs)) : botR (g :: f :: fs) := ⟨fun _ => List.cons_ne_nil _ _, h⟩
theorem stP_bot {p : Nat} {f : pa_F} {fs : List pa_F} {out : List (Nat × Nat)} {c : Bool} {s : pa_S} (hb : botR (f :: fs)) (h : pa_stP b n p f fs out = .inr (c, s)) : c = true ∧ botR s.2.2.1 ∧ pa_lf b n s.1 = none ∧ s.2.2.1 ≠ [] := by
  unfold pa_stP at h
  simp only at h
  have fin : ∀ {q : Nat} {t : Bool × pa_S}, pa_lf b n q = none → (Sum.inr t : pa_R) = .inr (c, s) → t.2.1 = q → t.1 = true → botR t.2.2.2.1 → t.2.2.2.1 ≠ [] → c = true ∧ botR s.2.2.1 ∧ pa_lf b n s.1 = none ∧ s.2.2.1 ≠ [] := by
    intro q t hl e e2 e3 e4 e5
    have e1 : t = (c, s) := Sum.inr.inj e
    subst e1
    simp only at e2
    subst e2
    exact ⟨e3, e4, hl, e5⟩
  split at h
  · obtain ⟨p', h1, h2⟩ := pa_nr_i h
    exact fin (pa_nx_lf h1) h2 rfl rfl (botR_k hb rfl) (List.cons_ne_nil _ _)
  split at h
  · split at h
    · cases h
    · obtain ⟨p', h1, h2⟩ := pa_nr_i h
      exact fin (pa_nx_lf h1) h2 rfl rfl (botR_n (botR_k hb rfl)) (List.cons_ne_nil _ _)
  split at h
  · obtain ⟨p', h1, h2⟩ := pa_nr_i h
    exact fin (pa_nx_lf h1) h2 rfl rfl (botR_k hb rfl) (List.cons_ne_nil _ _)
  split at h
  · obtain ⟨p', h1, h2⟩ := pa_nr_i h
    split at h2
    · split at h2
      · cases h2
      · obtain ⟨p2, h3, h4⟩ := pa_nr_i h2
        exact fin (pa_nx_lf h3) h4 rfl rfl (botR_k hb rfl) (List.cons_ne_nil _ _)
    · cases h2
  split at h
  · split at h
    · cases h
    · obtain ⟨p', h1, h2⟩ := pa_nr_i h
      exact fin (pa_nx_lf h1) h2 rfl rfl (botR_n (botR_k hb rfl)) (List.cons_ne_nil _ _)
  split at h
  · obtain ⟨p', h1, h2⟩ := pa_nr_i h
    split at h2
    · split at h2
      · cases h2
      · obtain ⟨p2, h3, h4⟩ := pa_nr_i h2
        exact fin (pa_nx_lf h3) h4 rfl rfl (botR_n (botR_k hb rfl)) (List.cons_ne_nil _ _)
    · cases h2
  split at h
  · obtain ⟨p', h1, h2⟩ := pa_nr_i h
    exact fin (pa_nx_lf h1) h2 rfl rfl (botR_k hb rfl) (List.cons_ne_nil _ _)
  split at h
  · obtain ⟨p', h1, h2⟩ := pa_nr_i h
    exact fin (pa_nx_lf h1) h2 rfl rfl (botR_k hb rfl) (List.cons_ne_nil _ _)
  · cases h
theorem stG_bot {p : Nat} {f : pa_F} {fs : List pa_F} {out : List (Nat × Nat)} {s : pa_S} (hb : botR (f :: fs)) (h : pa_stG b n p f fs out = .inr (true, s)) : botR s.2.2.1 ∧ pa_lf b n s.1 = none ∧ s.2.2.1 ≠ [] := by
  unfold pa_stG at h
  simp only at h
  have fin : ∀ {q : Nat} {t : Bool × pa_S}, pa_lf b n q = none → (Sum.inr t : pa_R) = .inr (true, s) → t.2.1 = q → botR t.2.2.2.1 → t.2.2.2.1 ≠ [] → botR s.2.2.1 ∧ pa_lf b n s.1 = none ∧ s.2.2.1 ≠ [] := by
    intro q t hl e e2 e4 e5
    have e1 : t = (true, s) := Sum.inr.inj e
    subst e1
    simp only at e2
    subst e2
    exact ⟨e4, hl, e5⟩
  split at h
  · obtain ⟨p', h1, h2⟩ := pa_nr_i h
    exact fin (pa_nx_lf h1) h2 rfl (botR_k hb rfl) (List.cons_ne_nil _ _)
  split at h
  · obtain ⟨p', h1, h2⟩ := pa_nr_i h
    exact fin (pa_nx_lf h1) h2 rfl (botR_k hb rfl) (List.cons_ne_nil _ _)
  split at h
  · split at h
    · cases h
    · obtain ⟨p', h1, h2⟩ := pa_nr_i h
      exact fin (pa_nx_lf h1) h2 rfl (botR_k hb rfl) (List.cons_ne_nil _ _)
  split at h
  · cases h
  split at h
  · have := Sum.inr.inj h
    cases this
  rename_i hk2
  have hk2 : 2 ≤ f.1 := by omega
  split at h
  · rename_i hk3
    split at h
    · obtain ⟨p', h1, h2⟩ := pa_nr_i h
      exact fin (pa_nx_lf h1) h2 rfl ⟨fun _ => hb.1 hk2, hb.2⟩ (List.cons_ne_nil _ _)
    · cases h
  split at h
  · obtain ⟨p', h1, h2⟩ := pa_nr_i h
    have hne := hb.1 hk2
    obtain ⟨g, gs, rfl⟩ : ∃ g gs, fs = g :: gs := by
      cases fs with
      | nil => exact absurd rfl hne
      | cons g gs => exact ⟨g, gs, rfl⟩
    refine fin (pa_nx_lf h1) h2 rfl ?_ ?_
    · show botR (pa_bel (Nat.beq f.1 5) (g :: gs))
      cases Nat.beq f.1 5
      · exact hb.2
      · exact botR_k hb.2 rfl
    · show pa_bel (Nat.beq f.1 5) (g :: gs) ≠ []
      cases Nat.beq f.1 5 <;> exact List.cons_ne_nil _ _
  · cases h
theorem pa_En_det {s : pa_S} {r1 r2 : pa_R} (h1 : pa_En b n s r1) (h2 : pa_En b n s r2) : r1 = r2 := by
  obtain ⟨k1, h1⟩ := h1
  obtain ⟨k2, h2⟩ := h2
  rw [← h1 k2, ← h2 k1, Nat.add_comm]
theorem pa_Ag0 : pa_Ag (fun _ => 0) (fun _ => 0) (fun _ _ _ => 0) (fun _ _ _ => 0) := ⟨⟨fun _ => pa_Rb01 (Or.inl rfl), fun _ => pa_Rb01 (Or.inl rfl)⟩, fun _ _ _ _ _ _ => ⟨rfl, pa_Rb01 (Or.inl rfl)⟩, fun _ _ _ _ _ => Or.inl rfl, fun _ _ _ _ _ _ => ⟨rfl, Or.inl rfl⟩⟩
/-- both sides' cells of a piece mean the same -/
def pa_Eq (t : Bool) (cs : List Nat) (rs : List (Nat × Nat)) : Prop := ∀ ld fc jn tw, pa_Ag ld fc jn tw → pa_Sem ld fc jn tw t 30 cs rs
theorem pa_whole_eq (hn : n ≤ 800) (t : Bool) (p : Nat) :
    (∀ e, (cond t (pa_test b n 8 p) (pa_sum b n 8 p) : pa_E) = .inl e → pa_En b n (p, false, [(cond t 1 0, 0, true, 0, [])], []) (.inl e)) ∧
    (∀ p' cs, (cond t (pa_test b n 8 p) (pa_sum b n 8 p) : pa_E) = .inr (p', cs) → ∃ rs f, pa_Eq t cs rs ∧ pa_En b n (p, false, [(cond t 1 0, 0, true, 0, [])], []) (.inr (false, p', true, [f], rs)) ∧ p < p') := by
  refine ⟨(pa_whole_sim (ld := fun _ => 0) (fc := fun _ => 0) pa_Ag0 hn t p).1, fun p' cs h => ?_⟩
  obtain ⟨rs, f, _, h2, h3⟩ := (pa_whole_sim (ld := fun _ => 0) (fc := fun _ => 0) pa_Ag0 hn t p).2 p' cs h
  refine ⟨rs, f, fun ld fc jn tw hag => ?_, h2, h3⟩
  obtain ⟨rs', f', h4, h5, _⟩ := (pa_whole_sim (ld := ld) (fc := fc) hag hn t p).2 p' cs h
  have e := pa_En_det h2 h5
  have e2 := (Prod.mk.inj (Sum.inr.inj e)).2
  have e3 := (Prod.mk.inj (Prod.mk.inj (Prod.mk.inj e2).2).2).2
  rw [e3]
  exact h4
end BR
/-- what reads leaves -/
def rdsR (tx : Nat → Nat) (T : Nat) (I : Nat → Nat → Int32) (N ce0 : Nat) (c87 : Nat → Int32) (r : pa_R) (I' : Nat → Nat → Int32) (w : Int64) : Prop := match r with
  | .inl (k, pl) => (k ≠ 0 ∧ k ≤ 5 ∧ pl ≤ 800) ∧ mrF I N c87 k pl I'
  | .inr (_, s) => mrS tx T I N ce0 c87 (if s.2.1 = true then 1 else 0) s I' w ∧ ce0 + s.2.2.2.length ≤ s.1 ∧ s.1 ≤ T
set_option maxHeartbeats 4000000 in
theorem tv_mr_loop {d n sl : Nat} {kk : Nat → Nat × Nat} {I : Nat → Nat → Int32} {L : Nat → Nat → Int64} {q : Nat → Nat → Option Nat} {tx : Nat → Nat} {T : Nat} {N ce0 : Nat} {c87 : Nat → Int32} {x1 : Int32} {r : pa_R} (hR : mrH tx T I) (hN : I 80 14 = nI N ∧ N ≤ 200) (hr : ∀ s, r ≠ .inr (true, s)) : ∀ (k p : Nat) (o : Bool) (kd ph pr : Nat) (bg : Bool) (ops : List Nat) (fs : List pa_F) (out : List (Nat × Nat)) (tk r88 r89 r90 r91 r92 r93 : Nat → Int32) (w : Int64), pa_it tx T k (p, o, (kd, ph, bg, pr, ops) :: fs, out) = r → tkP tx T p (tk 3) (tk 4) (tk 5) (tk 6) w → pa_lf tx T p = none → frR r88 r89 r90 r91 r92 r93 ((kd, ph, bg, pr, ops) :: fs) → mrJ T ce0 (p, o, (kd, ph, bg, pr, ops) :: fs, out) → botR ((kd, ph, bg, pr, ops) :: fs) → am_T (d + 5) 176 43 [some (.ref 80), some (.int x1), some (.int 1)] [] (n, sl, wKK kk, (mrI I tk 0 (-1) 0 (nI (ce0 + out.length)) (nI (fs.length + 1)) (nI (fs.length)) (nI (fsum fs + ops.length)) (if o = true then 1 else 0) (pa_wr c87 (800 * N + ce0) (out.map menc)) r88 r89 r90 r91 r92 r93), (mwL L w), wQQ q) (fun rv h' => rv = none ∧ ∃ I' w', h' = (n, sl, wKK kk, I', mwL L w', wQQ q) ∧ rdsR tx T I N ce0 c87 r I' w') := by
  intro k
  induction k with
  | zero =>
    intro p o kd ph pr bg ops fs out tk r88 r89 r90 r91 r92 r93 w hk
    exact absurd hk.symm (hr _)
  | succ k ih =>
    intro p o kd ph pr bg ops fs out tk r88 r89 r90 r91 r92 r93 w hk ht hlf hfr hJ hbot
    cases o with
    | false =>
      show am_T _ _ _ [some (.ref 80), some (.int x1), some (.int 1)] _ (n, sl, wKK kk, (mrI I tk 0 (-1) 0 (nI (ce0 + out.length)) (nI (fs.length + 1)) (nI (fs.length)) (nI (fsum fs + ops.length)) 0 (pa_wr c87 (800 * N + ce0) (out.map menc)) r88 r89 r90 r91 r92 r93), (mwL L w), wQQ q) _
      refine tv_b (pc' := 56) (ls' := [some (.ref 80), some (.int x1), some (.int 1)]) (st' := [.ref 80, .ref 80]) (h' := (n, sl, wKK kk, (mrI I tk 0 (-1) 0 (nI (ce0 + out.length)) (nI (fs.length + 1)) (nI (fs.length)) (nI (fsum fs + ops.length)) 0 (pa_wr c87 (800 * N + ce0) (out.map menc)) r88 r89 r90 r91 r92 r93), (mwL L w), wQQ q)) 7 rfl ?_
      refine tv_cv [] [.ref 80] rfl rfl (by omega) rfl (Nat.le_of_ble_eq_true rfl) (Nat.le_of_ble_eq_true rfl) (Or.inr (Or.inr rfl)) (tv_mr_part hR hN ht hlf hfr hJ) ?_
      rintro rv9 h9 ⟨z, I9, w0, rfl, rfl, hP⟩
      unfold stPR at hP
      rcases hr0 : pa_stP tx T p (kd, ph, bg, pr, ops) fs out with ⟨k0, l0⟩ | ⟨b0, s0⟩ <;> rw [hr0] at hP
      · obtain ⟨hz, hk0, tk0, be0, co0, dp0, op0, om0, od0, s87, s88, s89, s90, s91, s92, s93, rfl, hfm⟩ := hP
        refine tv_pfz rfl hz rfl ?_
        refine tv_hI mrI_w_od ?_
        refine tv_b (pc' := 70) (ls' := [some (.ref 80), some (.int x1), some (.int 1)]) (st' := []) (h' := (n, sl, wKK kk, (mrI I tk0 (nI k0) (nI l0) be0 co0 dp0 op0 om0 z s87 s88 s89 s90 s91 s92 s93), (mwL L w0), wQQ q)) 1 rfl ?_
        refine tv_b (pc' := (if (nI k0) = 0 then 81 else 85)) (ls' := [some (.ref 80), some (.int x1), some (.int 1)]) (st' := []) (h' := (n, sl, wKK kk, (mrI I tk0 (nI k0) (nI l0) be0 co0 dp0 op0 om0 z s87 s88 s89 s90 s91 s92 s93), (mwL L w0), wQQ q)) 5 rfl ?_
        refine tv_f (fun hq => absurd ((nI_eq (a := k0) (b := 0) (by omega) (by omega)).mp hq) (by omega)) ?_
        refine tv_b (pc' := 43) (ls' := [some (.ref 80), some (.int x1), some (.int 0)]) (st' := []) (h' := (n, sl, wKK kk, (mrI I tk0 (nI k0) (nI l0) be0 co0 dp0 op0 om0 z s87 s88 s89 s90 s91 s92 s93), (mwL L w0), wQQ q)) 3 rfl ?_
        refine tv_b (pc' := 90) (ls' := [some (.ref 80), some (.int x1), some (.int 0)]) (st' := []) (h' := (n, sl, wKK kk, (mrI I tk0 (nI k0) (nI l0) be0 co0 dp0 op0 om0 z s87 s88 s89 s90 s91 s92 s93), (mwL L w0), wQQ q)) 2 rfl ?_
        have h1 : pa_it tx T (k + 1) (p, false, (kd, ph, bg, pr, ops) :: fs, out) = (match pa_stP tx T p (kd, ph, bg, pr, ops) fs out with | .inl e => .inl e | .inr (true, s') => pa_it tx T k s' | .inr (false, s') => .inr (false, s')) := rfl
        rw [h1, hr0] at hk
        rw [← hk]
        exact tv_rv rfl ⟨rfl, _, _, rfl, hk0, _, _, _, _, _, _, _, _, _, _, _, _, _, _, rfl, hfm⟩
      · obtain ⟨rfl, rfl, ⟨tk0, s88, s89, s90, s91, s92, s93, rfl, ht0, hfr0⟩, hJ0⟩ := hP
        refine tv_pfz rfl (by cases s0.2.1 <;> first | exact Or.inl rfl | exact Or.inr rfl) rfl ?_
        refine tv_hI mrI_w_od ?_
        refine tv_b (pc' := 70) (ls' := [some (.ref 80), some (.int x1), some (.int 1)]) (st' := []) (h' := (n, sl, wKK kk, (mrI I tk0 0 (-1) 0 (nI (ce0 + s0.2.2.2.length)) (nI s0.2.2.1.length) (nI (s0.2.2.1.length - 1)) (nI (fsum s0.2.2.1)) (if s0.2.1 = true then 1 else 0) (pa_wr c87 (800 * N + ce0) (s0.2.2.2.map menc)) s88 s89 s90 s91 s92 s93), (mwL L w0), wQQ q)) 1 rfl ?_
        refine tv_b (pc' := 43) (ls' := [some (.ref 80), some (.int x1), some (.int 1)]) (st' := []) (h' := (n, sl, wKK kk, (mrI I tk0 0 (-1) 0 (nI (ce0 + s0.2.2.2.length)) (nI s0.2.2.1.length) (nI (s0.2.2.1.length - 1)) (nI (fsum s0.2.2.1)) (if s0.2.1 = true then 1 else 0) (pa_wr c87 (800 * N + ce0) (s0.2.2.2.map menc)) s88 s89 s90 s91 s92 s93), (mwL L w0), wQQ q)) 9 rfl ?_
        have hb1 := stP_bot hbot hr0
        have hb0 := hb1.2
        have hit : pa_it tx T k s0 = r := by have h1 : pa_it tx T (k + 1) (p, false, (kd, ph, bg, pr, ops) :: fs, out) = (match pa_stP tx T p (kd, ph, bg, pr, ops) fs out with | .inl e => .inl e | .inr (true, s') => pa_it tx T k s' | .inr (false, s') => .inr (false, s')) := rfl; rw [h1, hr0] at hk; exact hk
        obtain ⟨p0, q0, fs0, out0⟩ := s0
        obtain ⟨⟨kd0, ph0, bg0, pr0, ops0⟩, gs0, rfl⟩ : ∃ g gs, fs0 = g :: gs := by cases fs0 with | nil => exact absurd rfl hb0.2.2 | cons g gs => exact ⟨g, gs, rfl⟩
        exact ih p0 q0 kd0 ph0 pr0 bg0 ops0 gs0 out0 tk0 s88 s89 s90 s91 s92 s93 w0 hit ht0 hb0.2.1 hfr0 hJ0 hb0.1
    | true =>
      show am_T _ _ _ [some (.ref 80), some (.int x1), some (.int 1)] _ (n, sl, wKK kk, (mrI I tk 0 (-1) 0 (nI (ce0 + out.length)) (nI (fs.length + 1)) (nI (fs.length)) (nI (fsum fs + ops.length)) 1 (pa_wr c87 (800 * N + ce0) (out.map menc)) r88 r89 r90 r91 r92 r93), (mwL L w), wQQ q) _
      refine tv_b (pc' := 66) (ls' := [some (.ref 80), some (.int x1), some (.int 1)]) (st' := [.ref 80]) (h' := (n, sl, wKK kk, (mrI I tk 0 (-1) 0 (nI (ce0 + out.length)) (nI (fs.length + 1)) (nI (fs.length)) (nI (fsum fs + ops.length)) 1 (pa_wr c87 (800 * N + ce0) (out.map menc)) r88 r89 r90 r91 r92 r93), (mwL L w), wQQ q)) 6 rfl ?_
      refine tv_cv [] [] rfl rfl (by omega) rfl (Nat.le_of_ble_eq_true rfl) (Nat.le_of_ble_eq_true rfl) (Or.inr (Or.inr rfl)) (tv_mr_goesOn hR hN ht hfr hJ hbot.1) ?_
      rintro rv9 h9 ⟨z, I9, w0, rfl, rfl, hP⟩
      unfold stGR at hP
      rcases hr0 : pa_stG tx T p (kd, ph, bg, pr, ops) fs out with ⟨k0, l0⟩ | ⟨b0, s0⟩ <;> rw [hr0] at hP
      · obtain ⟨hz, hk0, tk0, be0, co0, dp0, op0, om0, od0, s87, s88, s89, s90, s91, s92, s93, rfl, hfm⟩ := hP
        refine tv_b (pc' := 70) (ls' := [some (.ref 80), some (.int x1), some (.int z)]) (st' := []) (h' := (n, sl, wKK kk, (mrI I tk0 (nI k0) (nI l0) be0 co0 dp0 op0 om0 od0 s87 s88 s89 s90 s91 s92 s93), (mwL L w0), wQQ q)) 1 rfl ?_
        rcases hz with rfl | rfl
        · refine tv_b (pc' := 43) (ls' := [some (.ref 80), some (.int x1), some (.int 0)]) (st' := []) (h' := (n, sl, wKK kk, (mrI I tk0 (nI k0) (nI l0) be0 co0 dp0 op0 om0 od0 s87 s88 s89 s90 s91 s92 s93), (mwL L w0), wQQ q)) 5 rfl ?_
          refine tv_b (pc' := 90) (ls' := [some (.ref 80), some (.int x1), some (.int 0)]) (st' := []) (h' := (n, sl, wKK kk, (mrI I tk0 (nI k0) (nI l0) be0 co0 dp0 op0 om0 od0 s87 s88 s89 s90 s91 s92 s93), (mwL L w0), wQQ q)) 2 rfl ?_
          have h1 : pa_it tx T (k + 1) (p, true, (kd, ph, bg, pr, ops) :: fs, out) = (match pa_stG tx T p (kd, ph, bg, pr, ops) fs out with | .inl e => .inl e | .inr (true, s') => pa_it tx T k s' | .inr (false, s') => .inr (false, s')) := rfl
          rw [h1, hr0] at hk
          rw [← hk]
          exact tv_rv rfl ⟨rfl, _, _, rfl, hk0, _, _, _, _, _, _, _, _, _, _, _, _, _, _, rfl, hfm⟩
        · refine tv_b (pc' := (if (nI k0) = 0 then 81 else 85)) (ls' := [some (.ref 80), some (.int x1), some (.int 1)]) (st' := []) (h' := (n, sl, wKK kk, (mrI I tk0 (nI k0) (nI l0) be0 co0 dp0 op0 om0 od0 s87 s88 s89 s90 s91 s92 s93), (mwL L w0), wQQ q)) 5 rfl ?_
          refine tv_f (fun hq => absurd ((nI_eq (a := k0) (b := 0) (by omega) (by omega)).mp hq) (by omega)) ?_
          refine tv_b (pc' := 43) (ls' := [some (.ref 80), some (.int x1), some (.int 0)]) (st' := []) (h' := (n, sl, wKK kk, (mrI I tk0 (nI k0) (nI l0) be0 co0 dp0 op0 om0 od0 s87 s88 s89 s90 s91 s92 s93), (mwL L w0), wQQ q)) 3 rfl ?_
          refine tv_b (pc' := 90) (ls' := [some (.ref 80), some (.int x1), some (.int 0)]) (st' := []) (h' := (n, sl, wKK kk, (mrI I tk0 (nI k0) (nI l0) be0 co0 dp0 op0 om0 od0 s87 s88 s89 s90 s91 s92 s93), (mwL L w0), wQQ q)) 2 rfl ?_
          have h1 : pa_it tx T (k + 1) (p, true, (kd, ph, bg, pr, ops) :: fs, out) = (match pa_stG tx T p (kd, ph, bg, pr, ops) fs out with | .inl e => .inl e | .inr (true, s') => pa_it tx T k s' | .inr (false, s') => .inr (false, s')) := rfl
          rw [h1, hr0] at hk
          rw [← hk]
          exact tv_rv rfl ⟨rfl, _, _, rfl, hk0, _, _, _, _, _, _, _, _, _, _, _, _, _, _, rfl, hfm⟩
      · obtain ⟨rfl, hJ0, ⟨tk0, s88, s89, s90, s91, s92, s93, rfl, ht0, hfr0⟩, hc0⟩ := hP
        refine tv_b (pc' := 70) (ls' := [some (.ref 80), some (.int x1), some (.int (if b0 = true then 1 else 0))]) (st' := []) (h' := (n, sl, wKK kk, (mrI I tk0 0 (-1) 0 (nI (ce0 + s0.2.2.2.length)) (nI s0.2.2.1.length) (nI (s0.2.2.1.length - 1)) (nI (fsum s0.2.2.1)) (if s0.2.1 = true then 1 else 0) (pa_wr c87 (800 * N + ce0) (s0.2.2.2.map menc)) s88 s89 s90 s91 s92 s93), (mwL L w0), wQQ q)) 1 rfl ?_
        cases b0 with
        | true =>
          show am_T _ _ 70 [some (.ref 80), some (.int x1), some (.int 1)] _ _ _
          refine tv_b (pc' := 43) (ls' := [some (.ref 80), some (.int x1), some (.int 1)]) (st' := []) (h' := (n, sl, wKK kk, (mrI I tk0 0 (-1) 0 (nI (ce0 + s0.2.2.2.length)) (nI s0.2.2.1.length) (nI (s0.2.2.1.length - 1)) (nI (fsum s0.2.2.1)) (if s0.2.1 = true then 1 else 0) (pa_wr c87 (800 * N + ce0) (s0.2.2.2.map menc)) s88 s89 s90 s91 s92 s93), (mwL L w0), wQQ q)) 9 rfl ?_
          have hb0 := stG_bot hbot hr0
          have hit : pa_it tx T k s0 = r := by have h1 : pa_it tx T (k + 1) (p, true, (kd, ph, bg, pr, ops) :: fs, out) = (match pa_stG tx T p (kd, ph, bg, pr, ops) fs out with | .inl e => .inl e | .inr (true, s') => pa_it tx T k s' | .inr (false, s') => .inr (false, s')) := rfl; rw [h1, hr0] at hk; exact hk
          obtain ⟨p0, q0, fs0, out0⟩ := s0
          obtain ⟨⟨kd0, ph0, bg0, pr0, ops0⟩, gs0, rfl⟩ : ∃ g gs, fs0 = g :: gs := by cases fs0 with | nil => exact absurd rfl hb0.2.2 | cons g gs => exact ⟨g, gs, rfl⟩
          exact ih p0 q0 kd0 ph0 pr0 bg0 ops0 gs0 out0 tk0 s88 s89 s90 s91 s92 s93 w0 hit ht0 hb0.2.1 hfr0 (hJ0 rfl) hb0.1
        | false =>
          show am_T _ _ 70 [some (.ref 80), some (.int x1), some (.int 0)] _ _ _
          refine tv_b (pc' := 43) (ls' := [some (.ref 80), some (.int x1), some (.int 0)]) (st' := []) (h' := (n, sl, wKK kk, (mrI I tk0 0 (-1) 0 (nI (ce0 + s0.2.2.2.length)) (nI s0.2.2.1.length) (nI (s0.2.2.1.length - 1)) (nI (fsum s0.2.2.1)) (if s0.2.1 = true then 1 else 0) (pa_wr c87 (800 * N + ce0) (s0.2.2.2.map menc)) s88 s89 s90 s91 s92 s93), (mwL L w0), wQQ q)) 5 rfl ?_
          refine tv_b (pc' := 90) (ls' := [some (.ref 80), some (.int x1), some (.int 0)]) (st' := []) (h' := (n, sl, wKK kk, (mrI I tk0 0 (-1) 0 (nI (ce0 + s0.2.2.2.length)) (nI s0.2.2.1.length) (nI (s0.2.2.1.length - 1)) (nI (fsum s0.2.2.1)) (if s0.2.1 = true then 1 else 0) (pa_wr c87 (800 * N + ce0) (s0.2.2.2.map menc)) s88 s89 s90 s91 s92 s93), (mwL L w0), wQQ q)) 2 rfl ?_
          have h1 : pa_it tx T (k + 1) (p, true, (kd, ph, bg, pr, ops) :: fs, out) = (match pa_stG tx T p (kd, ph, bg, pr, ops) fs out with | .inl e => .inl e | .inr (true, s') => pa_it tx T k s' | .inr (false, s') => .inr (false, s')) := rfl
          rw [h1, hr0] at hk
          rw [← hk]
          exact tv_rv rfl ⟨rfl, _, _, rfl, ⟨_, _, _, _, _, _, _, rfl, ht0, hfr0⟩, hc0 rfl⟩
