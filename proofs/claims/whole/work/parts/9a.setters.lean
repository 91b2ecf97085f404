/-! CALLS THAT TELL: both sides answer alike -/
theorem am_run_d : ∀ (f d e mi pc : Nat) (ls : am_L) (st : List Value) (h : am_H) (r : Option Value × am_H), d ≤ e → am_run f d mi pc ls st h = some r → am_run f e mi pc ls st h = some r := by
  intro f
  induction f with
  | zero => intro d e mi pc ls st h r _ hr; cases hr
  | succ f ih =>
    intro d e mi pc ls st h r hde hr
    cases d with
    | zero =>
      unfold am_run at hr ⊢
      split at hr
      · cases hr
      · split at hr
        · split at hr
          · exact ih _ _ _ _ _ _ _ _ hde hr
          · cases hr
        · exact hr
        · cases hr
    | succ d =>
      cases e with
      | zero => exact absurd hde (by omega)
      | succ e =>
        have hde' : d ≤ e := Nat.le_of_succ_le_succ hde
        unfold am_run at hr ⊢
        split at hr
        · cases hr
        · split at hr
          · split at hr
            · exact ih _ _ _ _ _ _ _ _ hde hr
            · cases hr
          · exact hr
          · split at hr
            · rename_i h0
              exact absurd h0 (Nat.succ_ne_zero _)
            · rename_i j hj
              have hj2 : d = j := Nat.succ.inj hj
              subst hj2
              split at hr
              · rename_i h9
                show (match am_call (fun mi' ls' h' => am_run f e mi' 0 ls' [] h') _ st h with
                  | some (st', h') => am_run f (e + 1) mi (pc + 3) ls st' h'
                  | none => none) = some r
                rw [am_call_le (fun mi ls h r q => ih _ _ _ _ _ _ _ _ hde' q) h9]
                exact ih _ _ _ _ _ _ _ _ hde hr
              · cases hr
theorem tv_up {d e mi pc : Nat} {ls : am_L} {st : List Value} {h : am_H} {P : Option Value → am_H → Prop} (hde : d ≤ e) (k : am_T d mi pc ls st h P) : am_T e mi pc ls st h P := by
  obtain ⟨rv, h', ⟨f, hf⟩, p⟩ := k
  exact ⟨rv, h', ⟨f, am_run_d _ _ _ _ _ _ _ _ _ hde hf⟩, p⟩
theorem ev_up {d e mi pc : Nat} {ls : am_L} {st : List Value} {h : am_H} {r : Option Value × am_H} (hde : d ≤ e) (k : am_Ev d mi pc ls st h r) : am_Ev e mi pc ls st h r := by
  obtain ⟨f, hf⟩ := k
  exact ⟨f, am_run_d _ _ _ _ _ _ _ _ _ hde hf⟩
/-- both sides answer alike, and the whole invariant stands again -/
def jxQ (mi : Nat) (ls : am_L) (k : Nat) (rv : Option Value) (h1 : am_H) : Prop := ∃ z : Value, ((∃ i, z = .int i) ∨ ∃ l, z = .long l) ∧ rv = some z ∧ am_T 200 mi 0 ls [] h1 (fun rv2 h2 => rv2 = some z ∧ hInv (k + 1) h2)
def jx (m1 : Nat) (l1 : am_L) (m2 : Nat) (l2 : am_L) : Prop := ∀ k h, k ≤ 512 → hInv k h → am_T 200 m1 0 l1 [] h (jxQ m2 l2 k)
theorem jx_V {m1 m2 d1 d2 : Nat} {l1 l2 : am_L} (h1 : d1 ≤ 200) (h2 : d2 ≤ 200) (H : ∀ {n sl C : Nat} {kk : Nat → Nat × Nat} {q : Nat → Nat → Option Nat} {I : Nat → Nat → Int32} {L : Nat → Nat → Int64} {ah : Nat → Nat} {M : Nat → List (Nat × Nat × List Nat)}, gInv n kk q I L C ah M → am_T d1 m1 0 l1 [] (n, sl, wKK kk, I, L, wQQ q) (ojQ d2 m2 l2 (ojV n sl kk I L C M))) : jx m1 l1 m2 l2 := by
  rintro k h hk ⟨n, sl, kk, I, L, q, rfl, C, ah, M, tx, T, g, hr, ht, hu, hs, hc, hj, hn, hsl⟩
  refine tv_up h1 (tv_w (H g) (fun rv h' ho => ?_))
  obtain ⟨z, rfl, ho⟩ := ho
  exact ⟨.int z, Or.inl ⟨z, rfl⟩, rfl, tv_up h2 (tv_w ho (fun rv2 h2 ho2 => ⟨ho2.1, ojV_h hk g hr ht hu hs hc hj hn hsl ho2.2⟩))⟩
theorem jx_R {m1 m2 d1 d2 : Nat} {l1 l2 : am_L} (h1 : d1 ≤ 200) (h2 : d2 ≤ 200) (H : ∀ {n sl C : Nat} {kk : Nat → Nat × Nat} {q : Nat → Nat → Option Nat} {I : Nat → Nat → Int32} {L : Nat → Nat → Int64} {ah : Nat → Nat} {M : Nat → List (Nat × Nat × List Nat)}, gInv n kk q I L C ah M → am_T d1 m1 0 l1 [] (n, sl, wKK kk, I, L, wQQ q) (ojQ d2 m2 l2 (ojR n sl kk I L C M))) : jx m1 l1 m2 l2 :=
  jx_V h1 h2 (fun g => tv_w (H g) (fun _ _ ho => by
    obtain ⟨z, e, ho⟩ := ho
    exact ⟨z, e, tv_w ho (fun _ _ p => ⟨p.1, ojW_v (ojR_w p.2)⟩)⟩))
theorem jx_W {m1 m2 d1 d2 : Nat} {l1 l2 : am_L} (h1 : d1 ≤ 200) (h2 : d2 ≤ 200) (H : ∀ {n sl C : Nat} {kk : Nat → Nat × Nat} {q : Nat → Nat → Option Nat} {I : Nat → Nat → Int32} {L : Nat → Nat → Int64} {ah : Nat → Nat} {M : Nat → List (Nat × Nat × List Nat)}, gInv n kk q I L C ah M → am_T d1 m1 0 l1 [] (n, sl, wKK kk, I, L, wQQ q) (ojQ d2 m2 l2 (ojW n sl kk I L C M))) : jx m1 l1 m2 l2 :=
  jx_V h1 h2 (fun g => tv_w (H g) (fun _ _ ho => by
    obtain ⟨z, e, ho⟩ := ho
    exact ⟨z, e, tv_w ho (fun _ _ p => ⟨p.1, ojW_v p.2⟩)⟩))
theorem jx_lead {t a x c : Int32} : jx 117 (am_ent 5 [.ref 0, .int t, .int a, .int x, .int c]) 192 (am_ent 5 [.ref 80, .int t, .int a, .int x, .int c]) := jx_R (d1 := 5) (d2 := 2) (by decide) (by decide) (fun g => oj_lead (d := 0) g)
theorem jx_pipe {x c l : Int32} : jx 118 (am_ent 4 [.ref 0, .int x, .int c, .int l]) 193 (am_ent 4 [.ref 80, .int x, .int c, .int l]) := jx_R (d1 := 5) (d2 := 2) (by decide) (by decide) (fun g => oj_pipe (d := 0) g)
theorem jx_frost {x c : Int32} : jx 119 (am_ent 3 [.ref 0, .int x, .int c]) 194 (am_ent 3 [.ref 80, .int x, .int c]) := jx_R (d1 := 5) (d2 := 2) (by decide) (by decide) (fun g => oj_frost (d := 0) g)
theorem jx_reading {g0 x e0 : Int32} : jx 120 (am_ent 4 [.ref 0, .int g0, .int x, .int e0]) 195 (am_ent 4 [.ref 80, .int g0, .int x, .int e0]) := jx_R (d1 := 5) (d2 := 2) (by decide) (by decide) (fun g => oj_reading (d := 0) g)
theorem jx_annul {x : Int32} : jx 123 (am_ent 2 [.ref 0, .int x]) 196 (am_ent 3 [.ref 80, .int x]) := jx_R (d1 := 6) (d2 := 1) (by decide) (by decide) (fun g => oj_annul (d := 0) g)
theorem jx_as {x : Int32} : jx 124 (am_ent 2 [.ref 0, .int x]) 197 (am_ent 2 [.ref 80, .int x]) := jx_R (d1 := 5) (d2 := 1) (by decide) (by decide) (fun g => oj_as (d := 0) g)
theorem jx_force {x : Int32} : jx 129 (am_ent 2 [.ref 0, .int x]) 214 (am_ent 3 [.ref 80, .int x]) := jx_R (d1 := 2) (d2 := 3) (by decide) (by decide) (fun g => oj_force (d := 0) g)
theorem jx_lean {x : Int32} : jx 125 (am_ent 2 [.ref 0, .int x]) 209 (am_ent 2 [.ref 80, .int x]) := jx_W (d1 := 6) (d2 := 5) (by decide) (by decide) (fun g => oj_lean (d := 0) g)
theorem jx_may {w y x : Int32} : jx 130 (am_ent 4 [.ref 0, .int w, .int y, .int x]) 221 (am_ent 4 [.ref 80, .int w, .int y, .int x]) := jx_V (d1 := 7) (d2 := 7) (by decide) (by decide) (fun g => oj_may (d := 0) g)
theorem jx_mandate {x : Int32} : jx 121 (am_ent 3 [.ref 0, .int x]) 179 (am_ent 3 [.ref 80, .int x]) := by
  rintro k h hk ⟨n, sl, kk, I, L, q, rfl, C, ah, M, tx, T, g, hr, ht, hu, hs, hc, hj, hn, hsl⟩
  refine tv_up (d := 38) (by decide) (tv_w (oj_mandate (d := 0) g hr (by unfold am_B; omega)) (fun rv h' ho => ?_))
  obtain ⟨z, rfl, ho⟩ := ho
  exact ⟨.int z, Or.inl ⟨z, rfl⟩, rfl, tv_up (d := 9) (by decide) (tv_w ho (fun rv2 h2 ho2 => ⟨ho2.1, ojM_h hk g ht hu hs hc hj hn hsl ho2.2⟩))⟩
/-! the ground under another tower -/
theorem wfB_2 {I J : Nat → Nat → Int32} (h45 : J 80 45 = I 80 45) (h46 : J 80 46 = I 80 46) (h : ∀ j, 107 ≤ j → j ≤ 112 → J j = I j) (hB : wfB I) : wfB J := by
  unfold wfB wfA nC vdN dyN thN clN at hB ⊢
  rw [h45, h46, h 107 (by decide) (by decide), h 108 (by decide) (by decide), h 109 (by decide) (by decide), h 110 (by decide) (by decide), h 111 (by decide) (by decide), h 112 (by decide) (by decide)]
  exact hB
theorem kn_2 {I J : Nat → Nat → Int32} (h45 : J 80 45 = I 80 45) (h46 : J 80 46 = I 80 46) (h : J 112 = I 112) : nC J = nC I ∧ kn J = kn I := by
  refine ⟨by unfold nC; rw [h45], ?_⟩
  funext n
  unfold kn nNow nC vdN
  rw [h45, h46, h]
section TOW
variable {n C : Nat} {kk : Nat → Nat × Nat} {q : Nat → Nat → Option Nat} {I J : Nat → Nat → Int32} {L : Nat → Nat → Int64} {ah : Nat → Nat} {M : Nat → List (Nat × Nat × List Nat)}
/-- what the tower's calls leave -/
def tFr (I J : Nat → Nat → Int32) : Prop := (∀ j, ((15 ≤ j ∧ j < 57) ∨ (82 ≤ j ∧ j ≤ 87) ∨ (107 ≤ j ∧ j ≤ 112) ∨ 131 ≤ j) → J j = I j) ∧ J 80 45 = I 80 45 ∧ J 80 46 = I 80 46
theorem sXY_t (h : tFr I J) (d : Nat) : sXY I (kn I) J (kn J) d := by
  obtain ⟨h1, h2, h3⟩ := h
  obtain ⟨k1, k2⟩ := kn_2 h2 h3 (h1 112 (by omega))
  exact sXY_b (e0 := 0) rfl k1 (fun i i1 i2 => absurd i2 (by omega)) (fun n _ _ => by rw [h1 107 (by omega), h1 108 (by omega), h1 109 (by omega), h1 110 (by omega), h1 111 (by omega)]; exact ⟨rfl, rfl, rfl, rfl, rfl⟩) (fun i _ => by rw [k2]) d
theorem gInv_t (g : gInv n kk q I L C ah M) (h : tFr I J) (hT : wfT J) (hc : cTow J J) (hw : cWet J J) (hd : cDay J L J) : gInv n kk q J L C ah M := by
  have hs := sXY_t h
  obtain ⟨gT, gB, ⟨g1, g2, ⟨⟨b1, b2, b3⟩, b4, b5, b6, b7, b8⟩, g4, g5⟩, gc, gm, gn⟩ := g
  obtain ⟨h1, h2, h3⟩ := h
  obtain ⟨k1, k2⟩ := kn_2 h2 h3 (h1 112 (by omega))
  have r107 := h1 107 (by omega)
  refine ⟨hT, wfB_2 h2 h3 (fun j j1 j2 => h1 j (by omega)) gB, ⟨hc, hw, ⟨⟨b1, b2, b3⟩, by rw [k1]; exact b4, fun i hi => cAct_r (h1 _ (by have := (b1 i hi).2.1; omega)) ⟨by rw [r107], by rw [h1 108 (by omega)], by rw [h1 109 (by omega)], by rw [h1 110 (by omega)], by rw [h1 111 (by omega)], by rw [h1 112 (by omega)]⟩ (b5 i hi), by rw [h1 55 (by omega), h2]; exact b6, by rw [h1 55 (by omega), h3]; exact b7, fun i hi => by rw [h1 _ (by have := (b1 i hi).2.1; omega), k2]; exact b8 i hi⟩, cSum_xy (fun d _ => hs d) (h1 15 (by omega)) (h1 17 (by omega)) (fun c hc => h1 _ (by omega)) rfl g4, hd⟩, cCode_m (Nat.le_refl _) (fun _ _ => rfl) (fun _ _ => rfl) (fun j j1 j2 j3 => h1 j (by omega)) (fun i hi => by rw [r107]) gc, fun r r1 r2 r3 => ?_, gn⟩
  rw [r107] at r3
  rw [k1] at r2
  rw [h1 82 (by omega), h1 83 (by omega), h1 84 (by omega), h1 85 (by omega), h1 86 (by omega), h1 87 (by omega)]
  exact gm r r1 r2 r3
/-- the days up to A stay -/
theorem cDay_t (h : tFr I J) (hd : cDay I L I) {A : Nat} (hA : A ≤ 400) (h11 : ∀ R, I 13 11 = nI R → R ≤ 400 → J 13 11 = nI (min R A)) (h6 : A ≠ 0 → rT6 I J) (hw : ∀ d, d < A → watZ I d = watZ J d) : cDay J L J := by
  have hs := sXY_t h
  obtain ⟨R, r1, r2, r3⟩ := hd
  refine ⟨min R A, h11 R r1 r2, by omega, fun D hD => ?_⟩
  obtain ⟨q1, q2, q3, q4⟩ := r3 D (by omega)
  have e : ((∀ c, c < 16 → (pS I D).1 c = (pS J D).1 c) ∧ (pS I D).2 = (pS J D).2) ∧ wsZ I D = wsZ J D ∧ drZ I D = drZ J D := by
    by_cases z : D = 0
    · subst z; exact ⟨⟨fun c _ => rfl, rfl⟩, rfl, rfl⟩
    · exact pS_w (h6 (by omega)) (R := D) (fun d hd => hw d (by omega)) (fun d _ => hs d) D (Nat.le_refl _)
  obtain ⟨⟨e1, e2⟩, e3, e4⟩ := e
  exact ⟨by rw [h.1 52 (by omega), ← e2]; exact q1, by rw [h.1 53 (by omega), ← e3]; exact q2, by rw [h.1 54 (by omega), ← e4]; exact q3, fun c hc => by rw [← e1 c hc]; exact q4 c hc⟩
/-- the judge's memory behind a spoilt day -/
theorem jInv_s {b C : Nat} (h : jInv b I C M) (h55 : J 55 4 = I 55 4) (h13 : J 13 12 = I 13 12 + 1) (h60 : J 60 = I 60) : jInv (b + 201) J C M := by
  obtain ⟨u, v, h1, h2, h3, h4, h5⟩ := h
  refine ⟨u, v + 1, by rw [h55]; exact h1, by rw [h13, h2]; exact nI_1 v, by omega, by omega, ?_⟩
  rw [h60]
  rcases h5 with h5 | ⟨u0, v0, k1, k2, k3, k4, k5⟩
  · exact Or.inl h5
  · exact Or.inr ⟨u0, v0, k1, by omega, k3, k4, fun _ e => absurd e (by omega)⟩
/-- the judge's memory behind a call that the judge does not see -/
theorem jInv_t {b C : Nat} (hb : b ≤ 1000000) (h : jInv b I C M) (hB : wfB I) (hC : nC I = C) (hf : tFr I J) (h6 : rT6 I J) (hw : ∀ d, d < 400 → watZ I d = watZ J d) (h13 : J 13 12 = I 13 12) (h60 : J 60 = I 60) (h63 : J 63 = I 63) : jInv (b + 201) J C M := by
  obtain ⟨k1, k2⟩ := kn_2 hf.2.1 hf.2.2 (hf.1 112 (by omega))
  exact jInv_f hb h hB (wfB_2 hf.2.1 hf.2.2 (fun j j1 j2 => hf.1 j (by omega)) hB) hC (by rw [k1]; exact hC) (Nat.le_refl _) ⟨0, 0, Nat.le_refl _, by omega, by rw [hf.1 55 (by omega)]; exact (Int32.add_zero _).symm, by rw [h13]; exact (Int32.add_zero _).symm, fun _ i _ => by rw [k2], fun i _ _ => by rw [hf.1 107 (by omega), hf.1 108 (by omega), hf.1 109 (by omega), hf.1 110 (by omega), hf.1 111 (by omega)]; exact ⟨rfl, rfl, rfl, rfl, rfl⟩⟩ h6 hw (fun _ _ => rfl) (fun k _ => by rw [h60]) h63
end TOW
/-- nothing is changed -/
theorem h_same {k n sl C : Nat} {kk : Nat → Nat × Nat} {q : Nat → Nat → Option Nat} {I : Nat → Nat → Int32} {L : Nat → Nat → Int64} {ah : Nat → Nat} {M : Nat → List (Nat × Nat × List Nat)} {tx : Nat → Nat} {T : Nat} (hk : k ≤ 512) (g : gInv n kk q I L C ah M) (hr : rInv kk I tx T) (ht : tInv I) (hu : uInv I) (hs : sInv I) (hc : cInv I) (hj : jInv (201 * k) I C M) (hn : n ≤ 131 + 2 * k) (hsl : sl ≤ 231806 + 820 * k) : hInv (k + 1) (n, sl, wKK kk, I, L, wQQ q) := ojV_h hk g hr ht hu hs hc hj hn hsl (ojW_v (ojR_w (ojR_same g)))
/-- from the two reckonings to the pair of answers -/
theorem jx_e {m1 m2 k : Nat} {l1 l2 : am_L} {h h1 h2 : am_H} {d1 d2 : Nat} {z : Int32} (a1 : d1 ≤ 200) (a2 : d2 ≤ 200) (e1 : am_Ev d1 m1 0 l1 [] h (some (.int z), h1)) (e2 : am_Ev d2 m2 0 l2 [] h1 (some (.int z), h2)) (i : hInv (k + 1) h2) : am_T 200 m1 0 l1 [] h (jxQ m2 l2 k) :=
  tv_e (ev_up a1 e1) ⟨.int z, Or.inl ⟨z, rfl⟩, rfl, tv_e (ev_up a2 e2) ⟨rfl, i⟩⟩
theorem jx_el {m1 m2 k : Nat} {l1 l2 : am_L} {h h1 h2 : am_H} {d1 d2 : Nat} {z : Int64} (a1 : d1 ≤ 200) (a2 : d2 ≤ 200) (e1 : am_Ev d1 m1 0 l1 [] h (some (.long z), h1)) (e2 : am_Ev d2 m2 0 l2 [] h1 (some (.long z), h2)) (i : hInv (k + 1) h2) : am_T 200 m1 0 l1 [] h (jxQ m2 l2 k) :=
  tv_e (ev_up a1 e1) ⟨.long z, Or.inr ⟨z, rfl⟩, rfl, tv_e (ev_up a2 e2) ⟨rfl, i⟩⟩
