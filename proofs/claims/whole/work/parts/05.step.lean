/-! EACH INSTRUCTION OF THE ABSTRACT MACHINE IS ONE OF THE MACHINE -/
def am_St (p : Program) (l : Launch) (e : Env) (R : Room) (s : State) (m : MethodId) (args : Array Value) (below : List Frame) (meth : Method) (c : Code) (Qz : State → Prop) (D : va_G) (cA : Nat → ClassId) (base : Nat) (ad : Nat → Nat) (Ls : Nat) (xs : Nat → Int32) (n0 s0 : Nat) (pc : Nat) (ls : am_L) (st : List Value) (h : am_H) : Prop :=
  ∀ (H : Heap) (locs : List Loc) (lsC : Array Slot), am_HR D cA base ad h H → am_HP Ls xs h → va_S (fun q => base ≤ q) s.heap H locs → am_LR ad lsC ls → W p l e R s m args below meth c H locs (h.1 - n0) (h.2.1 - s0) Qz (F0 m pc lsC (st.map (am_cv ad)))
theorem am_inj {a a' : Nat} {b b' : am_L} {c c' : List Value} {d d' : am_H} (h : (some (a, b, c, d) : Option am_R) = some (a', b', c', d')) : a' = a ∧ b' = b ∧ c' = c ∧ d' = d := by
  cases h
  exact ⟨rfl, rfl, rfl, rfl⟩
theorem am_wd_hts {args : Array Value} {s : State} {i : Nat} {w : Cond} (hts : ∀ w ∈ am_W, w.before args s = true) (h : am_wd i w = true) : w.before args s = true := by
  unfold am_wd at h
  simp only [Bool.and_eq_true, decide_eq_true_eq] at h
  exact hts w (List.mem_filter.mpr ⟨am_wt_in h.1, h.2⟩)
theorem am_wd_in {i : Nat} {w : Cond} (h : am_wd i w = true) : w ∈ am_W := by
  unfold am_wd at h
  simp only [Bool.and_eq_true, decide_eq_true_eq] at h
  exact List.mem_filter.mpr ⟨am_wt_in h.1, h.2⟩
theorem am_clsx : ∀ ci : Nat, ci < 12 → am_classes[ci]? = some (am_RX ci, am_TX ci, am_NF ci)
  | 0, _ => rfl
  | 1, _ => rfl
  | 2, _ => rfl
  | 3, _ => rfl
  | 4, _ => rfl
  | 5, _ => rfl
  | 6, _ => rfl
  | 7, _ => rfl
  | 8, _ => rfl
  | 9, _ => rfl
  | 10, _ => rfl
  | 11, _ => rfl
  | k + 12, h => absurd h (by omega)
theorem am_uw1 {ws : List Cond} (h : ∀ w ∈ ws, w ∈ lw_tbl) (hg : ws.all am_gw = true) : ∀ w ∈ ws, w ∈ am_W := fun w hw => List.mem_filter.mpr ⟨h w hw, List.all_eq_true.mp hg w hw⟩
theorem am_uws : ∀ ci : Nat, ci < 12 → ∀ w ∈ u_ws (am_RX ci) (am_TX ci) (am_NF ci), w ∈ am_W
  | 0, _ => am_uw1 am_in0 (by decide +kernel)
  | 1, _ => am_uw1 am_in1 (by decide +kernel)
  | 2, _ => am_uw1 am_in2 (by decide +kernel)
  | 3, _ => am_uw1 am_in3 (by decide +kernel)
  | 4, _ => am_uw1 am_in4 (by decide +kernel)
  | 5, _ => am_uw1 am_in5 (by decide +kernel)
  | 6, _ => am_uw1 am_in6 (by decide +kernel)
  | 7, _ => am_uw1 am_in7 (by decide +kernel)
  | 8, _ => am_uw1 am_in8 (by decide +kernel)
  | 9, _ => am_uw1 am_in9 (by decide +kernel)
  | 10, _ => am_uw1 am_in10 (by decide +kernel)
  | 11, _ => am_uw1 am_in11 (by decide +kernel)
  | k + 12, h => absurd h (by omega)
def am_tf (ci : Nat) : Nat → FieldType := match ci with
  | 0 => tyX0
  | 1 => tyX1
  | 2 => tyX2
  | 3 => tyX3
  | 4 => tyX4
  | 5 => tyX5
  | 6 => tyX6
  | 7 => tyX7
  | 8 => tyX8
  | 9 => tyX9
  | 10 => tyX10
  | _ => tyX11
theorem am_tys : ∀ ci : Nat, ci < 12 → ∀ k, k < am_NF ci → parseFieldDescriptor (am_TX ci k).2.2.1 = some (am_tf ci k)
  | 0, _ => tyX0_ok
  | 1, _ => tyX1_ok
  | 2, _ => tyX2_ok
  | 3, _ => tyX3_ok
  | 4, _ => tyX4_ok
  | 5, _ => tyX5_ok
  | 6, _ => tyX6_ok
  | 7, _ => tyX7_ok
  | 8, _ => tyX8_ok
  | 9, _ => tyX9_ok
  | 10, _ => tyX10_ok
  | 11, _ => tyX11_ok
  | k + 12, h => absurd h (by omega)
theorem am_nms : ∀ ci : Nat, ci < 12 → ∀ a, a < am_NF ci → ∀ b, b < am_NF ci → a ≠ b → (am_TX ci a).2.1 ≠ (am_TX ci b).2.1
  | 0, _ => nmX0
  | 1, _ => nmX1
  | 2, _ => nmX2
  | 3, _ => nmX3
  | 4, _ => nmX4
  | 5, _ => nmX5
  | 6, _ => nmX6
  | 7, _ => nmX7
  | 8, _ => nmX8
  | 9, _ => nmX9
  | 10, _ => nmX10
  | 11, _ => nmX11
  | k + 12, h => absurd h (by omega)
def am_kt (kd : Nat) (ty : FieldType) : Bool := match kd, ty with
  | 0, .int => true
  | 1, .long => true
  | 2, .object _ => true
  | 2, .array _ => true
  | 3, .boolean => true
  | _, _ => false
theorem am_kts : ∀ ci : Nat, ci < 12 → ∀ k, k < am_NF ci → am_kt (am_kd ci k) (am_tf ci k) = true := by decide +kernel
theorem am_put_spec {ad : Nat → Nat} {kd a k : Nat} {x : Value} {h h' : am_H} {ci : Nat} (hp : am_put kd a k x h = some h') (hkd : am_kd ci k = kd) :
    h'.1 = h.1 ∧ h'.2.1 = h.2.1 ∧ h'.2.2.1 = h.2.2.1 ∧ (∀ j : Nat, j ≠ a → h'.2.2.2.1 j = h.2.2.2.1 j ∧ h'.2.2.2.2.1 j = h.2.2.2.2.1 j ∧ h'.2.2.2.2.2 j = h.2.2.2.2.2 j) ∧
    (∀ k' : Nat, am_fv ad (h'.2.2.2.1 a) (h'.2.2.2.2.1 a) (h'.2.2.2.2.2 a) (am_kd ci k') k' = updV (fun k => am_fv ad (h.2.2.2.1 a) (h.2.2.2.2.1 a) (h.2.2.2.2.2 a) (am_kd ci k) k) k (am_cv ad x) k') ∧
    (∀ ty : FieldType, am_kt kd ty = true → narrow ty (am_cv ad x) = am_cv ad x ∧ fits ty (am_cv ad x) = true) := by
  obtain ⟨n, sl, K, I, L, Q⟩ := h
  have cI : ∀ (y : Int32) (k' : Nat), (kd = 0 ∨ kd = 3) → am_fv ad (upd (I a) k y) (L a) (Q a) (am_kd ci k') k' = updV (fun k => am_fv ad (I a) (L a) (Q a) (am_kd ci k) k) k (.int y) k' := by
    intro y k' hk3
    unfold updV
    by_cases ek : k' = k
    · subst ek
      rw [if_pos rfl, hkd]
      rcases hk3 with rfl | rfl <;> simp [am_fv, upd]
    · rw [if_neg ek]
      show am_fv _ _ _ _ (am_kd ci k') k' = am_fv ad (I a) (L a) (Q a) (am_kd ci k') k'
      generalize am_kd ci k' = q
      rcases q with _ | _ | _ | q <;> simp [am_fv, upd, ek]
  have cL : ∀ (y : Int64) (k' : Nat), kd = 1 → am_fv ad (I a) (vp_updL (L a) k y) (Q a) (am_kd ci k') k' = updV (fun k => am_fv ad (I a) (L a) (Q a) (am_kd ci k) k) k (.long y) k' := by
    intro y k' hk3
    unfold updV
    by_cases ek : k' = k
    · subst ek
      rw [if_pos rfl, hkd, hk3]
      simp [am_fv, vp_updL]
    · rw [if_neg ek]
      show am_fv _ _ _ _ (am_kd ci k') k' = am_fv ad (I a) (L a) (Q a) (am_kd ci k') k'
      generalize am_kd ci k' = q
      rcases q with _ | _ | _ | q <;> simp [am_fv, vp_updL, ek]
  have cQ : ∀ (y : Option Nat) (k' : Nat), kd = 2 → am_fv ad (I a) (L a) (va_up (Q a) k y) (am_kd ci k') k' = updV (fun k => am_fv ad (I a) (L a) (Q a) (am_kd ci k) k) k (va_rf (y.map ad)) k' := by
    intro y k' hk3
    unfold updV
    by_cases ek : k' = k
    · subst ek
      rw [if_pos rfl, hkd, hk3]
      simp [am_fv, va_up]
    · rw [if_neg ek]
      show am_fv _ _ _ _ (am_kd ci k') k' = am_fv ad (I a) (L a) (Q a) (am_kd ci k') k'
      generalize am_kd ci k' = q
      rcases q with _ | _ | _ | q <;> simp [am_fv, va_up, ek]
  unfold am_put at hp
  dsimp only at hp
  split at hp
  · rename_i y
    cases hp
    refine ⟨rfl, rfl, rfl, fun j hj => ⟨am_upn hj, rfl, rfl⟩, fun k' => ?_, fun ty hty => ?_⟩
    · show am_fv ad (va_up I a (upd (I a) k y) a) _ _ _ _ = _
      rw [am_ups]
      exact cI y k' (Or.inl rfl)
    · cases ty <;> first | exact ⟨rfl, rfl⟩ | cases hty
  · rename_i y
    split at hp
    · rename_i h01
      cases hp
      refine ⟨rfl, rfl, rfl, fun j hj => ⟨am_upn hj, rfl, rfl⟩, fun k' => ?_, fun ty hty => ?_⟩
      · show am_fv ad (va_up I a (upd (I a) k y) a) _ _ _ _ = _
        rw [am_ups]
        exact cI y k' (Or.inr rfl)
      · cases ty <;> first | (rcases h01 with rfl | rfl <;> exact ⟨rfl, rfl⟩) | cases hty
    · cases hp
  · rename_i y
    cases hp
    refine ⟨rfl, rfl, rfl, fun j hj => ⟨rfl, am_upn hj, rfl⟩, fun k' => ?_, fun ty hty => ?_⟩
    · show am_fv ad _ (va_up L a (vp_updL (L a) k y) a) _ _ _ = _
      rw [am_ups]
      exact cL y k' rfl
    · cases ty <;> first | exact ⟨rfl, rfl⟩ | cases hty
  · rename_i y
    cases hp
    refine ⟨rfl, rfl, rfl, fun j hj => ⟨rfl, rfl, am_upn hj⟩, fun k' => ?_, fun ty hty => ?_⟩
    · show am_fv ad _ _ (va_up Q a (va_up (Q a) k (some y)) a) _ _ = _
      rw [am_ups]
      exact cQ (some y) k' rfl
    · cases ty <;> first | exact ⟨rfl, rfl⟩ | cases hty
  · cases hp
    refine ⟨rfl, rfl, rfl, fun j hj => ⟨rfl, rfl, am_upn hj⟩, fun k' => ?_, fun ty hty => ?_⟩
    · show am_fv ad _ _ (va_up Q a (va_up (Q a) k none) a) _ _ = _
      rw [am_ups]
      exact cQ none k' rfl
    · cases ty <;> first | exact ⟨rfl, rfl⟩ | cases hty
  · cases hp
section AMS
variable {p : Program} {l : Launch} {e : Env} {R : Room} {s : State} {m : MethodId} {args : Array Value} {below : List Frame} {meth : Method} {c : Code} {Qz : State → Prop}
variable {D : va_G} {cA : Nat → ClassId} {base Ls : Nat} {ad : Nat → Nat} {xs : Nat → Int32} {n0 s0 : Nat}
variable {pc pc' : Nat} {ls ls' : am_L} {st st' : List Value} {h h' : am_H} {cc : ByteArray}
theorem am_s_ii {f : Int32 → Int32 → Int32} (row : ∀ (x y : Int32) (rest : List Value) (lsC : Array Slot) (H : Heap) (locs : List Loc) (i j : Nat), W p l e R s m args below meth c H locs i j Qz (F0 m (pc + 1) lsC (.int (f x y) :: rest)) → W p l e R s m args below meth c H locs i j Qz (F0 m pc lsC (.int y :: .int x :: rest)))
    (h1 : am_ii f pc ls st h = some (pc', ls', st', h')) (k : am_St p l e R s m args below meth c Qz D cA base ad Ls xs n0 s0 pc' ls' st' h') : am_St p l e R s m args below meth c Qz D cA base ad Ls xs n0 s0 pc ls st h := by
  unfold am_ii at h1
  split at h1
  · obtain ⟨rfl, rfl, rfl, rfl⟩ := am_inj h1
    intro H locs lsC hH hP hS hl
    exact row _ _ _ _ _ _ _ _ (k H locs lsC hH hP hS hl)
  · cases h1
theorem am_s_ll {f : Int64 → Int64 → Int64} (row : ∀ (x y : Int64) (rest : List Value) (lsC : Array Slot) (H : Heap) (locs : List Loc) (i j : Nat), W p l e R s m args below meth c H locs i j Qz (F0 m (pc + 1) lsC (.long (f x y) :: rest)) → W p l e R s m args below meth c H locs i j Qz (F0 m pc lsC (.long y :: .long x :: rest)))
    (h1 : am_ll f pc ls st h = some (pc', ls', st', h')) (k : am_St p l e R s m args below meth c Qz D cA base ad Ls xs n0 s0 pc' ls' st' h') : am_St p l e R s m args below meth c Qz D cA base ad Ls xs n0 s0 pc ls st h := by
  unfold am_ll at h1
  split at h1
  · obtain ⟨rfl, rfl, rfl, rfl⟩ := am_inj h1
    intro H locs lsC hH hP hS hl
    exact row _ _ _ _ _ _ _ _ (k H locs lsC hH hP hS hl)
  · cases h1
theorem am_s_li {kx n : Nat} (row : ∀ (x : Int32) (rest : List Value) (lsC : Array Slot) (H : Heap) (locs : List Loc) (i j : Nat), lsC[kx]? = some (.val (.int x)) → W p l e R s m args below meth c H locs i j Qz (F0 m (pc + n) lsC (.int x :: rest)) → W p l e R s m args below meth c H locs i j Qz (F0 m pc lsC rest))
    (h1 : am_li kx n pc ls st h = some (pc', ls', st', h')) (k : am_St p l e R s m args below meth c Qz D cA base ad Ls xs n0 s0 pc' ls' st' h') : am_St p l e R s m args below meth c Qz D cA base ad Ls xs n0 s0 pc ls st h := by
  unfold am_li at h1
  split at h1
  · rename_i x hg
    obtain ⟨rfl, rfl, rfl, rfl⟩ := am_inj h1
    intro H locs lsC hH hP hS hl
    exact row _ _ _ _ _ _ _ (hl.2.2 kx _ hg) (k H locs lsC hH hP hS hl)
  · cases h1
theorem am_s_lj {kx n : Nat} (row : ∀ (x : Int64) (rest : List Value) (lsC : Array Slot) (H : Heap) (locs : List Loc) (i j : Nat), lsC[kx]? = some (.val (.long x)) → W p l e R s m args below meth c H locs i j Qz (F0 m (pc + n) lsC (.long x :: rest)) → W p l e R s m args below meth c H locs i j Qz (F0 m pc lsC rest))
    (h1 : am_lj kx n pc ls st h = some (pc', ls', st', h')) (k : am_St p l e R s m args below meth c Qz D cA base ad Ls xs n0 s0 pc' ls' st' h') : am_St p l e R s m args below meth c Qz D cA base ad Ls xs n0 s0 pc ls st h := by
  unfold am_lj at h1
  split at h1
  · rename_i x hg
    obtain ⟨rfl, rfl, rfl, rfl⟩ := am_inj h1
    intro H locs lsC hH hP hS hl
    exact row _ _ _ _ _ _ _ (hl.2.2 kx _ hg) (k H locs lsC hH hP hS hl)
  · cases h1
theorem am_s_la {kx n : Nat} (row : ∀ (x : Nat) (rest : List Value) (lsC : Array Slot) (H : Heap) (locs : List Loc) (i j : Nat), lsC[kx]? = some (.val (.ref x)) → W p l e R s m args below meth c H locs i j Qz (F0 m (pc + n) lsC (.ref x :: rest)) → W p l e R s m args below meth c H locs i j Qz (F0 m pc lsC rest))
    (rowN : ∀ (rest : List Value) (lsC : Array Slot) (H : Heap) (locs : List Loc) (i j : Nat), lsC[kx]? = some (.val .null) → W p l e R s m args below meth c H locs i j Qz (F0 m (pc + n) lsC (.null :: rest)) → W p l e R s m args below meth c H locs i j Qz (F0 m pc lsC rest))
    (h1 : am_la kx n pc ls st h = some (pc', ls', st', h')) (k : am_St p l e R s m args below meth c Qz D cA base ad Ls xs n0 s0 pc' ls' st' h') : am_St p l e R s m args below meth c Qz D cA base ad Ls xs n0 s0 pc ls st h := by
  unfold am_la at h1
  split at h1
  · rename_i x hg
    obtain ⟨rfl, rfl, rfl, rfl⟩ := am_inj h1
    intro H locs lsC hH hP hS hl
    exact row _ _ _ _ _ _ _ (hl.2.2 kx _ hg) (k H locs lsC hH hP hS hl)
  · rename_i hg
    obtain ⟨rfl, rfl, rfl, rfl⟩ := am_inj h1
    intro H locs lsC hH hP hS hl
    exact rowN _ _ _ _ _ _ (hl.2.2 kx _ hg) (k H locs lsC hH hP hS hl)
  · cases h1
theorem am_s_si {kx n : Nat} (row : ∀ (x : Int32) (rest : List Value) (lsC : Array Slot) (nL : Nat) (lv : List (Nat × Value)) (H : Heap) (locs : List Loc) (i j : Nat), lv_has lsC nL lv → kx < nL → (∀ lsD : Array Slot, lv_has lsD nL ((kx, Value.int x) :: lv.filter (fun q => !(q.1 == kx) && !(q.1 + 1 == kx && q.2.category == 2))) → W p l e R s m args below meth c H locs i j Qz (F0 m (pc + n) lsD rest)) → W p l e R s m args below meth c H locs i j Qz (F0 m pc lsC (.int x :: rest)))
    (h1 : am_si kx n pc ls st h = some (pc', ls', st', h')) (k : am_St p l e R s m args below meth c Qz D cA base ad Ls xs n0 s0 pc' ls' st' h') : am_St p l e R s m args below meth c Qz D cA base ad Ls xs n0 s0 pc ls st h := by
  unfold am_si at h1
  split at h1
  · split at h1
    · rename_i hlt
      obtain ⟨rfl, rfl, rfl, rfl⟩ := am_inj h1
      intro H locs lsC hH hP hS hl
      exact row _ _ _ _ _ _ _ _ _ hl.has hlt (fun lsD hD => k H locs lsD hH hP hS (hl.set1 (v := .int _) hD))
    · cases h1
  · cases h1
theorem am_s_sj {kx n : Nat} (row : ∀ (x : Int64) (rest : List Value) (lsC : Array Slot) (nL : Nat) (lv : List (Nat × Value)) (H : Heap) (locs : List Loc) (i j : Nat), lv_has lsC nL lv → kx + 1 < nL → (∀ lsD : Array Slot, lv_has lsD nL ((kx, Value.long x) :: lv.filter (fun q => !(q.1 == kx) && (!(q.1 == kx + 1) && !(q.1 + 1 == kx && q.2.category == 2)))) → W p l e R s m args below meth c H locs i j Qz (F0 m (pc + n) lsD rest)) → W p l e R s m args below meth c H locs i j Qz (F0 m pc lsC (.long x :: rest)))
    (h1 : am_sj kx n pc ls st h = some (pc', ls', st', h')) (k : am_St p l e R s m args below meth c Qz D cA base ad Ls xs n0 s0 pc' ls' st' h') : am_St p l e R s m args below meth c Qz D cA base ad Ls xs n0 s0 pc ls st h := by
  unfold am_sj at h1
  split at h1
  · split at h1
    · rename_i hlt
      obtain ⟨rfl, rfl, rfl, rfl⟩ := am_inj h1
      intro H locs lsC hH hP hS hl
      exact row _ _ _ _ _ _ _ _ _ hl.has hlt (fun lsD hD => k H locs lsD hH hP hS (hl.set2 (v := .long _) hD))
    · cases h1
  · cases h1
theorem am_s_sa {kx n : Nat} (row : ∀ (x : Nat) (rest : List Value) (lsC : Array Slot) (nL : Nat) (lv : List (Nat × Value)) (H : Heap) (locs : List Loc) (i j : Nat), lv_has lsC nL lv → kx < nL → (∀ lsD : Array Slot, lv_has lsD nL ((kx, Value.ref x) :: lv.filter (fun q => !(q.1 == kx) && !(q.1 + 1 == kx && q.2.category == 2))) → W p l e R s m args below meth c H locs i j Qz (F0 m (pc + n) lsD rest)) → W p l e R s m args below meth c H locs i j Qz (F0 m pc lsC (.ref x :: rest)))
    (rowN : ∀ (rest : List Value) (lsC : Array Slot) (nL : Nat) (lv : List (Nat × Value)) (H : Heap) (locs : List Loc) (i j : Nat), lv_has lsC nL lv → kx < nL → (∀ lsD : Array Slot, lv_has lsD nL ((kx, Value.null) :: lv.filter (fun q => !(q.1 == kx) && !(q.1 + 1 == kx && q.2.category == 2))) → W p l e R s m args below meth c H locs i j Qz (F0 m (pc + n) lsD rest)) → W p l e R s m args below meth c H locs i j Qz (F0 m pc lsC (.null :: rest)))
    (h1 : am_sa kx n pc ls st h = some (pc', ls', st', h')) (k : am_St p l e R s m args below meth c Qz D cA base ad Ls xs n0 s0 pc' ls' st' h') : am_St p l e R s m args below meth c Qz D cA base ad Ls xs n0 s0 pc ls st h := by
  unfold am_sa at h1
  split at h1
  · split at h1
    · rename_i hlt
      obtain ⟨rfl, rfl, rfl, rfl⟩ := am_inj h1
      intro H locs lsC hH hP hS hl
      exact row _ _ _ _ _ _ _ _ _ hl.has hlt (fun lsD hD => k H locs lsD hH hP hS (hl.set1 (v := .ref _) hD))
    · cases h1
  · split at h1
    · rename_i hlt
      obtain ⟨rfl, rfl, rfl, rfl⟩ := am_inj h1
      intro H locs lsC hH hP hS hl
      exact rowN _ _ _ _ _ _ _ _ hl.has hlt (fun lsD hD => k H locs lsD hH hP hS (hl.set1 (v := .null) hD))
    · cases h1
  · cases h1
theorem am_pc (q : pc = pc') (k : am_St p l e R s m args below meth c Qz D cA base ad Ls xs n0 s0 pc ls st h) : am_St p l e R s m args below meth c Qz D cA base ad Ls xs n0 s0 pc' ls st h := q ▸ k
theorem am_s_if {cd : Jvm.ClassFile.Cond} {off : Int} {t : Nat} {x : Int32} {r : List Value} (hx : p.tables.exec = Jvm.exec) (hb : c.code = cc) (hdg : decode cc pc = .ok (.ifCond cd off, 3)) (ht : (pc : Int) + off = (t : Int))
    (k : am_St p l e R s m args below meth c Qz D cA base ad Ls xs n0 s0 (am_br cd x 0 t (pc + 3)) ls r h) : am_St p l e R s m args below meth c Qz D cA base ad Ls xs n0 s0 pc ls (.int x :: r) h := by
  intro H locs lsC hH hP hS hl
  cases cd
  · exact lv_if_eq hx hb hdg ht (fun q => am_pc (if_pos q) k H locs lsC hH hP hS hl) (fun q => am_pc (if_neg q) k H locs lsC hH hP hS hl)
  · exact lv_if_ne hx hb hdg ht (fun q => am_pc (if_neg q) k H locs lsC hH hP hS hl) (fun q => am_pc (if_pos q) k H locs lsC hH hP hS hl)
  · exact lv_if_lt hx hb hdg ht (fun q => am_pc (if_pos q) k H locs lsC hH hP hS hl) (fun q => am_pc (if_neg q) k H locs lsC hH hP hS hl)
  · exact lv_if_ge hx hb hdg ht (fun q => am_pc (if_pos q) k H locs lsC hH hP hS hl) (fun q => am_pc (if_neg q) k H locs lsC hH hP hS hl)
  · exact lv_if_gt hx hb hdg ht (fun q => am_pc (if_pos q) k H locs lsC hH hP hS hl) (fun q => am_pc (if_neg q) k H locs lsC hH hP hS hl)
  · exact lv_if_le hx hb hdg ht (fun q => am_pc (if_pos q) k H locs lsC hH hP hS hl) (fun q => am_pc (if_neg q) k H locs lsC hH hP hS hl)
theorem am_s_ic {cd : Jvm.ClassFile.Cond} {off : Int} {t : Nat} {x y : Int32} {r : List Value} (hx : p.tables.exec = Jvm.exec) (hb : c.code = cc) (hdg : decode cc pc = .ok (.if_icmp cd off, 3)) (ht : (pc : Int) + off = (t : Int))
    (k : am_St p l e R s m args below meth c Qz D cA base ad Ls xs n0 s0 (am_br cd x y t (pc + 3)) ls r h) : am_St p l e R s m args below meth c Qz D cA base ad Ls xs n0 s0 pc ls (.int y :: .int x :: r) h := by
  intro H locs lsC hH hP hS hl
  cases cd
  · exact lv_icmp_eq hx hb hdg ht (fun q => am_pc (if_pos q) k H locs lsC hH hP hS hl) (fun q => am_pc (if_neg q) k H locs lsC hH hP hS hl)
  · exact lv_icmp_ne hx hb hdg ht (fun q => am_pc (if_neg q) k H locs lsC hH hP hS hl) (fun q => am_pc (if_pos q) k H locs lsC hH hP hS hl)
  · exact lv_icmp_lt hx hb hdg ht (fun q => am_pc (if_pos q) k H locs lsC hH hP hS hl) (fun q => am_pc (if_neg q) k H locs lsC hH hP hS hl)
  · exact lv_icmp_ge hx hb hdg ht (fun q => am_pc (if_pos q) k H locs lsC hH hP hS hl) (fun q => am_pc (if_neg q) k H locs lsC hH hP hS hl)
  · exact lv_icmp_gt hx hb hdg ht (fun q => am_pc (if_pos q) k H locs lsC hH hP hS hl) (fun q => am_pc (if_neg q) k H locs lsC hH hP hS hl)
  · exact lv_icmp_le hx hb hdg ht (fun q => am_pc (if_pos q) k H locs lsC hH hP hS hl) (fun q => am_pc (if_neg q) k H locs lsC hH hP hS hl)
theorem am_tgt_of {off : Int} {t : Nat} (h : am_tgt pc off t = true) : (pc : Int) + off = (t : Int) := of_decide_eq_true h
theorem am_s_tsw {d lo hi : Int} {offs : Array Int} {len : Nat} {t : Nat} {ts : List Nat} {x : Int32} {r : List Value} (hx : p.tables.exec = Jvm.exec) (hb : c.code = cc) (hdg : decode cc pc = .ok (.tableswitch d lo hi offs, len)) (hd : am_tgt pc d t = true) (hn : hi - lo + 1 = (ts.length : Int))
    (ha : (List.range ts.length).all (fun k => match offs[k]? with
      | some o => am_tgt pc o (ts.getD k t)
      | none => false) = true)
    (k : am_St p l e R s m args below meth c Qz D cA base ad Ls xs n0 s0 (if x.toInt < lo ∨ hi < x.toInt then t else ts.getD (x.toInt - lo).toNat t) ls r h) : am_St p l e R s m args below meth c Qz D cA base ad Ls xs n0 s0 pc ls (.int x :: r) h := by
  intro H locs lsC hH hP hS hl
  by_cases q : x.toInt < lo ∨ hi < x.toInt
  · exact lv_tableOut hx hb hdg q (am_tgt_of hd) (am_pc (if_pos q) k H locs lsC hH hP hS hl)
  · have k2 := am_pc (if_neg q) k H locs lsC hH hP hS hl
    have hlt : (x.toInt - lo).toNat < ts.length := by omega
    have h1 := List.all_eq_true.mp ha _ (List.mem_range.mpr hlt)
    cases ho : offs[(x.toInt - lo).toNat]? with
    | none => rw [ho] at h1; cases h1
    | some o =>
      rw [ho] at h1
      exact lv_tableIn hx hb hdg (fun z => q (Or.inl z)) (fun z => q (Or.inr z)) ho (am_tgt_of h1) k2
theorem am_lsf_off {pc dt : Nat} {d x : Int} (hd : am_tgt pc d dt = true) : ∀ (ps : List (Int × Int)) (ts : List Nat), ps.length = ts.length → (ps.zip ts).all (fun q => am_tgt pc q.1.2 q.2) = true → am_tgt pc (Op.lookupswitch.offset ps d x) (am_lsf ps ts dt x) = true
  | [], ts, _, _ => by cases ts <;> exact hd
  | (a, o) :: ps, [], h, _ => by simp at h
  | (a, o) :: ps, t :: ts, h, h2 => by
    rw [List.zip_cons_cons, List.all_cons, Bool.and_eq_true] at h2
    rw [Op.lookupswitch.offset_cons]
    show am_tgt pc _ (if a = x then t else am_lsf ps ts dt x) = true
    by_cases e : a = x
    · rw [if_pos e, if_pos e]; exact h2.1
    · rw [if_neg e, if_neg e]; exact am_lsf_off hd ps ts (by simpa using h) h2.2
theorem am_s_lsw {d : Int} {ps : Array (Int × Int)} {len t : Nat} {ts : List Nat} {x : Int32} {r : List Value} (hx : p.tables.exec = Jvm.exec) (hb : c.code = cc) (hdg : decode cc pc = .ok (.lookupswitch d ps, len)) (hd : am_tgt pc d t = true) (hn : ps.size = ts.length) (ha : (ps.toList.zip ts).all (fun q => am_tgt pc q.1.2 q.2) = true) (hi : (ps.toList.zip (ps.toList.drop 1)).all (fun (a, next) => a.1 < next.1) = true)
    (k : am_St p l e R s m args below meth c Qz D cA base ad Ls xs n0 s0 (am_lsf ps.toList ts t x.toInt) ls r h) : am_St p l e R s m args below meth c Qz D cA base ad Ls xs n0 s0 pc ls (.int x :: r) h := by
  intro H locs lsC hH hP hS hl
  exact lv_lookup hx hb hdg hi rfl (am_tgt_of (am_lsf_off hd ps.toList ts (by simpa using hn) ha)) (k H locs lsC hH hP hS hl)
end AMS
