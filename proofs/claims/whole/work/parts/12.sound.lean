/-! A CALL, A RETURN, THE WHOLE RUN -/
/-- a run of a method is a contract of it -/
def am_Mt (l : Launch) (D : va_G) (cA : Nat → ClassId) (base b Ls : Nat) (xs : Nat → Int32) (adK adV : Nat → Nat) (d mi : Nat) (as : List Value) (h : am_H) (rv : Option Value) (h' : am_H) : Prop :=
  Met l (am_mi mi).2.1 (Cond.code (am_mi mi).2.1 (am_mi mi).2.2.1 (am_mi mi).2.2.2.1 (am_mi mi).2.2.2.2.1 :: am_W) (am_rm d (h'.1 - h.1) (h'.2.1 - h.2.1)) (va_Pc (as.map (am_cv (am_ad base b adK))) (am_Bs D cA base b Ls xs adK adV h)) (am_Qc D cA base Ls xs (am_ad base b adK) rv h') (h'.1 - h.1) (h'.2.1 - h.2.1) (fun q => base ≤ q)
/-- strings: what String.length and String.charAt do of the constants -/
def am_Str (l : Launch) : Prop := ∀ (p : Program) (e : Env) (R : Room) (s : State) (m : MethodId) (args : Array Value) (below : List Frame) (meth : Method) (c : Code) (D : va_G) (cA : Nat → ClassId) (base b Ls : Nat) (xs : Nat → Int32) (adK adV : Nat → Nat) (mi ix i : Nat) (H : Heap) (locs : List Loc) (a1 a2 : Nat) (Qz : State → Prop) (pc : Nat) (lsC : Array Slot) (r : List Value),
  am_Cx p s m args meth c mi → am_K D cA s → am_X base b Ls xs adK adV s s.heap → base ≤ s.heap.size → i < 21 → 6 ≤ R.frames → 240 ≤ R.locals → a1 ≤ R.cells → a2 ≤ R.slots → (r.map fun v => v.category).sum ≤ 8 → lsC.size = c.maxLocals → (am_mi mi).1 = RX6 → va_S (fun q => base ≤ q) s.heap H locs →
  (decode c.code pc = .ok (.invokevirtual ix, 3) → (Cond.methodLink RX6 ix yJ0_length_8abf5).before args s = true → W p l e R s m args below meth c H locs a1 a2 Qz (F0 m (pc + 3) lsC (.int (Int32.ofNat (am_sln i)) :: r)) → W p l e R s m args below meth c H locs a1 a2 Qz (F0 m pc lsC (.ref (adK i) :: r))) ∧
  (∀ k : Int32, ¬ (k < 0 ∨ am_sln i ≤ k.toNatClampNeg) → decode c.code pc = .ok (.invokevirtual ix, 3) → (Cond.methodLink RX6 ix yJ0_charAt_5068e).before args s = true → W p l e R s m args below meth c H locs a1 a2 Qz (F0 m (pc + 3) lsC (.int (am_sch i k.toNatClampNeg) :: r)) → W p l e R s m args below meth c H locs a1 a2 Qz (F0 m pc lsC (.int k :: .ref (adK i) :: r)))
theorem am_ok_parts {mi pc : Nat} {i : Instr} {len : Nat} {ops : List Nat} {v : Value} (hok : am_okE mi pc (i, len, ops, v) = true) : decode (am_mi mi).2.2.1 pc = .ok (i, len) ∧ (am_mi mi).1 = (am_mi mi).2.1.cls ∧ am_ok1 (am_mi mi).1 (am_mi mi).2.1.name (am_mi mi).2.2.2.2.1 pc i len ops v = true := by
  unfold am_okE at hok
  generalize am_mi mi = M at hok ⊢
  obtain ⟨own, y, cc, ml, rt, en⟩ := M
  simp only [Bool.and_eq_true, decide_eq_true_eq] at hok
  exact ⟨hok.1.1, hok.1.2, hok.2⟩
/-- how a method ends -/
def am_ret (mi pc : Nat) (rv : Option Value) : Prop :=
  (rv = none ∧ decode (am_mi mi).2.2.1 pc = .ok (.return_, 1) ∧ (am_mi mi).2.2.2.2.1 = none) ∨
  (∃ x : Int32, rv = some (.int x) ∧ decode (am_mi mi).2.2.1 pc = .ok (.ireturn, 1) ∧ ∃ ty, (am_mi mi).2.2.2.2.1 = some ty ∧ narrow ty (.int x) = .int x) ∨
  (∃ x : Int64, rv = some (.long x) ∧ decode (am_mi mi).2.2.1 pc = .ok (.lreturn, 1) ∧ (am_mi mi).2.2.2.2.1 = some .long) ∨
  ((rv = some .null ∨ ∃ x : Nat, rv = some (.ref x)) ∧ decode (am_mi mi).2.2.1 pc = .ok (.areturn, 1) ∧ ∃ ty, (am_mi mi).2.2.2.2.1 = some ty ∧ ((∃ n, ty = .object n) ∨ ∃ t, ty = .array t))
theorem am_ret_of {mi pc : Nat} {i : Instr} {len : Nat} {ops : List Nat} {v : Value} {st : List Value} {rv : Option Value} (hok : am_okE mi pc (i, len, ops, v) = true) (hr : am_rts i ops st = some rv) : am_ret mi pc rv ∧ st = rv.toList := by
  obtain ⟨hdec, -, h1⟩ := am_ok_parts hok
  unfold am_ret
  generalize (am_mi mi).2.2.1 = cc at hdec ⊢
  generalize (am_mi mi).2.2.2.2.1 = rt at h1 ⊢
  unfold am_rts at hr
  split at hr
  · simp only [am_ok1, Bool.and_eq_true, beq_iff_eq] at h1
    obtain ⟨rfl, h1⟩ := h1
    split at hr
    · rename_i x
      split at hr
      · rename_i h01
        cases hr
        refine ⟨Or.inr (Or.inl ⟨x, rfl, hdec, .boolean, of_decide_eq_true h1, ?_⟩), rfl⟩
        rcases h01 with rfl | rfl <;> rfl
      · cases hr
    · rename_i x
      cases hr
      exact ⟨Or.inr (Or.inl ⟨x, rfl, hdec, .int, of_decide_eq_true h1, rfl⟩), rfl⟩
    · cases hr
  · simp only [am_ok1, Bool.and_eq_true, beq_iff_eq, decide_eq_true_eq] at h1
    obtain ⟨rfl, h1⟩ := h1
    split at hr
    · rename_i x
      cases hr
      exact ⟨Or.inr (Or.inr (Or.inl ⟨x, rfl, hdec, h1⟩)), rfl⟩
    · cases hr
  · simp only [am_ok1, Bool.and_eq_true, beq_iff_eq] at h1
    obtain ⟨rfl, h1⟩ := h1
    have ht : ∃ ty, rt = some ty ∧ ((∃ n, ty = .object n) ∨ ∃ t, ty = .array t) := by
      split at h1
      · exact ⟨_, rfl, Or.inl ⟨_, rfl⟩⟩
      · exact ⟨_, rfl, Or.inr ⟨_, rfl⟩⟩
      · cases h1
    split at hr
    · rename_i x
      cases hr
      exact ⟨Or.inr (Or.inr (Or.inr ⟨Or.inr ⟨x, rfl⟩, hdec, ht⟩)), rfl⟩
    · cases hr
      exact ⟨Or.inr (Or.inr (Or.inr ⟨Or.inl rfl, hdec, ht⟩)), rfl⟩
    · cases hr
  · simp only [am_ok1, Bool.and_eq_true, beq_iff_eq, decide_eq_true_eq] at h1
    obtain ⟨rfl, h1⟩ := h1
    split at hr
    · cases hr
      exact ⟨Or.inl ⟨rfl, hdec, h1⟩, rfl⟩
    · cases hr
  · cases hr
section AMX
variable {p : Program} {l : Launch} {e : Env} {R : Room} {s : State} {m : MethodId} {args : Array Value} {below : List Frame} {meth : Method} {c : Code} {Qz : State → Prop}
variable {D : va_G} {cA : Nat → ClassId} {base b Ls : Nat} {adK adV : Nat → Nat} {xs : Nat → Int32} {n0 s0 : Nat}
variable {pc pc' : Nat} {ls ls' : am_L} {st st' : List Value} {h h' : am_H} {mi : Nat} {i : Instr} {len : Nat} {ops : List Nat} {v : Value}
theorem am_s_copy {ix : Nat} {n sl : Nat} {K : Nat → Nat × Nat} {I : Nat → Nat → Int32} {L : Nat → Nat → Int64} {Q : Nat → Nat → Option Nat} {ad : Nat → Nat} {a a0 : Nat} {k sp dp : Int32} {r : List Value} {own : String} {cc : ByteArray}
    (hx : p.tables.exec = Jvm.exec) (hb : c.code = cc) (hml : c.maxLocals = ls.length) (hown : s.vm.findClass own = some m.cls) (hts : ∀ w ∈ am_W, w.before args s = true) (hK : am_K D cA s) (had : ∀ j : Nat, am_rn j < n → ad j = base + am_rn j)
    (w1 : (Cond.methodLink own ix arraycopyName).before args s = true) (w2 : (Cond.native arraycopyName).before args s = true) (w3 : (Cond.static arraycopyName).before args s = true) (w4 : (Cond.initialized "java/lang/System").before args s = true)
    (hfr : 1 ≤ R.frames) (hlo : 40 ≤ R.locals) (hcat : am_cat r ≤ 8) (ha : (K a).1 = 20) (ha0 : (K a0).1 = 20) (h1 : ¬ sp < 0) (h2 : ¬ dp < 0) (h3 : ¬ k < 0) (h4 : sp.toNatClampNeg + k.toNatClampNeg ≤ (K a0).2) (h5 : dp.toNatClampNeg + k.toNatClampNeg ≤ (K a).2) (hdg : decode cc pc = .ok (.invokestatic ix, 3))
    (kk : am_St p l e R s m args below meth c Qz D cA base ad Ls xs n0 s0 (pc + 3) ls r (n, sl, K, va_up I a (va_cpy (I a0) (I a) sp.toNatClampNeg dp.toNatClampNeg k.toNatClampNeg), L, Q)) : am_St p l e R s m args below meth c Qz D cA base ad Ls xs n0 s0 pc ls (.int k :: .int dp :: .ref a :: .int sp :: .ref a0 :: r) (n, sl, K, I, L, Q) := by
  intro H locs lsC hH hP hS hl
  have nn : ∀ z : Int32, ¬ z < 0 → z.toInt = (z.toNatClampNeg : Int) := by
    intro z hz
    have hz0 : (0 : Int) ≤ z.toInt := by
      have := Int32.not_lt.mp hz
      simpa using Int32.le_iff_toInt_le.mp this
    show z.toInt = ((z.toInt.toNat : Nat) : Int)
    omega
  have ha30 : (K a).1 < 30 := by omega
  have ha030 : (K a0).1 < 30 := by omega
  obtain ⟨hA, hat⟩ := hH.2 a ha30
  obtain ⟨hA0, hat0⟩ := hH.2 a0 ha030
  have hc1 : H[ad a]? = some (vp_cell (cA 20) ((K a).2, .inl (I a))) := am_at_arr hat ha (by omega)
  have hc0 : H[ad a0]? = some (vp_cell (cA 20) ((K a0).2, .inl (I a0))) := am_at_arr hat0 ha0 (by omega)
  intro T hT X
  obtain ⟨-, k0, hk0, cm0, hkk0⟩ := (hK.2.1 20 (by omega) (by omega)).1 (K a0).2 (fun j => .int (I a0 j))
  obtain ⟨-, k1, hk1, cm1, hkk1⟩ := (hK.2.1 20 (by omega) (by omega)).1 (K a).2 (fun j => .int (I a j))
  have hcat2 := am_cat_map ad r
  obtain ⟨vm', X', step⟩ := X.arraycopy hx hown w1 w2 w3 w4 (src := ad a0) (dst := ad a) (cs := vp_cell (cA 20) ((K a0).2, .inl (I a0))) (cd := vp_cell (cA 20) ((K a).2, .inl (I a))) (srcPos := sp) (destPos := dp) (n := k) (by rw [hT]; exact hc0) (by rw [hT]; exact hc1)
    (fun _ h => by cases h) (fun _ h => by cases h) (fun h => by cases h) (fun h => by cases h) hk0 hk1 hkk0 hkk1 (by simp [refKind, am_ty]) h1 h2 h3
    (by rw [nn sp h1, nn k h3]; show ¬ _ > ((arrV (cA 20) (K a0).2 (fun j => .int (I a0 j))).slots.size : Int); rw [arrV_size]; omega)
    (by rw [nn dp h2, nn k h3]; show ¬ _ > ((arrV (cA 20) (K a).2 (fun j => .int (I a j))).slots.size : Int); rw [arrV_size]; omega)
    (fun vm₁ _ i hi => by
      have e : (vp_cell (cA 20) ((K a0).2, .inl (I a0))).slots.getD (sp.toNatClampNeg + i) .null = .int (I a0 (sp.toNatClampNeg + i)) := by
        show (arrV (cA 20) (K a0).2 (fun j => .int (I a0 j))).slots.getD _ _ = _
        rw [Array.getD_eq_getD_getElem?, arrV_read _ _ (by omega)]
        rfl
      refine ⟨?_, ?_⟩
      · rw [e]
        rfl
      · rw [e]
        exact trivial)
    (g := F0 m pc lsC (.int k :: .int dp :: .ref (ad a) :: .int sp :: .ref (ad a0) :: r.map (am_cv ad))) rfl (by rw [hml]; exact hl.1) (rest := r.map (am_cv ad)) rfl (by rw [hb]; exact hdg) hfr (by
      show 2 * 0 + _ + (nativeFrameWords "java/lang/System" "arraycopy" 5 + 11) ≤ _
      rw [hcat2]
      have : nativeFrameWords "java/lang/System" "arraycopy" 5 = 7 := by decide
      omega)
  have e1 : copied (vp_cell (cA 20) ((K a0).2, .inl (I a0))) (vp_cell (cA 20) ((K a).2, .inl (I a))) sp dp k = vp_cell (cA 20) ((K a).2, .inl (va_cpy (I a0) (I a) sp.toNatClampNeg dp.toNatClampNeg k.toNatClampNeg)) := va_copied (fun z => .int z) (cA 20) (cA 20) (I a0) (I a) h4
  rw [e1] at X' step
  have hlt : ad a < H.size := (Array.getElem?_eq_some_iff.mp hc1).1
  have hheap : ((T.setVm vm').setCell (ad a) (vp_cell (cA 20) ((K a).2, .inl (va_cpy (I a0) (I a) sp.toNatClampNeg dp.toNatClampNeg k.toNatClampNeg)))).heap = H.setIfInBounds (ad a) (vp_cell (cA 20) ((K a).2, .inl (va_cpy (I a0) (I a) sp.toNatClampNeg dp.toNatClampNeg k.toNatClampNeg))) := by rw [← hT]; rfl
  have oq : ∀ q : Nat, q ≠ ad a → (H.setIfInBounds (ad a) (vp_cell (cA 20) ((K a).2, .inl (va_cpy (I a0) (I a) sp.toNatClampNeg dp.toNatClampNeg k.toNatClampNeg))))[q]? = H[q]? := fun q hq => by simp [Array.getElem?_setIfInBounds, Ne.symm hq]
  have z1 : (H.setIfInBounds (ad a) (vp_cell (cA 20) ((K a).2, .inl (va_cpy (I a0) (I a) sp.toNatClampNeg dp.toNatClampNeg k.toNatClampNeg)))).size = H.size := by simp
  have hS1 : ∀ L2 : List Loc, (∀ q ∈ L2, q.base = ad a) → va_S (fun q => base ≤ q) s.heap (H.setIfInBounds (ad a) (vp_cell (cA 20) ((K a).2, .inl (va_cpy (I a0) (I a) sp.toNatClampNeg dp.toNatClampNeg k.toNatClampNeg)))) (locs ++ L2) := by
    intro L2 hL2
    have hba : base ≤ ad a := by rw [had a hA]; exact Nat.le_add_right _ _
    refine ⟨by rw [z1]; exact hS.1, fun q g1 g2 => ?_, fun q hq => ?_⟩
    · rw [oq q (fun e => g2 (by rw [e]; exact hba))]
      exact hS.2.1 q g1 g2
    · rcases List.mem_append.mp hq with h9 | h9
      · exact hS.2.2 q h9
      · show base ≤ q.base
        rw [hL2 q h9]
        exact hba
  obtain ⟨t, a1, b1⟩ := kk _ _ lsC (am_HR_put (h := (n, sl, K, I, L, Q)) hH had rfl rfl ha30 (fun j hj => am_upn hj) (fun j hj => rfl) (fun j hj => rfl) (am_arr_at (t := 20) ha (by omega) (by
      show (H.setIfInBounds (ad a) _)[ad a]? = some (vp_cell (cA 20) ((K a).2, .inl (va_up I a (va_cpy (I a0) (I a) sp.toNatClampNeg dp.toNatClampNeg k.toNatClampNeg) a)))
      rw [am_ups]
      simp [Array.getElem?_setIfInBounds, hlt])) z1 oq) (am_HP_put (h := (n, sl, K, I, L, Q)) hP rfl ha30 (fun j hj => am_upn hj)) (hS1 _ (by
        intro q hq
        obtain ⟨i9, -, rfl⟩ := List.mem_map.mp hq
        rfl)) hl _ hheap X'
  exact ⟨t, step t a1, b1⟩
end AMX
