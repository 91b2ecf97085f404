/-! THE ABSTRACT MACHINE AND THE MACHINE: how a store of handles lies in the heap -/
theorem am_rn_f (j : Nat) : (j < 59 ∧ am_rn j = j) ∨ (59 ≤ j ∧ j < 127 ∧ am_rn j = j + 4) ∨ (127 ≤ j ∧ j < 131 ∧ am_rn j = j - 68) ∨ (131 ≤ j ∧ am_rn j = j) := by
  unfold am_rn
  cases h1 : Nat.ble 131 j with
  | true => have := Nat.le_of_ble_eq_true h1; exact Or.inr (Or.inr (Or.inr ⟨this, rfl⟩))
  | false =>
    have g1 : ¬ 131 ≤ j := fun q => by rw [Nat.ble_eq_true_of_le q] at h1; cases h1
    cases h2 : Nat.ble 127 j with
    | true => have := Nat.le_of_ble_eq_true h2; exact Or.inr (Or.inr (Or.inl ⟨this, by omega, rfl⟩))
    | false =>
      have g2 : ¬ 127 ≤ j := fun q => by rw [Nat.ble_eq_true_of_le q] at h2; cases h2
      cases h3 : Nat.ble 59 j with
      | true => have := Nat.le_of_ble_eq_true h3; exact Or.inr (Or.inl ⟨this, by omega, rfl⟩)
      | false =>
        have g3 : ¬ 59 ≤ j := fun q => by rw [Nat.ble_eq_true_of_le q] at h3; cases h3
        exact Or.inl ⟨by omega, rfl⟩
theorem am_nr_f (i : Nat) : (i < 59 ∧ am_nr i = i) ∨ (59 ≤ i ∧ i < 63 ∧ am_nr i = i + 68) ∨ (63 ≤ i ∧ i < 131 ∧ am_nr i = i - 4) ∨ (131 ≤ i ∧ am_nr i = i) := by
  unfold am_nr
  cases h1 : Nat.ble 131 i with
  | true => have := Nat.le_of_ble_eq_true h1; exact Or.inr (Or.inr (Or.inr ⟨this, rfl⟩))
  | false =>
    have g1 : ¬ 131 ≤ i := fun q => by rw [Nat.ble_eq_true_of_le q] at h1; cases h1
    cases h2 : Nat.ble 63 i with
    | true => have := Nat.le_of_ble_eq_true h2; exact Or.inr (Or.inr (Or.inl ⟨this, by omega, rfl⟩))
    | false =>
      have g2 : ¬ 63 ≤ i := fun q => by rw [Nat.ble_eq_true_of_le q] at h2; cases h2
      cases h3 : Nat.ble 59 i with
      | true => have := Nat.le_of_ble_eq_true h3; exact Or.inr (Or.inl ⟨this, by omega, rfl⟩)
      | false =>
        have g3 : ¬ 59 ≤ i := fun q => by rw [Nat.ble_eq_true_of_le q] at h3; cases h3
        exact Or.inl ⟨by omega, rfl⟩
theorem am_rn_nr (i : Nat) : am_rn (am_nr i) = i := by
  have h1 := am_nr_f i
  have h2 := am_rn_f (am_nr i)
  omega
theorem am_nr_hi {i : Nat} (h : 131 ≤ i) : am_nr i = i := by have := am_nr_f i; omega
theorem am_rn_inj {i j : Nat} (h : am_rn i = am_rn j) : i = j := by
  have h1 := am_rn_f i
  have h2 := am_rn_f j
  omega
theorem am_rn_lo {j : Nat} (h : j < 59) : am_rn j = j := by have := am_rn_f j; omega
theorem am_rn_lo2 {j : Nat} (h : am_rn j < 59) : am_rn j = j := by have := am_rn_f j; omega
theorem am_rn_B {j : Nat} (h : am_rn j < am_B) : j < am_B := by
  have := am_rn_f j
  have e : am_B = 1000000 := rfl
  omega
def am_ad (base b : Nat) (adK : Nat → Nat) (h : Nat) : Nat := if h < am_B then base + am_rn h else if h = am_B then b else adK (h - am_B - 1)
def am_cv (ad : Nat → Nat) (v : Value) : Value := match v with
  | .ref h => .ref (ad h)
  | v => v
def am_fv (ad : Nat → Nat) (I : Nat → Int32) (L : Nat → Int64) (Q : Nat → Option Nat) (kd k : Nat) : Value := match kd with
  | 1 => .long (L k)
  | 2 => va_rf ((Q k).map ad)
  | _ => .int (I k)
def am_con (ad : Nat → Nat) (t : Nat) (I : Nat → Int32) (L : Nat → Int64) (Q : Nat → Option Nat) : (Nat → Int32) ⊕ (Nat → Int64) ⊕ (Nat → UInt32) ⊕ (Nat → UInt64) ⊕ (Nat → Option Nat) :=
  if t = 21 then .inr (.inl L) else if t ≤ 23 then .inl I else .inr (.inr (.inr (.inr (fun k => (Q k).map ad))))
def am_at (D : va_G) (cA : Nat → ClassId) (ad : Nat → Nat) (h : am_H) (j : Nat) (H : Heap) : Prop :=
  if (h.2.2.1 j).1 < 12 then t_OB (ad j) (D.1 (h.2.2.1 j).1) (am_NF (h.2.2.1 j).1) (D.2 (h.2.2.1 j).1) H (fun k => am_fv ad (h.2.2.2.1 j) (h.2.2.2.2.1 j) (h.2.2.2.2.2 j) (am_kd (h.2.2.1 j).1 k) k)
  else H[ad j]? = some (vp_cell (cA (h.2.2.1 j).1) ((h.2.2.1 j).2, am_con ad (h.2.2.1 j).1 (h.2.2.2.1 j) (h.2.2.2.2.1 j) (h.2.2.2.2.2 j)))
def am_HR (D : va_G) (cA : Nat → ClassId) (base : Nat) (ad : Nat → Nat) (h : am_H) (H : Heap) : Prop :=
  H.size = base + h.1 ∧ ∀ j : Nat, (h.2.2.1 j).1 < 30 → am_rn j < h.1 ∧ am_at D cA ad h j H
/-- what stood there before: the script, the string constants -/
def am_sch (i k : Nat) : Int32 := Int32.ofNat (((am_stx i).toList.getD k ' ').toNat)
def am_sln (i : Nat) : Nat := (am_stx i).length
def am_HP (L : Nat) (xs : Nat → Int32) (h : am_H) : Prop := (∀ j : Nat, (h.2.2.1 j).1 = 30 → j = am_B ∧ (h.2.2.1 j).2 = L ∧ h.2.2.2.1 j = xs) ∧
  (∀ j : Nat, (h.2.2.1 j).1 = 31 → ∃ i : Nat, i < 21 ∧ j = am_B + 1 + i ∧ (h.2.2.1 j).2 = am_sln i ∧ ∀ k : Nat, k < am_sln i → h.2.2.2.1 j k = am_sch i k) ∧ ∀ j : Nat, 30 ≤ (h.2.2.1 j).1 → (h.2.2.1 j).1 < 32 → am_B ≤ j
def am_K (D : va_G) (cA : Nat → ClassId) (s : State) : Prop := va_K D am_classes [] s ∧ (∀ t : Nat, 20 ≤ t → t ≤ 26 → ArrOfT s (cA t) (am_ty t) ∧ va_RA s (cA t) (am_ty t)) ∧ va_AO RX0 s ∧ (Cond.arrayOver (.array .int)).before #[] s = true ∧ (Cond.arrayOver (.array .long)).before #[] s = true
def am_bytes (i : Nat) : List Int32 := (am_stx i).toList.map fun c => Int32.ofNat c.toNat
def am_X (base b L : Nat) (xs : Nat → Int32) (adK adV : Nat → Nat) (s : State) (H : Heap) : Prop := (va_X b L xs s H ∧ b < base) ∧
  vk_S 21 ((List.range 21).map am_sln) ((List.range 21).map am_bytes) adK adV (fun q => base ≤ q) s H ∧ (∀ i : Nat, i < 21 → vk_R RX6 (176 + 2 * i) (am_stx i) (adK i) s) ∧
  va_Z "java/lang/String" "COMPACT_STRINGS" "Z" (.int 1) (fun q => base ≤ q) s H ∧ va_Zq "jdk/internal/util/Preconditions" "SIOOBE_FORMATTER" "Ljava/util/function/BiFunction;" (fun q => base ≤ q) s H
def am_Cx (p : Program) (s : State) (m : MethodId) (args : Array Value) (meth : Method) (c : Code) (mi : Nat) : Prop :=
  p.tables.exec = Jvm.exec ∧ c.code = (am_mi mi).2.2.1 ∧ c.maxLocals = (am_mi mi).2.2.2.1 ∧ s.vm.findClass (am_mi mi).1 = some m.cls ∧ (∀ w ∈ am_W, w.before args s = true) ∧ ((am_mi mi).2.1.name = "<init>" → meth.name = "<init>")
def am_LR (ad : Nat → Nat) (lsC : Array Slot) (ls : am_L) : Prop := lsC.size = ls.length ∧ lv_wf lsC ∧ ∀ (i : Nat) (v : Value), am_lget ls i = some v → lsC[i]? = some (.val (am_cv ad v))
theorem am_upn {α : Type} {f : Nat → α} {k j : Nat} {v : α} (h : j ≠ k) : va_up f k v j = f j := if_neg h
theorem am_ups {α : Type} {f : Nat → α} {k : Nat} {v : α} : va_up f k v k = v := if_pos rfl
theorem am_cat_cv (ad : Nat → Nat) (v : Value) : (am_cv ad v).category = v.category := by cases v <;> rfl
theorem am_cv_rf (ad : Nat → Nat) (r : Option Nat) : am_cv ad (va_rf r) = va_rf (r.map ad) := by cases r <;> rfl
theorem am_cv_get (ad : Nat → Nat) (kd a k : Nat) (h : am_H) : am_cv ad (am_get kd a k h) = am_fv ad (h.2.2.2.1 a) (h.2.2.2.2.1 a) (h.2.2.2.2.2 a) kd k := by
  obtain ⟨n, sl, K, I, L, Q⟩ := h
  rcases kd with _ | _ | _ | kd <;> first | rfl | exact am_cv_rf ad _
theorem am_lget_iff {ls : am_L} {i : Nat} {v : Value} : am_lget ls i = some v ↔ ls[i]? = some (some v) := by
  unfold am_lget
  cases h : ls[i]? with
  | none => simp
  | some o => simp
theorem am_k2_len (ls : am_L) (i : Nat) : (am_k2 ls i).length = ls.length := by
  unfold am_k2
  split
  · rfl
  · split <;> first | rfl | simp
theorem am_k2_get {ls : am_L} {i j : Nat} {v : Value} (h : am_lget (am_k2 ls i) j = some v) : am_lget ls j = some v ∧ ¬ (j + 1 = i ∧ v.category = 2) := by
  unfold am_k2 at h
  split at h
  · exact ⟨h, fun q => by omega⟩
  · rename_i i'
    have key : ∀ x, am_lget ls i' = some x → am_lget (ls.set i' none) j = some v → am_lget ls j = some v ∧ ¬ (j + 1 = i' + 1 ∧ v.category = 2) := by
      intro x hx h
      rw [am_lget_iff] at h hx
      have hl := (List.getElem?_eq_some_iff.mp hx).1
      by_cases e : j = i'
      · subst e
        rw [List.getElem?_set_self hl] at h
        cases h
      · rw [List.getElem?_set_ne (Ne.symm e)] at h
        exact ⟨am_lget_iff.mpr h, fun q => e (by omega)⟩
    split at h
    · rename_i x hx
      exact key _ hx h
    · rename_i x hx
      exact key _ hx h
    · rename_i hn1 hn2
      refine ⟨h, fun q => ?_⟩
      have e : j = i' := by omega
      subst e
      cases v with
      | long x => exact hn1 x h
      | double x => exact hn2 x h
      | _ => exact absurd q.2 (by simp [Value.category])
/-- the held locals, as the kit's list -/
def am_prs (ad : Nat → Nat) (ls : am_L) : List (Nat × Value) := (List.range ls.length).filterMap fun i => (am_lget ls i).map fun v => (i, am_cv ad v)
theorem am_prs_mem {ad : Nat → Nat} {ls : am_L} {i : Nat} {v : Value} (h : am_lget ls i = some v) : (i, am_cv ad v) ∈ am_prs ad ls := by
  have hl := (List.getElem?_eq_some_iff.mp (am_lget_iff.mp h)).1
  exact List.mem_filterMap.mpr ⟨i, List.mem_range.mpr hl, by rw [h]; rfl⟩
theorem am_LR.has {ad : Nat → Nat} {lsC : Array Slot} {ls : am_L} (h : am_LR ad lsC ls) : lv_has lsC ls.length (am_prs ad ls) := by
  refine ⟨h.1, h.2.1, fun q hq => ?_⟩
  obtain ⟨i, -, hi⟩ := List.mem_filterMap.mp hq
  cases hg : am_lget ls i with
  | none => rw [hg] at hi; cases hi
  | some v =>
    rw [hg] at hi
    cases hi
    exact h.2.2 i v hg
theorem am_LR.set1 {ad : Nat → Nat} {lsC lsD : Array Slot} {ls : am_L} {i : Nat} {v : Value} (h : am_LR ad lsC ls) (h2 : lv_has lsD ls.length ((i, am_cv ad v) :: (am_prs ad ls).filter (fun q => !(q.1 == i) && !(q.1 + 1 == i && q.2.category == 2)))) : am_LR ad lsD (am_lset1 ls i v) := by
  refine ⟨by rw [h2.1]; simp [am_lset1, am_k2_len], h2.2.1, fun j w hw => ?_⟩
  unfold am_lset1 at hw
  rw [am_lget_iff] at hw
  by_cases e : j = i
  · subst e
    have hl := (List.getElem?_eq_some_iff.mp hw).1
    rw [List.length_set] at hl
    rw [List.getElem?_set_self hl] at hw
    cases hw
    exact h2.2.2 _ List.mem_cons_self
  · rw [List.getElem?_set_ne (Ne.symm e), ← am_lget_iff] at hw
    obtain ⟨h3, h4⟩ := am_k2_get hw
    refine h2.2.2 (j, am_cv ad w) (List.mem_cons_of_mem _ (List.mem_filter.mpr ⟨am_prs_mem h3, ?_⟩))
    rw [am_cat_cv]
    simp only [Bool.and_eq_true, Bool.not_eq_true', beq_eq_false_iff_ne, ne_eq]
    refine ⟨e, ?_⟩
    cases hb : (j + 1 == i && w.category == 2) with
    | false => rfl
    | true =>
      simp only [Bool.and_eq_true, beq_iff_eq] at hb
      exact absurd hb h4
theorem am_LR.set2 {ad : Nat → Nat} {lsC lsD : Array Slot} {ls : am_L} {i : Nat} {v : Value} (h : am_LR ad lsC ls) (h2 : lv_has lsD ls.length ((i, am_cv ad v) :: (am_prs ad ls).filter (fun q => !(q.1 == i) && (!(q.1 == i + 1) && !(q.1 + 1 == i && q.2.category == 2))))) : am_LR ad lsD (am_lset2 ls i v) := by
  refine ⟨by rw [h2.1]; simp [am_lset2, am_k2_len], h2.2.1, fun j w hw => ?_⟩
  unfold am_lset2 at hw
  rw [am_lget_iff] at hw
  by_cases e2 : j = i + 1
  · subst e2
    have hl := (List.getElem?_eq_some_iff.mp hw).1
    rw [List.length_set] at hl
    rw [List.getElem?_set_self hl] at hw
    cases hw
  · rw [List.getElem?_set_ne (Ne.symm e2)] at hw
    by_cases e : j = i
    · subst e
      have hl := (List.getElem?_eq_some_iff.mp hw).1
      rw [List.length_set] at hl
      rw [List.getElem?_set_self hl] at hw
      cases hw
      exact h2.2.2 _ List.mem_cons_self
    · rw [List.getElem?_set_ne (Ne.symm e), ← am_lget_iff] at hw
      obtain ⟨h3, h4⟩ := am_k2_get hw
      refine h2.2.2 (j, am_cv ad w) (List.mem_cons_of_mem _ (List.mem_filter.mpr ⟨am_prs_mem h3, ?_⟩))
      rw [am_cat_cv]
      simp only [Bool.and_eq_true, Bool.not_eq_true', beq_eq_false_iff_ne, ne_eq]
      refine ⟨e, e2, ?_⟩
      cases hb : (j + 1 == i && w.category == 2) with
      | false => rfl
      | true =>
        simp only [Bool.and_eq_true, beq_iff_eq] at hb
        exact absurd hb h4
theorem am_ad_lt {base b : Nat} {adK : Nat → Nat} {j : Nat} (h : am_rn j < am_B) : am_ad base b adK j = base + am_rn j := if_pos (am_rn_B h)
theorem am_at_kept {D : va_G} {cA : Nat → ClassId} {ad : Nat → Nat} {h h' : am_H} {j : Nat} {H H' : Heap} (hh : am_at D cA ad h j H) (eK : h'.2.2.1 j = h.2.2.1 j) (eI : h'.2.2.2.1 j = h.2.2.2.1 j) (eL : h'.2.2.2.2.1 j = h.2.2.2.2.1 j) (eQ : h'.2.2.2.2.2 j = h.2.2.2.2.2 j) (eH : H'[ad j]? = H[ad j]?) : am_at D cA ad h' j H' := by
  unfold am_at at hh ⊢
  rw [eK, eI, eL, eQ]
  split at hh
  · rename_i hc
    rw [if_pos hc]
    exact hh.kept eH
  · rename_i hc
    rw [if_neg hc, eH]
    exact hh
theorem am_HR_put {D : va_G} {cA : Nat → ClassId} {base : Nat} {ad : Nat → Nat} {h h' : am_H} {a : Nat} {H H' : Heap} (hH : am_HR D cA base ad h H) (had : ∀ j : Nat, am_rn j < h.1 → ad j = base + am_rn j) (es : h'.1 = h.1) (eK : h'.2.2.1 = h.2.2.1) (ha : (h.2.2.1 a).1 < 30)
    (eI : ∀ j : Nat, j ≠ a → h'.2.2.2.1 j = h.2.2.2.1 j) (eL : ∀ j : Nat, j ≠ a → h'.2.2.2.2.1 j = h.2.2.2.2.1 j) (eQ : ∀ j : Nat, j ≠ a → h'.2.2.2.2.2 j = h.2.2.2.2.2 j) (new : am_at D cA ad h' a H') (z : H'.size = H.size) (oq : ∀ q : Nat, q ≠ ad a → H'[q]? = H[q]?) : am_HR D cA base ad h' H' := by
  refine ⟨by rw [z, es]; exact hH.1, fun j hj => ?_⟩
  rw [eK] at hj
  rw [es]
  refine ⟨(hH.2 j hj).1, ?_⟩
  by_cases e : j = a
  · rw [e]; exact new
  · refine am_at_kept (hH.2 j hj).2 (by rw [eK]) (eI j e) (eL j e) (eQ j e) (oq _ ?_)
    rw [had j (hH.2 j hj).1, had a (hH.2 a ha).1]
    exact fun q => e (am_rn_inj (Nat.add_left_cancel q))
theorem am_HR_new {D : va_G} {cA : Nat → ClassId} {base : Nat} {ad : Nat → Nat} {h : am_H} {t len N : Nat} {H H' : Heap} (hH : am_HR D cA base ad h H) (had : ∀ j : Nat, am_rn j < h.1 + 1 → ad j = base + am_rn j) (z : H'.size = H.size + 1) (o : ∀ q : Nat, q < H.size → H'[q]? = H[q]?) (new : am_at D cA ad (am_al t len N h) (am_nr h.1) H') : am_HR D cA base ad (am_al t len N h) H' := by
  obtain ⟨n, sl, K, I, L, Q⟩ := h
  refine ⟨by rw [z, hH.1]; show base + n + 1 = base + (n + 1); omega, fun j hj => ?_⟩
  by_cases e : j = am_nr n
  · subst e
    exact ⟨by rw [am_rn_nr]; exact Nat.lt_succ_self _, new⟩
  · have eK : va_up K (am_nr n) (t, len) j = K j := am_upn e
    have hj2 : (K j).1 < 30 := by
      have h2 : ((va_up K (am_nr n) (t, len)) j).1 < 30 := hj
      rwa [eK] at h2
    obtain ⟨h1, h2⟩ := hH.2 j hj2
    have h1' : am_rn j < n := h1
    refine ⟨Nat.lt_succ_of_lt h1', am_at_kept h2 eK (am_upn e) (am_upn e) (am_upn e) (o _ ?_)⟩
    rw [had j (by show am_rn j < n + 1; omega), hH.1]
    show base + am_rn j < base + n
    omega
theorem am_HP_put {L : Nat} {xs : Nat → Int32} {h h' : am_H} {a : Nat} (hP : am_HP L xs h) (eK : h'.2.2.1 = h.2.2.1) (ha : (h.2.2.1 a).1 < 30) (eI : ∀ j : Nat, j ≠ a → h'.2.2.2.1 j = h.2.2.2.1 j) : am_HP L xs h' := by
  obtain ⟨h1, h2, h3⟩ := hP
  refine ⟨fun j hj => ?_, fun j hj => ?_, fun j hj hj2 => ?_⟩
  · rw [eK] at hj ⊢
    have e : j ≠ a := fun e => by rw [e] at hj; omega
    rw [eI j e]
    exact h1 j hj
  · rw [eK] at hj ⊢
    have e : j ≠ a := fun e => by rw [e] at hj; omega
    rw [eI j e]
    exact h2 j hj
  · rw [eK] at hj hj2
    exact h3 j hj hj2
theorem am_HP_new {L : Nat} {xs : Nat → Int32} {h : am_H} {t len N : Nat} (hP : am_HP L xs h) (ht : t < 30) : am_HP L xs (am_al t len N h) := by
  obtain ⟨n, sl, K, I, L', Q⟩ := h
  obtain ⟨h1, h2, h3⟩ := hP
  have key : ∀ j : Nat, 30 ≤ ((va_up K (am_nr n) (t, len)) j).1 → j ≠ am_nr n := fun j hj e => by
    rw [e, am_ups] at hj
    have hj' : 30 ≤ t := hj
    omega
  refine ⟨fun j hj => ?_, fun j hj => ?_, fun j hj hj2 => ?_⟩
  · have hj' : ((va_up K (am_nr n) (t, len)) j).1 = 30 := hj
    have e := key j (by omega)
    show _ ∧ ((va_up K (am_nr n) (t, len)) j).2 = L ∧ va_up I (am_nr n) (fun _ => 0) j = xs
    rw [am_upn e] at hj' ⊢
    rw [am_upn e]
    exact h1 j hj'
  · have hj' : ((va_up K (am_nr n) (t, len)) j).1 = 31 := hj
    have e := key j (by omega)
    rw [am_upn e] at hj'
    obtain ⟨i, g1, g2, g3, g4⟩ := h2 j hj'
    refine ⟨i, g1, g2, ?_, ?_⟩
    · show ((va_up K (am_nr n) (t, len)) j).2 = _
      rw [am_upn e]
      exact g3
    · show ∀ k : Nat, k < am_sln i → (va_up I (am_nr n) (fun _ => 0) j) k = am_sch i k
      rw [am_upn e]
      exact g4
  · have hj' : 30 ≤ ((va_up K (am_nr n) (t, len)) j).1 := hj
    have hj2' : ((va_up K (am_nr n) (t, len)) j).1 < 32 := hj2
    have e := key j hj'
    rw [am_upn e] at hj' hj2'
    exact h3 j hj' hj2'
