/-! STORES INTO ARRAYS, NEW CELLS -/
theorem am_wo6 : Cond.arrayClass .int ∈ am_W := by decide +kernel
theorem am_wo7 : Cond.arrayClass .long ∈ am_W := by decide +kernel
theorem am_store {cA : ClassId} {n : Nat} {f : Nat → Int32} {i : Int32} {x : Int32} : (vp_cell cA (n, .inl f)).setSlot i.toNatClampNeg (.int x) = vp_cell cA (n, .inl (upd f i.toNatClampNeg x)) := by
  rw [vp_cell_i, vp_cell_i, arrV_store]
  congr 1
  funext q
  by_cases hq : q = i.toNatClampNeg
  · subst hq
    simp [updV, upd]
  · simp [updV, upd, hq]
theorem am_storeL {cA : ClassId} {n : Nat} {f : Nat → Int64} {i : Int32} {x : Int64} : (vp_cell cA (n, .inr (.inl f))).setSlot i.toNatClampNeg (.long x) = vp_cell cA (n, .inr (.inl (vp_updL f i.toNatClampNeg x))) := by
  rw [vp_cell_l, vp_cell_l, arrV_store]
  congr 1
  funext q
  by_cases hq : q = i.toNatClampNeg
  · subst hq
    simp [updV, vp_updL]
  · simp [updV, vp_updL, hq]
section AMU
variable {p : Program} {l : Launch} {e : Env} {R : Room} {s : State} {m : MethodId} {args : Array Value} {below : List Frame} {meth : Method} {c : Code} {Qz : State → Prop}
variable {D : va_G} {cA : Nat → ClassId} {base Ls : Nat} {ad : Nat → Nat} {xs : Nat → Int32} {n0 s0 : Nat}
variable {pc pc' : Nat} {ls ls' : am_L} {st st' r : List Value} {n sl : Nat} {K : Nat → Nat × Nat} {I : Nat → Nat → Int32} {L : Nat → Nat → Int64} {Q : Nat → Nat → Option Nat} {cc : ByteArray} {own : String} {ix ci k kd a : Nat}
theorem am_s_ias {i x : Int32} (hx : p.tables.exec = Jvm.exec) (hb : c.code = cc) (hK : am_K D cA s) (had : ∀ j : Nat, am_rn j < n → ad j = base + am_rn j) (hdg : decode cc pc = .ok (.iastore, 1)) (ha : (K a).1 = 20) (hin : ¬ (i < 0 ∨ (K a).2 ≤ i.toNatClampNeg))
    (kk : am_St p l e R s m args below meth c Qz D cA base ad Ls xs n0 s0 (pc + 1) ls r (n, sl, K, va_up I a (upd (I a) i.toNatClampNeg x), L, Q)) : am_St p l e R s m args below meth c Qz D cA base ad Ls xs n0 s0 pc ls (.int x :: .int i :: .ref a :: r) (n, sl, K, I, L, Q) := by
  intro H locs lsC hH hP hS hl
  have ha30 : (K a).1 < 30 := by omega
  obtain ⟨hA, hat⟩ := hH.2 a ha30
  have hq := am_at_arr hat ha (by omega)
  refine W.iast hx hb hq ((hK.2.1 20 (by omega) (by omega)).1 (K a).2 (fun j => .int (I a j))) (fun q => by cases q) (by show ¬ (i < 0 ∨ (arrV _ _ _).slots.size ≤ _); rw [arrV_size]; exact hin) rfl rfl hdg fun H1 e1 z oq => ?_
  refine kk H1 _ lsC (am_HR_put (h := (n, sl, K, I, L, Q)) hH had rfl rfl ha30 (fun j hj => am_upn hj) (fun j hj => rfl) (fun j hj => rfl) (am_arr_at (t := 20) ha (by omega) ?_) z oq) (am_HP_put (h := (n, sl, K, I, L, Q)) hP rfl ha30 (fun j hj => am_upn hj)) (am_S_put (h := (n, sl, K, I, L, Q)) hS had hA z oq) hl
  show H1[ad a]? = some (vp_cell (cA 20) ((K a).2, .inl (va_up I a (upd (I a) i.toNatClampNeg x) a)))
  rw [am_ups, e1, ← am_store]
  rfl
theorem am_s_bas {i x : Int32} {ty : FieldType} {t : Nat} (hx : p.tables.exec = Jvm.exec) (hb : c.code = cc) (hK : am_K D cA s) (had : ∀ j : Nat, am_rn j < n → ad j = base + am_rn j) (hdg : decode cc pc = .ok (.bastore, 1)) (ha : (K a).1 = t) (ht : (t = 22 ∧ ty = .byte) ∨ (t = 23 ∧ ty = .boolean)) (hin : ¬ (i < 0 ∨ (K a).2 ≤ i.toNatClampNeg))
    (kk : am_St p l e R s m args below meth c Qz D cA base ad Ls xs n0 s0 (pc + 1) ls r (n, sl, K, va_up I a (upd (I a) i.toNatClampNeg (vp_nar ty x)), L, Q)) : am_St p l e R s m args below meth c Qz D cA base ad Ls xs n0 s0 pc ls (.int x :: .int i :: .ref a :: r) (n, sl, K, I, L, Q) := by
  intro H locs lsC hH hP hS hl
  have ha30 : (K a).1 < 30 := by omega
  obtain ⟨hA, hat⟩ := hH.2 a ha30
  have hq := am_at_arr hat ha (by omega)
  have fin : ∀ H1 : Heap, H1[ad a]? = some ((vp_cell (cA t) ((K a).2, .inl (I a))).setSlot i.toNatClampNeg (.int (vp_nar ty x))) → H1.size = H.size → (∀ q : Nat, q ≠ ad a → H1[q]? = H[q]?) → W p l e R s m args below meth c H1 (locs ++ [⟨ad a, i.toNatClampNeg⟩]) (n - n0) (sl - s0) Qz (F0 m (pc + 1) lsC (r.map (am_cv ad))) := by
    intro H1 e1 z oq
    refine kk H1 _ lsC (am_HR_put (h := (n, sl, K, I, L, Q)) hH had rfl rfl ha30 (fun j hj => am_upn hj) (fun j hj => rfl) (fun j hj => rfl) (am_arr_at (t := t) ha (by omega) ?_) z oq) (am_HP_put (h := (n, sl, K, I, L, Q)) hP rfl ha30 (fun j hj => am_upn hj)) (am_S_put (h := (n, sl, K, I, L, Q)) hS had hA z oq) hl
    have e8 : am_con ad t (va_up I a (upd (I a) i.toNatClampNeg (vp_nar ty x)) a) (L a) (Q a) = .inl (upd (I a) i.toNatClampNeg (vp_nar ty x)) := by
      unfold am_con
      rw [if_neg (by omega), if_pos (by omega), am_ups]
    show H1[ad a]? = some (vp_cell (cA t) ((K a).2, am_con ad t (va_up I a (upd (I a) i.toNatClampNeg (vp_nar ty x)) a) (L a) (Q a)))
    rw [e8, e1, ← am_store]
  rcases ht with ⟨rfl, rfl⟩ | ⟨rfl, rfl⟩
  · exact W.bast hx hb hq ((hK.2.1 22 (by omega) (by omega)).1 (K a).2 (fun j => .int (I a j))) (fun q => by cases q) (by show ¬ (i < 0 ∨ (arrV _ _ _).slots.size ≤ _); rw [arrV_size]; exact hin) rfl rfl hdg fun H1 e1 z oq => fin H1 e1 z oq
  · exact W.zast hx hb hq ((hK.2.1 23 (by omega) (by omega)).1 (K a).2 (fun j => .int (I a j))) (fun q => by cases q) (by show ¬ (i < 0 ∨ (arrV _ _ _).slots.size ≤ _); rw [arrV_size]; exact hin) rfl rfl hdg fun H1 e1 z oq => fin H1 e1 z oq
theorem am_s_las {i : Int32} {x : Int64} (hx : p.tables.exec = Jvm.exec) (hb : c.code = cc) (hK : am_K D cA s) (had : ∀ j : Nat, am_rn j < n → ad j = base + am_rn j) (hdg : decode cc pc = .ok (.lastore, 1)) (ha : (K a).1 = 21) (hin : ¬ (i < 0 ∨ (K a).2 ≤ i.toNatClampNeg))
    (kk : am_St p l e R s m args below meth c Qz D cA base ad Ls xs n0 s0 (pc + 1) ls r (n, sl, K, I, va_up L a (vp_updL (L a) i.toNatClampNeg x), Q)) : am_St p l e R s m args below meth c Qz D cA base ad Ls xs n0 s0 pc ls (.long x :: .int i :: .ref a :: r) (n, sl, K, I, L, Q) := by
  intro H locs lsC hH hP hS hl
  have ha30 : (K a).1 < 30 := by omega
  obtain ⟨hA, hat⟩ := hH.2 a ha30
  have hq := am_at_arr hat ha (by omega)
  refine W.last hx hb hq ((hK.2.1 21 (by omega) (by omega)).1 (K a).2 (fun j => .long (L a j))) (fun q => by cases q) (by show ¬ (i < 0 ∨ (arrV _ _ _).slots.size ≤ _); rw [arrV_size]; exact hin) rfl rfl hdg fun H1 e1 z oq => ?_
  refine kk H1 _ lsC (am_HR_put (h := (n, sl, K, I, L, Q)) hH had rfl rfl ha30 (fun j hj => rfl) (fun j hj => am_upn hj) (fun j hj => rfl) (am_arr_at (t := 21) ha (by omega) ?_) z oq) (am_HP_put (h := (n, sl, K, I, L, Q)) hP rfl ha30 (fun j hj => rfl)) (am_S_put (h := (n, sl, K, I, L, Q)) hS had hA z oq) hl
  show H1[ad a]? = some (vp_cell (cA 21) ((K a).2, .inr (.inl (va_up L a (vp_updL (L a) i.toNatClampNeg x) a))))
  rw [am_ups, e1, ← am_storeL]
  rfl
theorem am_s_aas {i : Int32} {x : Nat} (hx : p.tables.exec = Jvm.exec) (hb : c.code = cc) (hK : am_K D cA s) (had : ∀ j : Nat, am_rn j < n → ad j = base + am_rn j) (hdg : decode cc pc = .ok (.aastore, 1)) (ha : (K a).1 = 24) (hx0 : (K x).1 = 0) (hin : ¬ (i < 0 ∨ (K a).2 ≤ i.toNatClampNeg))
    (kk : am_St p l e R s m args below meth c Qz D cA base ad Ls xs n0 s0 (pc + 1) ls r (n, sl, K, I, L, va_up Q a (va_up (Q a) i.toNatClampNeg (some x)))) : am_St p l e R s m args below meth c Qz D cA base ad Ls xs n0 s0 pc ls (.ref x :: .int i :: .ref a :: r) (n, sl, K, I, L, Q) := by
  intro H locs lsC hH hP hS hl
  have ha30 : (K a).1 < 30 := by omega
  obtain ⟨hA, hat⟩ := hH.2 a ha30
  have hq := am_at_arr hat ha (by omega)
  have hx30 : (K x).1 < 30 := by omega
  obtain ⟨hXA, hxat⟩ := hH.2 x hx30
  obtain ⟨cellV, g1, g2, g3, -⟩ := am_at_obj (ci := 0) hxat hx0 (by omega)
  have hlt : i.toNatClampNeg < (K a).2 := Nat.not_le.mp fun q => hin (Or.inr q)
  have h0 : ¬ i < 0 := fun q => hin (Or.inl q)
  have hcls := (hK.1.1 0 _ (am_clsx 0 (by omega))).2
  obtain ⟨kA, comp, k1, k2, k3, -⟩ := (hK.2.1 24 (by omega) (by omega)).2
  have hcomp : comp = D.1 0 := Option.some.inj (k3.symm.trans hcls.1)
  subst hcomp
  obtain ⟨kC, hkC, -⟩ := hcls.2
  refine W.aast hx hb hq (fun q h => by cases h) (fun h => by cases h) k1 k2 rfl hkC ⟨h0, by show _ < (arrV _ _ _).slots.size; rw [arrV_size]; exact hlt⟩ g1 (fun q h => by rw [g3] at h; cases h) (by rw [g2]; exact hkC) (by rw [g2]; exact va_assign hcls) rfl rfl hdg fun H1 e1 z oq => ?_
  refine kk H1 _ lsC (am_HR_put (h := (n, sl, K, I, L, Q)) hH had rfl rfl ha30 (fun j hj => rfl) (fun j hj => rfl) (fun j hj => am_upn hj) (am_arr_at (t := 24) ha (by omega) ?_) z oq) (am_HP_put (h := (n, sl, K, I, L, Q)) hP rfl ha30 (fun j hj => rfl)) (am_S_put (h := (n, sl, K, I, L, Q)) hS had hA z oq) hl
  show H1[ad a]? = some (vp_cell (cA 24) ((K a).2, .inr (.inr (.inr (.inr (fun k => ((va_up Q a (va_up (Q a) i.toNatClampNeg (some x)) a) k).map ad))))))
  rw [am_ups, e1]
  show some (Cell.setSlot (vp_cell (cA 24) ((K a).2, .inr (.inr (.inr (.inr (fun k => (Q a k).map ad)))))) _ _) = _
  rw [vp_cell_q, vp_cell_q, arrV_store]
  congr 2
  funext q
  by_cases hq : q = i.toNatClampNeg
  · subst hq
    simp [updV, va_up, va_rf]
  · simp [updV, va_up, hq]
theorem am_s_len {b : Nat} {h : am_H} (hx : p.tables.exec = Jvm.exec) (hb : c.code = cc) (hK : am_K D cA s) (hX : va_X b Ls xs s s.heap) (hbl : b < base) (hsz : b < s.heap.size) (hab : ad am_B = b) (hdg : decode cc pc = .ok (.arraylength, 1)) (h30 : (20 ≤ (h.2.2.1 a).1 ∧ (h.2.2.1 a).1 ≤ 26) ∨ (h.2.2.1 a).1 = 30)
    (kk : am_St p l e R s m args below meth c Qz D cA base ad Ls xs n0 s0 (pc + 1) ls (.int (Int32.ofNat (h.2.2.1 a).2) :: r) h) : am_St p l e R s m args below meth c Qz D cA base ad Ls xs n0 s0 pc ls (.ref a :: r) h := by
  intro H locs lsC hH hP hS hl
  have k2 := kk H locs lsC hH hP hS hl
  rcases h30 with ⟨h20, h30⟩ | h30
  · obtain ⟨hA, hat⟩ := hH.2 a (by omega)
    have hq := am_at_arr hat rfl (by omega)
    exact va_alen hx hb (am_K1 hK h20 h30) (am_one (x := (ad a, .inl (cA (h.2.2.1 a).1, ((h.2.2.1 a).2, am_con ad (h.2.2.1 a).1 (h.2.2.2.1 a) (h.2.2.2.2.1 a) (h.2.2.2.2.2 a))))) hq) 0 0 rfl rfl rfl hdg k2
  · obtain ⟨e1, e2, e3⟩ := hP.1 a h30
    rw [e2] at k2
    show W p l e R s m args below meth c H locs (h.1 - n0) (h.2.1 - s0) Qz (F0 m pc lsC (.ref (ad a) :: r.map (am_cv ad)))
    rw [e1, hab]
    exact va_slen hx hb hX hsz (Nat.not_le.mpr hbl) hS hdg k2
theorem am_S_new {H H1 : Heap} {locs : List Loc} (hS : va_S (fun q => base ≤ q) s.heap H locs) (z : H.size ≤ H1.size) (o : ∀ q : Nat, q < H.size → H1[q]? = H[q]?) : va_S (fun q => base ≤ q) s.heap H1 locs :=
  ⟨Nat.le_trans hS.1 z, fun x h1 h2 => (o x (Nat.lt_of_lt_of_le h1 hS.1)).trans (hS.2.1 x h1 h2), hS.2.2⟩
def am_df (t k : Nat) : Value := match am_kd t k with
  | 1 => .long 0
  | 2 => .null
  | _ => .int 0
theorem am_dfs : ∀ ci : Nat, ci < 12 → ∀ k, k < am_NF ci → defaultValue (am_tf ci k) = am_df ci k := by decide +kernel
theorem am_s_new {h : am_H} (hx : p.tables.exec = Jvm.exec) (hb : c.code = cc) (hown : s.vm.findClass own = some m.cls) (hts : ∀ w ∈ am_W, w.before args s = true) (hK : am_K D cA s) (hci : ci < 12) (had : ∀ j : Nat, am_rn j < h.1 + 1 → ad j = base + am_rn j)
    (w1 : (Cond.classLink own ix (am_RX ci)).before args s = true) (w2 : (Cond.instantiable (am_RX ci) (am_NF ci)).before args s = true) (w3 : (Cond.initialized (am_RX ci)).before args s = true) (hn0 : n0 ≤ h.1) (hs0 : s0 ≤ h.2.1) (hrc : h.1 + 1 - n0 ≤ R.cells) (hrs : h.2.1 + am_NF ci - s0 ≤ R.slots) (hdg : decode cc pc = .ok (.new ix, 3))
    (kk : am_St p l e R s m args below meth c Qz D cA base ad Ls xs n0 s0 (pc + 3) ls (.ref (am_nr h.1) :: st) (am_al ci 0 (am_NF ci) h)) : am_St p l e R s m args below meth c Qz D cA base ad Ls xs n0 s0 pc ls st h := by
  intro H locs lsC hH hP hS hl
  have hc := am_clsx ci hci
  have hKn := hK.1.1 ci _ hc
  refine W.newcK hx hb hown w1 w2 w3 rfl hdg (by omega) (by omega) hKn.2.1 rfl fun H1 kC hkC e1 z1 o1 => ?_
  obtain ⟨n, sl, K, I, L, Q⟩ := h
  have ea : ad (am_nr n) = H.size := by rw [had (am_nr n) (by rw [am_rn_nr]; exact Nat.lt_succ_self _), am_rn_nr, hH.1]
  have k2 := kk H1 locs lsC (am_HR_new hH had z1 o1 (am_ob_at (ci := ci) (by show (va_up K (am_nr n) (ci, 0) (am_nr n)).1 = ci; rw [am_ups]) hci ?_)) (am_HP_new hP (by omega)) (am_S_new hS (by omega) o1) hl
  · have e2 : n - n0 + 1 = n + 1 - n0 := Nat.succ_sub_one n ▸ by have h9 : n0 ≤ n := hn0; omega
    have e3 : sl - s0 + am_NF ci = sl + am_NF ci - s0 := by have h9 : s0 ≤ sl := hs0; omega
    show W p l e R s m args below meth c H1 locs (n - n0 + 1) (sl - s0 + am_NF ci) Qz (F0 m (pc + 3) lsC (.ref H.size :: st.map (am_cv ad)))
    rw [e2, e3, ← ea]
    exact k2
  · show t_OB (ad (am_nr n)) _ _ _ H1 _
    rw [ea]
    refine (u_born (am_tf ci) hts (am_uws ci hci) hKn hkC e1 (am_tys ci hci)).to (fun j hj => ?_)
    show defaultValue (am_tf ci j) = am_fv ad (va_up I (am_nr n) (fun _ => 0) (am_nr n)) (va_up L (am_nr n) (fun _ => 0) (am_nr n)) (va_up Q (am_nr n) (fun _ => none) (am_nr n)) (am_kd ci j) j
    rw [am_ups, am_ups, am_ups, am_dfs ci hci j hj]
    unfold am_df am_fv
    generalize am_kd ci j = q
    rcases q with _ | _ | _ | q <;> rfl
theorem am_s_na {h : am_H} {x : Int32} {at' : ArrayType} {t : Nat} (hx : p.tables.exec = Jvm.exec) (hb : c.code = cc) (hK : am_K D cA s) (ht : 20 ≤ t ∧ t ≤ 23) (hty : newarray.typeOf at' = am_ty t) (had : ∀ j : Nat, am_rn j < h.1 + 1 → ad j = base + am_rn j)
    (w1 : (Cond.arrayClass (newarray.typeOf at')).before args s = true) (hn0 : n0 ≤ h.1) (hs0 : s0 ≤ h.2.1) (hrc : h.1 + 1 - n0 ≤ R.cells) (hrs : h.2.1 + x.toNatClampNeg - s0 ≤ R.slots) (hlim : ¬ (x < 0 ∨ 200000 < x.toNatClampNeg)) (hdg : decode cc pc = .ok (.newarray at', 2))
    (kk : am_St p l e R s m args below meth c Qz D cA base ad Ls xs n0 s0 (pc + 2) ls (.ref (am_nr h.1) :: r) (am_al t x.toNatClampNeg x.toNatClampNeg h)) : am_St p l e R s m args below meth c Qz D cA base ad Ls xs n0 s0 pc ls (.int x :: r) h := by
  intro H locs lsC hH hP hS hl
  have hcb : componentBytes (newarray.typeOf at') ≤ 8 := by cases at' <;> decide
  refine va_newaK hx hb w1 rfl hdg rfl (fun q => hlim (Or.inl q)) rfl (Nat.le_trans (Nat.mul_le_mul (Nat.le_of_not_lt fun q => hlim (Or.inr q)) hcb) (by decide)) (by omega) (by omega) rfl fun H1 cB e1 z1 o1 hAr hNm => ?_
  obtain ⟨n, sl, K, I, L, Q⟩ := h
  have ea : ad (am_nr n) = H.size := by rw [had (am_nr n) (by rw [am_rn_nr]; exact Nat.lt_succ_self _), am_rn_nr, hH.1]
  have hcls : cB = cA t := by
    have h9 := (hK.2.1 t ht.1 (by omega)).2
    rw [hty] at hNm
    have ht4 : t = 20 ∨ t = 21 ∨ t = 22 ∨ t = 23 := by omega
    rcases ht4 with rfl | rfl | rfl | rfl <;> exact Option.some.inj (hNm.symm.trans h9)
  subst hcls
  have k2 := kk H1 locs lsC (am_HR_new hH had z1 o1 (am_arr_at (t := t) (by show (va_up K (am_nr n) (t, x.toNatClampNeg) (am_nr n)).1 = t; rw [am_ups]) (by omega) ?_)) (am_HP_new hP (by omega)) (am_S_new hS (by omega) o1) hl
  · have e2 : n - n0 + 1 = n + 1 - n0 := by have h9 : n0 ≤ n := hn0; omega
    have e3 : sl - s0 + x.toNatClampNeg = sl + x.toNatClampNeg - s0 := by have h9 : s0 ≤ sl := hs0; omega
    show W p l e R s m args below meth c H1 locs (n - n0 + 1) (sl - s0 + x.toNatClampNeg) Qz (F0 m (pc + 2) lsC (.ref H.size :: r.map (am_cv ad)))
    rw [e2, e3, ← ea]
    exact k2
  · show H1[ad (am_nr n)]? = some (vp_cell (cA t) ((va_up K (am_nr n) (t, x.toNatClampNeg) (am_nr n)).2, am_con ad t (va_up I (am_nr n) (fun _ => 0) (am_nr n)) (va_up L (am_nr n) (fun _ => 0) (am_nr n)) (va_up Q (am_nr n) (fun _ => none) (am_nr n))))
    rw [am_ups, am_ups, am_ups, am_ups, ea, e1, hty]
    have ht4 : t = 20 ∨ t = 21 ∨ t = 22 ∨ t = 23 := by omega
    rcases ht4 with rfl | rfl | rfl | rfl <;> rfl
theorem am_s_naq {h : am_H} {x : Int32} (hx : p.tables.exec = Jvm.exec) (hb : c.code = cc) (hown : s.vm.findClass own = some m.cls) (hts : ∀ w ∈ am_W, w.before args s = true) (hK : am_K D cA s) (had : ∀ j : Nat, am_rn j < h.1 + 1 → ad j = base + am_rn j)
    (w1 : (Cond.classLink own ix RX0).before args s = true) (hn0 : n0 ≤ h.1) (hs0 : s0 ≤ h.2.1) (hrc : h.1 + 1 - n0 ≤ R.cells) (hrs : h.2.1 + x.toNatClampNeg - s0 ≤ R.slots) (hlim : ¬ (x < 0 ∨ 200000 < x.toNatClampNeg)) (hdg : decode cc pc = .ok (.anewarray ix, 3))
    (kk : am_St p l e R s m args below meth c Qz D cA base ad Ls xs n0 s0 (pc + 3) ls (.ref (am_nr h.1) :: r) (am_al 24 x.toNatClampNeg x.toNatClampNeg h)) : am_St p l e R s m args below meth c Qz D cA base ad Ls xs n0 s0 pc ls (.int x :: r) h := by
  intro H locs lsC hH hP hS hl
  refine W.anew hx hb hown w1 (va_AO.use hK.2.2.1) rfl hdg rfl (fun q => hlim (Or.inl q)) (by omega) (by omega) (by omega) fun cB kA comp f1 f2 f3 f4 => ?_
  generalize hH1 : H.push ({ cls := cB, slots := Array.replicate x.toNatClampNeg .null, vm := .none } : Cell) = H1
  have z1 : H1.size = H.size + 1 := by rw [← hH1, Array.size_push]
  have e1 : H1[H.size]? = some (arrV cB x.toNatClampNeg (fun _ => .null)) := by rw [← hH1, Array.getElem?_push_size, ← arrV_new]
  have o1 : ∀ q : Nat, q < H.size → H1[q]? = H[q]? := fun q hq => by rw [← hH1, Array.getElem?_push, if_neg (Nat.ne_of_lt hq)]
  obtain ⟨n, sl, K, I, L, Q⟩ := h
  have ea : ad (am_nr n) = H.size := by rw [had (am_nr n) (by rw [am_rn_nr]; exact Nat.lt_succ_self _), am_rn_nr, hH.1]
  have hcls : cB = cA 24 := by
    obtain ⟨_, _, _, _, _, h9⟩ := (hK.2.1 24 (by omega) (by omega)).2
    exact Option.some.inj (f1.symm.trans h9)
  subst hcls
  have k2 := kk H1 locs lsC (am_HR_new hH had z1 o1 (am_arr_at (t := 24) (by show (va_up K (am_nr n) (24, x.toNatClampNeg) (am_nr n)).1 = 24; rw [am_ups]) (by omega) ?_)) (am_HP_new hP (by omega)) (am_S_new hS (by omega) o1) hl
  · have e2 : n - n0 + 1 = n + 1 - n0 := by have h9 : n0 ≤ n := hn0; omega
    have e3 : sl - s0 + x.toNatClampNeg = sl + x.toNatClampNeg - s0 := by have h9 : s0 ≤ sl := hs0; omega
    show W p l e R s m args below meth c H1 locs (n - n0 + 1) (sl - s0 + x.toNatClampNeg) Qz (F0 m (pc + 3) lsC (.ref H.size :: r.map (am_cv ad)))
    rw [e2, e3, ← ea]
    exact k2
  · show H1[ad (am_nr n)]? = some (vp_cell (cA 24) ((va_up K (am_nr n) (24, x.toNatClampNeg) (am_nr n)).2, am_con ad 24 (va_up I (am_nr n) (fun _ => 0) (am_nr n)) (va_up L (am_nr n) (fun _ => 0) (am_nr n)) (va_up Q (am_nr n) (fun _ => none) (am_nr n))))
    rw [am_ups, am_ups, am_ups, am_ups, ea, e1]
    rfl
end AMU
