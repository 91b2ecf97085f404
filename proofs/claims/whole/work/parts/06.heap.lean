/-! INSTRUCTIONS ON THE HEAP -/
theorem am_at_obj {D : va_G} {cA : Nat → ClassId} {ad : Nat → Nat} {h : am_H} {a ci : Nat} {H : Heap} (hat : am_at D cA ad h a H) (ha : (h.2.2.1 a).1 = ci) (hci : ci < 12) :
    t_OB (ad a) (D.1 ci) (am_NF ci) (D.2 ci) H (fun k => am_fv ad (h.2.2.2.1 a) (h.2.2.2.2.1 a) (h.2.2.2.2.2 a) (am_kd ci k) k) := by
  unfold am_at at hat
  rw [if_pos (by omega), ha] at hat
  exact hat
theorem am_at_arr {D : va_G} {cA : Nat → ClassId} {ad : Nat → Nat} {h : am_H} {a t : Nat} {H : Heap} (hat : am_at D cA ad h a H) (ha : (h.2.2.1 a).1 = t) (ht : 12 ≤ t) :
    H[ad a]? = some (vp_cell (cA t) ((h.2.2.1 a).2, am_con ad t (h.2.2.2.1 a) (h.2.2.2.2.1 a) (h.2.2.2.2.2 a))) := by
  unfold am_at at hat
  rw [if_neg (by omega), ha] at hat
  exact hat
theorem am_ob_at {D : va_G} {cA : Nat → ClassId} {ad : Nat → Nat} {h : am_H} {a ci : Nat} {H : Heap} (ha : (h.2.2.1 a).1 = ci) (hci : ci < 12)
    (hat : t_OB (ad a) (D.1 ci) (am_NF ci) (D.2 ci) H (fun k => am_fv ad (h.2.2.2.1 a) (h.2.2.2.2.1 a) (h.2.2.2.2.2 a) (am_kd ci k) k)) : am_at D cA ad h a H := by
  unfold am_at
  rw [if_pos (by omega), ha]
  exact hat
theorem am_arr_at {D : va_G} {cA : Nat → ClassId} {ad : Nat → Nat} {h : am_H} {a t : Nat} {H : Heap} (ha : (h.2.2.1 a).1 = t) (ht : 12 ≤ t)
    (hat : H[ad a]? = some (vp_cell (cA t) ((h.2.2.1 a).2, am_con ad t (h.2.2.2.1 a) (h.2.2.2.2.1 a) (h.2.2.2.2.2 a)))) : am_at D cA ad h a H := by
  unfold am_at
  rw [if_neg (by omega), ha]
  exact hat
section AMT
variable {p : Program} {l : Launch} {e : Env} {R : Room} {s : State} {m : MethodId} {args : Array Value} {below : List Frame} {meth : Method} {c : Code} {Qz : State → Prop}
variable {D : va_G} {cA : Nat → ClassId} {base Ls : Nat} {ad : Nat → Nat} {xs : Nat → Int32} {n0 s0 : Nat}
variable {pc pc' : Nat} {ls ls' : am_L} {st st' r : List Value} {h h' : am_H} {cc : ByteArray} {own : String} {ix ci k kd a : Nat}
theorem am_s_gf (hx : p.tables.exec = Jvm.exec) (hb : c.code = cc) (hown : s.vm.findClass own = some m.cls) (hts : ∀ w ∈ am_W, w.before args s = true) (hK : am_K D cA s) (hci : ci < 12) (hk : k < am_NF ci) (hkd : am_kd ci k = kd)
    (hlink : (Cond.fieldLink own ix (am_TX ci k).1 (am_TX ci k).2.1 (am_TX ci k).2.2.1).before args s = true ∨ (Cond.fieldLinkNest own ix (am_TX ci k).1 (am_TX ci k).2.1 (am_TX ci k).2.2.1 RX10).before args s = true)
    (hdg : decode cc pc = .ok (.getfield ix, 3)) (ha : (h.2.2.1 a).1 = ci)
    (kk : am_St p l e R s m args below meth c Qz D cA base ad Ls xs n0 s0 (pc + 3) ls (am_get kd a k h :: r) h) : am_St p l e R s m args below meth c Qz D cA base ad Ls xs n0 s0 pc ls (.ref a :: r) h := by
  intro H locs lsC hH hP hS hl
  have hc := am_clsx ci hci
  obtain ⟨hA, hat⟩ := hH.2 a (by omega)
  obtain ⟨cell, q1, q2, q3, q4⟩ := am_at_obj hat ha hci
  obtain ⟨hSl, hfc, kC, hkC, hkind⟩ := hK.1.1 ci _ hc
  obtain ⟨cf, kf, fi, f, hi, hsl⟩ := hSl k hk
  have hv : cell.slots[f.slot]? = some (am_cv ad (am_get kd a k h)) := by
    rw [hsl, q4 k hk, am_cv_get, ← hkd]
  rcases hlink with hlink | hlink
  · exact W.getf hx hb hown hlink hi (u_facts hfc hkC (u_lays hts (am_uws ci hci) hk) hi).1 q1 (by rw [q3]; exact fun h => by cases h) hv rfl rfl hdg (kk H locs lsC hH hP hS hl)
  · exact va_Wgetf hx hb hown hlink hi (u_facts hfc hkC (u_lays hts (am_uws ci hci) hk) hi).1 q1 (by rw [q3]; exact fun h => by cases h) hv rfl rfl hdg (kk H locs lsC hH hP hS hl)
theorem am_S_put {H H1 : Heap} {locs : List Loc} {j : Nat} (hS : va_S (fun q => base ≤ q) s.heap H locs) (had : ∀ j : Nat, am_rn j < h.1 → ad j = base + am_rn j) (hA : am_rn a < h.1) (z : H1.size = H.size) (oq : ∀ q : Nat, q ≠ ad a → H1[q]? = H[q]?) : va_S (fun q => base ≤ q) s.heap H1 (locs ++ [⟨ad a, j⟩]) :=
  hS.put z oq (by rw [had a hA]; exact Nat.le_add_right _ _)
theorem am_s_pf {x : Value} (hx : p.tables.exec = Jvm.exec) (hb : c.code = cc) (hown : s.vm.findClass own = some m.cls) (hts : ∀ w ∈ am_W, w.before args s = true) (hK : am_K D cA s) (hci : ci < 12) (hk : k < am_NF ci) (hkd : am_kd ci k = kd) (had : ∀ j : Nat, am_rn j < h.1 → ad j = base + am_rn j)
    (hlink : ((Cond.fieldLink own ix (am_TX ci k).1 (am_TX ci k).2.1 (am_TX ci k).2.2.1).before args s = true ∧ (am_TX ci k).2.2.2 = false) ∨ ((Cond.fieldLink own ix (am_TX ci k).1 (am_TX ci k).2.1 (am_TX ci k).2.2.1).before args s = true ∧ (am_TX ci k).2.2.2 = true ∧ meth.name = "<init>" ∧ (am_TX ci k).1 = own) ∨ ((Cond.fieldLinkNest own ix (am_TX ci k).1 (am_TX ci k).2.1 (am_TX ci k).2.2.1 RX10).before args s = true ∧ (am_TX ci k).2.2.2 = false))
    (hdg : decode cc pc = .ok (.putfield ix, 3)) (ha : (h.2.2.1 a).1 = ci) (hp : am_put kd a k x h = some h')
    (kk : am_St p l e R s m args below meth c Qz D cA base ad Ls xs n0 s0 (pc + 3) ls r h') : am_St p l e R s m args below meth c Qz D cA base ad Ls xs n0 s0 pc ls (x :: .ref a :: r) h := by
  intro H locs lsC hH hP hS hl
  have hc := am_clsx ci hci
  obtain ⟨hA, hat⟩ := hH.2 a (by omega)
  obtain ⟨cell, q1, q2, q3, q4⟩ := am_at_obj hat ha hci
  have hap := va_apart (own := own) hts (am_uws ci hci) (am_tf ci) (am_tys ci hci) (am_nms ci hci) hK.1 hc
  obtain ⟨hSl, hfc, kC, hkC, hkind⟩ := hK.1.1 ci _ hc
  obtain ⟨cf, kf, fi, f, hi, hsl⟩ := hSl k hk
  have hst := (u_facts hfc hkC (u_lays hts (am_uws ci hci) hk) hi).1
  obtain ⟨p1, p2, p3, p4, p5, p6⟩ := am_put_spec (ad := ad) hp hkd
  obtain ⟨hnar, hfit⟩ := p6 (am_tf ci k) (by rw [← hkd]; exact am_kts ci hci k hk)
  have hd := am_tys ci hci k hk
  have fin : ∀ (H' : Heap) (locs' : List Loc), H'[ad a]? = some (cell.setSlot f.slot (am_cv ad x)) → H'.size = H.size → (∀ q : Nat, q ≠ ad a → H'[q]? = H[q]?) → locs' = locs ++ [⟨ad a, f.slot⟩] → W p l e R s m args below meth c H' locs' (h.1 - n0) (h.2.1 - s0) Qz (F0 m (pc + 3) lsC (r.map (am_cv ad))) := by
    intro H' locs' e1 e2 e3 el
    subst el
    rw [← p1, ← p2]
    refine kk H' _ lsC (am_HR_put hH had p1 p3 (a := a) (by omega) (fun j hj => (p4 j hj).1) (fun j hj => (p4 j hj).2.1) (fun j hj => (p4 j hj).2.2) (am_ob_at (ci := ci) (by rw [p3]; exact ha) hci ?_) e2 e3) (am_HP_put hP p3 (a := a) (by omega) (fun j hj => (p4 j hj).1)) (am_S_put hS had hA e2 e3) hl
    rw [hsl] at e1
    exact t_OB.to ⟨_, e1, q2, q3, t_set q4 hap hk (am_cv ad x)⟩ (fun j _ => (p5 j).symm)
  have hlt : f.slot < cell.slots.size := by rw [hsl]; exact k2_hasslot (q4 k hk)
  have hlay := hts _ (am_uws ci hci _ (u_in_lay hk))
  unfold u_lay at hlay
  rcases hlink with ⟨hlink, hfin⟩ | ⟨hlink, hfin, hin2, hdecl⟩ | ⟨hlink, hfin⟩
  · rw [if_neg (by rw [hfin]; decide)] at hlay
    have h6 := u_store hfc hkC hkind hlay hi hd hnar hfit
    exact W.putK hx hb (f := f) ⟨hown, hlink, ⟨_, _, _, hi⟩, hst⟩ (by rw [q2]; exact h6) q1 q3 hlt rfl rfl hdg fun H' e1 e2 e3 => fin H' _ e1 e2 e3 rfl
  · rw [if_pos hfin] at hlay
    have hcf : m.cls = cf := by
      obtain ⟨_, _, c', _, _, _, -, -, hf', -, -, -, hown2, -⟩ := Cond.laysFinal_spec hlay
      have e1 : c' = cf := by have := hi.symm.trans hf'; simp at this; exact this.1.symm
      rw [hdecl] at hown2
      rw [← e1]; exact Option.some.inj (hown.symm.trans hown2)
    have h6 := u_fits hfc hkC hkind (Or.inr hlay) hi hd hnar hfit
    exact W.putFinK hx hb hown hlink hi hst hcf hin2 (by rw [q2]; exact h6) q1 q3 hlt rfl rfl hdg fun H' e1 e2 e3 => fin H' _ e1 e2 e3 rfl
  · rw [if_neg (by rw [hfin]; decide)] at hlay
    have h6 := u_store hfc hkC hkind hlay hi hd hnar hfit
    exact va_WputK hx hb (f := f) hown hlink hi hst (by rw [q2]; exact h6) q1 q3 hlt rfl rfl hdg fun H' e1 e2 e3 => fin H' _ e1 e2 e3 rfl
theorem am_one {x : Nat × va_E} {H : Heap} (hx : va_at D am_classes x H) : va_P D am_classes [x] H := by
  intro k9 q hq
  have hz : k9 < 1 := (List.getElem?_eq_some_iff.mp hq).1
  rw [show k9 = 0 by omega] at hq
  cases hq
  exact hx
theorem am_K1 (hK : am_K D cA s) {t : Nat} (h1 : 20 ≤ t) (h2 : t ≤ 26) : va_K D am_classes [(cA t, am_ty t)] s := by
  refine ⟨hK.1.1, fun k9 q hq => ?_⟩
  have hz : k9 < 1 := (List.getElem?_eq_some_iff.mp hq).1
  rw [show k9 = 0 by omega] at hq
  cases hq
  exact hK.2.1 t h1 h2
theorem am_s_ial (hx : p.tables.exec = Jvm.exec) (hb : c.code = cc) (hK : am_K D cA s) {i : Int32} (hdg : decode cc pc = .ok (.iaload, 1)) (ha : (h.2.2.1 a).1 = 20) (hin : ¬ (i < 0 ∨ (h.2.2.1 a).2 ≤ i.toNatClampNeg))
    (kk : am_St p l e R s m args below meth c Qz D cA base ad Ls xs n0 s0 (pc + 1) ls (.int (h.2.2.2.1 a i.toNatClampNeg) :: r) h) : am_St p l e R s m args below meth c Qz D cA base ad Ls xs n0 s0 pc ls (.int i :: .ref a :: r) h := by
  intro H locs lsC hH hP hS hl
  obtain ⟨hA, hat⟩ := hH.2 a (by omega)
  have hq := am_at_arr hat ha (by omega)
  exact va_iald hx hb (am_K1 hK (t := 20) (by omega) (by omega)) (am_one (x := (ad a, .inl (cA 20, (h.2.2.1 a).2, .inl (h.2.2.2.1 a)))) hq) 0 0 rfl rfl hin hdg (kk H locs lsC hH hP hS hl)
theorem am_s_ialX {b : Nat} (hx : p.tables.exec = Jvm.exec) (hb : c.code = cc) (hX : va_X b Ls xs s s.heap) (hbl : b < base) (hsz : b < s.heap.size) (hab : ad am_B = b) {i : Int32} (hdg : decode cc pc = .ok (.iaload, 1)) (ha : (h.2.2.1 a).1 = 30) (hin : ¬ (i < 0 ∨ (h.2.2.1 a).2 ≤ i.toNatClampNeg))
    (kk : am_St p l e R s m args below meth c Qz D cA base ad Ls xs n0 s0 (pc + 1) ls (.int (h.2.2.2.1 a i.toNatClampNeg) :: r) h) : am_St p l e R s m args below meth c Qz D cA base ad Ls xs n0 s0 pc ls (.int i :: .ref a :: r) h := by
  intro H locs lsC hH hP hS hl
  obtain ⟨e1, e2, e3⟩ := hP.1 a ha
  have k2 := kk H locs lsC hH hP hS hl
  rw [e2] at hin
  rw [e3] at k2
  show W p l e R s m args below meth c H locs (h.1 - n0) (h.2.1 - s0) Qz (F0 m pc lsC (.int i :: .ref (ad a) :: r.map (am_cv ad)))
  rw [e1, hab]
  exact va_sld hx hb hX hsz (Nat.not_le.mpr hbl) hS hin hdg k2
theorem am_s_bal (hx : p.tables.exec = Jvm.exec) (hb : c.code = cc) (hK : am_K D cA s) {i : Int32} (hdg : decode cc pc = .ok (.baload, 1)) (ha : (h.2.2.1 a).1 = 22 ∨ (h.2.2.1 a).1 = 23) (hin : ¬ (i < 0 ∨ (h.2.2.1 a).2 ≤ i.toNatClampNeg))
    (kk : am_St p l e R s m args below meth c Qz D cA base ad Ls xs n0 s0 (pc + 1) ls (.int (h.2.2.2.1 a i.toNatClampNeg) :: r) h) : am_St p l e R s m args below meth c Qz D cA base ad Ls xs n0 s0 pc ls (.int i :: .ref a :: r) h := by
  intro H locs lsC hH hP hS hl
  obtain ⟨hA, hat⟩ := hH.2 a (by omega)
  rcases ha with ha | ha
  · have hq := am_at_arr hat ha (by omega)
    exact va_bald hx hb (am_K1 hK (t := 22) (by omega) (by omega)) (am_one (x := (ad a, .inl (cA 22, (h.2.2.1 a).2, .inl (h.2.2.2.1 a)))) hq) 0 0 rfl rfl hin hdg (kk H locs lsC hH hP hS hl)
  · have hq := am_at_arr hat ha (by omega)
    exact va_zald hx hb (am_K1 hK (t := 23) (by omega) (by omega)) (am_one (x := (ad a, .inl (cA 23, (h.2.2.1 a).2, .inl (h.2.2.2.1 a)))) hq) 0 0 rfl rfl hin hdg (kk H locs lsC hH hP hS hl)
theorem am_s_lal (hx : p.tables.exec = Jvm.exec) (hb : c.code = cc) (hK : am_K D cA s) {i : Int32} (hdg : decode cc pc = .ok (.laload, 1)) (ha : (h.2.2.1 a).1 = 21) (hin : ¬ (i < 0 ∨ (h.2.2.1 a).2 ≤ i.toNatClampNeg))
    (kk : am_St p l e R s m args below meth c Qz D cA base ad Ls xs n0 s0 (pc + 1) ls (.long (h.2.2.2.2.1 a i.toNatClampNeg) :: r) h) : am_St p l e R s m args below meth c Qz D cA base ad Ls xs n0 s0 pc ls (.int i :: .ref a :: r) h := by
  intro H locs lsC hH hP hS hl
  obtain ⟨hA, hat⟩ := hH.2 a (by omega)
  have hq := am_at_arr hat ha (by omega)
  exact va_lald hx hb (am_K1 hK (t := 21) (by omega) (by omega)) (am_one (x := (ad a, .inl (cA 21, (h.2.2.1 a).2, .inr (.inl (h.2.2.2.2.1 a))))) hq) 0 0 rfl rfl hin hdg (kk H locs lsC hH hP hS hl)
theorem am_s_aal (hx : p.tables.exec = Jvm.exec) (hb : c.code = cc) (hK : am_K D cA s) {i : Int32} (hdg : decode cc pc = .ok (.aaload, 1)) (ha : (h.2.2.1 a).1 = 24 ∨ (h.2.2.1 a).1 = 25 ∨ (h.2.2.1 a).1 = 26) (hin : ¬ (i < 0 ∨ (h.2.2.1 a).2 ≤ i.toNatClampNeg))
    (kk : am_St p l e R s m args below meth c Qz D cA base ad Ls xs n0 s0 (pc + 1) ls (va_rf (h.2.2.2.2.2 a i.toNatClampNeg) :: r) h) : am_St p l e R s m args below meth c Qz D cA base ad Ls xs n0 s0 pc ls (.int i :: .ref a :: r) h := by
  intro H locs lsC hH hP hS hl
  obtain ⟨hA, hat⟩ := hH.2 a (by omega)
  have k2 := kk H locs lsC hH hP hS hl
  have e9 : (va_rf (h.2.2.2.2.2 a i.toNatClampNeg) :: r).map (am_cv ad) = va_rf ((h.2.2.2.2.2 a i.toNatClampNeg).map ad) :: r.map (am_cv ad) := by
    rw [List.map_cons, am_cv_rf]
  rw [e9] at k2
  have hlt : i.toNatClampNeg < (h.2.2.1 a).2 := Nat.not_le.mp fun q => hin (Or.inr q)
  have h0 : ¬ i < 0 := fun q => hin (Or.inl q)
  have key : ∀ t : Nat, (h.2.2.1 a).1 = t → 24 ≤ t → t ≤ 26 → (am_ty t).isReference = true → W p l e R s m args below meth c H locs (h.1 - n0) (h.2.1 - s0) Qz (F0 m pc lsC (.int i :: .ref (ad a) :: r.map (am_cv ad))) := by
    intro t ha h24 h26 hr
    have hq := am_at_arr hat ha (by omega)
    have e8 : am_con ad t (h.2.2.2.1 a) (h.2.2.2.2.1 a) (h.2.2.2.2.2 a) = .inr (.inr (.inr (.inr (fun k => (h.2.2.2.2.2 a k).map ad)))) := by
      unfold am_con
      rw [if_neg (by omega), if_neg (by omega)]
    rw [e8] at hq
    exact W.aald (v := va_rf ((h.2.2.2.2.2 a i.toNatClampNeg).map ad)) (ty := am_ty t) hx hb hq ((hK.2.1 t (by omega) h26).1 (h.2.2.1 a).2 (fun j => va_rf ((h.2.2.2.2.2 a j).map ad))) hr (fun q => by cases q) (by show ¬ (i < 0 ∨ (arrV _ _ _).slots.size ≤ _); rw [arrV_size]; exact hin) (by show (arrV _ _ _).slots[_]? = _; rw [arrV_read _ _ hlt]) rfl rfl hdg k2
  rcases ha with ha | ha | ha
  · exact key 24 ha (by omega) (by omega) rfl
  · exact key 25 ha (by omega) (by omega) rfl
  · exact key 26 ha (by omega) (by omega) rfl
end AMT
