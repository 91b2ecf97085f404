/-! NEW GRIDS (over the whole library) -/
theorem am_AO_moved {t : FieldType} {u U : State} (hvm : u.vm.Alike U.vm) (h : (Cond.arrayOver (.array t)).before #[] u = true) : (Cond.arrayOver (.array t)).before #[] U = true := by
  obtain ⟨comp, c, k, h1, h2, h3, h4, h5⟩ := arrayOver_specB h
  obtain ⟨k', hk', he⟩ := hvm.2.2 _ _ h3
  have hi : (U.vm.classes.findIdx? fun (x : Class) => match x.kind with | .array component _ => component == comp | _ => false) = some c := by
    refine (va_idx_bare U.vm comp).symm.trans ?_
    refine Eq.trans ?_ ((va_idx_bare u.vm comp).trans h2)
    first | rw [hvm.bare_eq] | rw [← hvm.bare_eq]
  have hkind : k'.kind = .array comp (.array t) := by rw [he]; exact h4
  have f1 : U.vm.findClass (FieldType.array t).toString = some comp := by rw [hvm.findClass]; exact h1
  have f2 : U.vm.findClass ("[" ++ (FieldType.array t).toString) = some c := by rw [hvm.findClass]; exact h5
  unfold Cond.before Cond.holds
  simp only [Cond.value]
  rw [f1, Option.bind_some]
  refine (congrArg (fun o : Option Nat => (o.bind (fun c => (U.vm.classes[c]?).map fun (k : Class) => match k.kind with | .array _ ty => decide (ty = FieldType.array t) && decide (U.vm.findClass ("[" ++ (FieldType.array t).toString) = some c) | _ => false) == some true)) hi).trans ?_
  simp [hk', hkind, f2]
theorem am_outer (c : ClassId) (N h0 : Nat) : ∀ i : Nat, Jvm.Free.Multi.outerC c N h0 i = arrV c N (fun j => va_rf (if j < i then some (h0 + 1 + j) else none))
  | 0 => by
    show ({ cls := c, slots := Array.replicate N .null, vm := .none } : Cell) = _
    refine (arrV_new c N .null).trans (congrArg (arrV c N) (funext fun j => ?_))
    simp [va_rf]
  | i + 1 => by
    show (Jvm.Free.Multi.outerC c N h0 i).setSlot i (.ref (h0 + 1 + i)) = _
    rw [am_outer c N h0 i, arrV_store]
    refine congrArg (arrV c N) (funext fun j => ?_)
    by_cases e : j = i
    · subst e
      simp [updV, va_rf]
    · by_cases h : j < i
      · simp [updV, e, h, Nat.lt_succ_of_lt h]
      · simp [updV, e, h, show ¬ j < i + 1 by omega]
section AMM
variable {p : Program} {l : Launch} {e : Env} {R : Room} {s : State} {m : MethodId} {args : Array Value} {below : List Frame} {meth : Method} {c : Code} {Qz : State → Prop}
variable {D : va_G} {cA : Nat → ClassId} {base Ls : Nat} {ad : Nat → Nat} {xs : Nat → Int32} {n0 s0 : Nat}
variable {pc : Nat} {ls : am_L} {r : List Value} {h : am_H} {cc : ByteArray} {own : String} {ix : Nat}
theorem am_s_mna {t : Nat} {ty : FieldType} {x y : Int32} (hx : p.tables.exec = Jvm.exec) (hb : c.code = cc) (hown : s.vm.findClass own = some m.cls) (hts : ∀ w ∈ am_W, w.before args s = true) (hK : am_K D cA s) (ht : (t = 25 ∧ ty = .int) ∨ (t = 26 ∧ ty = .long)) (had : ∀ j : Nat, am_rn j < h.1 + (1 + x.toNatClampNeg) → ad j = base + am_rn j)
    (w1 : (Cond.classLink own ix ("[" ++ (FieldType.array ty).toString)).before args s = true) (hn0 : n0 ≤ h.1) (hs0 : s0 ≤ h.2.1) (hrc : h.1 + (1 + x.toNatClampNeg) - n0 ≤ R.cells) (hrs : h.2.1 + (x.toNatClampNeg + x.toNatClampNeg * y.toNatClampNeg) - s0 ≤ R.slots) (hlim : ¬ (x < 0 ∨ 1000 < x.toNatClampNeg ∨ y < 0 ∨ 1000 < y.toNatClampNeg ∨ 58 < h.1 + x.toNatClampNeg)) (hdg : decode cc pc = .ok (.multianewarray ix 2, 4))
    (kk : am_St p l e R s m args below meth c Qz D cA base ad Ls xs n0 s0 (pc + 4) ls (.ref h.1 :: r) (am_mal t x.toNatClampNeg y.toNatClampNeg h)) : am_St p l e R s m args below meth c Qz D cA base ad Ls xs n0 s0 pc ls (.int y :: .int x :: r) h := by
  intro H locs lsC hH hP hS hl T hT X
  have hao : (Cond.arrayOver (.array ty)).before args s = true := by
    rcases ht with ⟨-, rfl⟩ | ⟨-, rfl⟩
    · exact hK.2.2.2.1
    · exact hK.2.2.2.2
  have hac : (Cond.arrayClass ty).before args s = true := by
    rcases ht with ⟨-, rfl⟩ | ⟨-, rfl⟩
    · exact hts _ am_wo6
    · exact hts _ am_wo7
  have hcb : componentBytes ty ≤ 8 := by rcases ht with ⟨-, rfl⟩ | ⟨-, rfl⟩ <;> decide
  have hx1 : x.toNatClampNeg ≤ 1000 := Nat.le_of_not_lt fun q => hlim (Or.inr (Or.inl q))
  have hy1 : y.toNatClampNeg ≤ 1000 := Nat.le_of_not_lt fun q => hlim (Or.inr (Or.inr (Or.inr (Or.inl q))))
  obtain ⟨vm₁, cB, comp, -, fA, fC, hO, -, X', step⟩ := X.multianewarray2F hx hown w1 hao hac (g := F0 m pc lsC (.int y :: .int x :: r.map (am_cv ad))) rfl (by rw [hb]; exact hdg) rfl (fun q => hlim (Or.inl q)) (fun q => hlim (Or.inr (Or.inr (Or.inl q)))) (by omega)
    (Nat.le_trans (Nat.mul_le_mul hy1 hcb) (by decide)) (by omega) (by rcases ht with ⟨-, rfl⟩ | ⟨-, rfl⟩ <;> rfl) (by rcases ht with ⟨-, rfl⟩ | ⟨-, rfl⟩ <;> rfl) (by omega) (by omega)
  obtain ⟨n, sl, K, I, L, Q⟩ := h
  generalize hF : Jvm.Free.Multi.fill (T.setVm vm₁) cB comp x.toNatClampNeg y.toNatClampNeg (defaultValue ty) x.toNatClampNeg = F at X' step
  have hTh : (T.setVm vm₁).heap = H := hT
  obtain ⟨f1, f2, -, -⟩ := Jvm.Free.Multi.fill_facts (T.setVm vm₁) cB comp x.toNatClampNeg y.toNatClampNeg (defaultValue ty) x.toNatClampNeg
  rw [hF, hTh] at f1 f2
  have hold : ∀ q : Nat, q < H.size → F.heap[q]? = H[q]? := fun q hq => by
    have := Jvm.Free.Multi.fill_old (T.setVm vm₁) cB comp x.toNatClampNeg y.toNatClampNeg (defaultValue ty) (a := q) (by rw [hTh]; exact hq) x.toNatClampNeg
    rw [hF, hTh] at this
    exact this
  have hrow : ∀ j : Nat, j < x.toNatClampNeg → F.heap[H.size + 1 + j]? = some (arrV comp y.toNatClampNeg (fun _ => defaultValue ty)) := fun j hj => by
    have := Jvm.Free.Multi.fill_inner (T.setVm vm₁) cB comp x.toNatClampNeg y.toNatClampNeg (defaultValue ty) x.toNatClampNeg j hj
    rw [hF, hTh] at this
    rw [this]
    exact congrArg some (show Jvm.Free.Multi.innerC comp y.toNatClampNeg (defaultValue ty) = _ from arrV_new comp _ _)
  rw [am_outer] at f2
  have hsz : H.size = base + n := hH.1
  have h58 : n + x.toNatClampNeg ≤ 58 := Nat.le_of_not_lt fun q => hlim (Or.inr (Or.inr (Or.inr (Or.inr q))))
  have ha : ∀ j : Nat, j < n + (1 + x.toNatClampNeg) → ad j = base + j := fun j hj => by
    have e := am_rn_lo (j := j) (by omega)
    have h9 := had j (by rw [e]; exact hj)
    rwa [e] at h9
  have c1 : cB = cA t ∧ comp = cA (t - 5) := by
    rcases ht with ⟨rfl, rfl⟩ | ⟨rfl, rfl⟩
    · exact ⟨Option.some.inj (fA.symm.trans (hK.2.1 25 (by omega) (by omega)).2), Option.some.inj (fC.symm.trans (hK.2.1 20 (by omega) (by omega)).2)⟩
    · exact ⟨Option.some.inj (fA.symm.trans (hK.2.1 26 (by omega) (by omega)).2), Option.some.inj (fC.symm.trans (hK.2.1 21 (by omega) (by omega)).2)⟩
  have ht2 : 25 ≤ t ∧ t ≤ 26 := by omega
  have hHR : am_HR D cA base ad (am_mal t x.toNatClampNeg y.toNatClampNeg (n, sl, K, I, L, Q)) F.heap := by
    refine ⟨by rw [f1, hsz]; show base + n + 1 + x.toNatClampNeg = base + (n + (1 + x.toNatClampNeg)); omega, fun j hj => ?_⟩
    by_cases e1 : j = n
    · subst e1
      refine ⟨by show am_rn j < j + (1 + x.toNatClampNeg); rw [am_rn_lo (by omega)]; omega, am_arr_at (t := t) (by show (if j = j then (t, x.toNatClampNeg) else _).1 = t; rw [if_pos rfl]) (by omega) ?_⟩
      show F.heap[ad j]? = some (vp_cell (cA t) ((if j = j then (t, x.toNatClampNeg) else if j < j ∧ j ≤ j + x.toNatClampNeg then (t - 5, y.toNatClampNeg) else K j).2, am_con ad t _ _ (if j = j then fun i => if i < x.toNatClampNeg then some (j + 1 + i) else none else if j < j ∧ j ≤ j + x.toNatClampNeg then fun _ => none else Q j)))
      rw [if_pos rfl, if_pos rfl]
      unfold am_con
      rw [if_neg (by omega), if_neg (by omega), ha j (by omega), ← hsz, f2, c1.1, vp_cell_q]
      refine congrArg some (congrArg (arrV (cA t) x.toNatClampNeg) (funext fun i => ?_))
      show va_rf (if i < x.toNatClampNeg then some (H.size + 1 + i) else none) = va_rf (Option.map ad (if i < x.toNatClampNeg then some (j + 1 + i) else none))
      by_cases hi : i < x.toNatClampNeg
      · rw [if_pos hi, if_pos hi, Option.map_some, ha (j + 1 + i) (by omega), hsz]
        exact congrArg va_rf (congrArg some (by omega))
      · rw [if_neg hi, if_neg hi]
        rfl
    · by_cases e2 : n < j ∧ j ≤ n + x.toNatClampNeg
      · refine ⟨by show am_rn j < n + (1 + x.toNatClampNeg); rw [am_rn_lo (by omega)]; omega, am_arr_at (t := t - 5) (by show (if j = n then (t, x.toNatClampNeg) else if n < j ∧ j ≤ n + x.toNatClampNeg then (t - 5, y.toNatClampNeg) else K j).1 = t - 5; rw [if_neg e1, if_pos e2]) (by omega) ?_⟩
        show F.heap[ad j]? = some (vp_cell (cA (t - 5)) ((if j = n then (t, x.toNatClampNeg) else if n < j ∧ j ≤ n + x.toNatClampNeg then (t - 5, y.toNatClampNeg) else K j).2, am_con ad (t - 5) (if n ≤ j ∧ j ≤ n + x.toNatClampNeg then fun _ => 0 else I j) (if n ≤ j ∧ j ≤ n + x.toNatClampNeg then fun _ => 0 else L j) _))
        rw [if_neg e1, if_pos e2, if_pos ⟨Nat.le_of_lt e2.1, e2.2⟩, if_pos ⟨Nat.le_of_lt e2.1, e2.2⟩, ha j (by omega)]
        have h9 := hrow (j - n - 1) (by omega)
        rw [show H.size + 1 + (j - n - 1) = base + j by omega, c1.2] at h9
        rw [h9]
        rcases ht with ⟨rfl, rfl⟩ | ⟨rfl, rfl⟩ <;> rfl
      · have eK : (fun j => if j = n then (t, x.toNatClampNeg) else if n < j ∧ j ≤ n + x.toNatClampNeg then (t - 5, y.toNatClampNeg) else K j) j = K j := by
          show (if j = n then _ else if n < j ∧ j ≤ n + x.toNatClampNeg then _ else K j) = K j
          rw [if_neg e1, if_neg e2]
        have hj2 : (K j).1 < 30 := by
          rw [← eK]
          exact hj
        obtain ⟨h1, h2⟩ := hH.2 j hj2
        have h1' : j < n := by
          have h9 : am_rn j < n := h1
          rwa [am_rn_lo2 (by omega)] at h9
        refine ⟨by show am_rn j < n + (1 + x.toNatClampNeg); rw [am_rn_lo (by omega)]; omega, am_at_kept h2 eK ?_ ?_ ?_ (hold _ ?_)⟩
        · show (if n ≤ j ∧ j ≤ n + x.toNatClampNeg then _ else I j) = I j
          rw [if_neg (by omega)]
        · show (if n ≤ j ∧ j ≤ n + x.toNatClampNeg then _ else L j) = L j
          rw [if_neg (by omega)]
        · show (if j = n then _ else if n < j ∧ j ≤ n + x.toNatClampNeg then _ else Q j) = Q j
          rw [if_neg e1, if_neg e2]
        · rw [ha j (by omega), hsz]
          omega
  have hHP : am_HP Ls xs (am_mal t x.toNatClampNeg y.toNatClampNeg (n, sl, K, I, L, Q)) := by
    obtain ⟨p1, p2, p3⟩ := hP
    have key : ∀ j : Nat, 30 ≤ ((am_mal t x.toNatClampNeg y.toNatClampNeg (n, sl, K, I, L, Q)).2.2.1 j).1 → (am_mal t x.toNatClampNeg y.toNatClampNeg (n, sl, K, I, L, Q)).2.2.1 j = K j ∧ (am_mal t x.toNatClampNeg y.toNatClampNeg (n, sl, K, I, L, Q)).2.2.2.1 j = I j := by
      intro j hj
      have e1 : j ≠ n := fun e => by
        have h9 : 30 ≤ (if j = n then (t, x.toNatClampNeg) else if n < j ∧ j ≤ n + x.toNatClampNeg then (t - 5, y.toNatClampNeg) else K j).1 := hj
        rw [if_pos e] at h9
        have h10 : 30 ≤ t := h9
        omega
      have e2 : ¬ (n < j ∧ j ≤ n + x.toNatClampNeg) := fun e => by
        have h9 : 30 ≤ (if j = n then (t, x.toNatClampNeg) else if n < j ∧ j ≤ n + x.toNatClampNeg then (t - 5, y.toNatClampNeg) else K j).1 := hj
        rw [if_neg e1, if_pos e] at h9
        have h10 : 30 ≤ t - 5 := h9
        omega
      refine ⟨?_, ?_⟩
      · show (if j = n then _ else if n < j ∧ j ≤ n + x.toNatClampNeg then _ else K j) = K j
        rw [if_neg e1, if_neg e2]
      · show (if n ≤ j ∧ j ≤ n + x.toNatClampNeg then _ else I j) = I j
        rw [if_neg (by omega)]
    refine ⟨fun j hj => ?_, fun j hj => ?_, fun j hj hj2 => ?_⟩
    · obtain ⟨k1, k2⟩ := key j (by omega)
      rw [k1] at hj ⊢
      rw [k2]
      exact p1 j hj
    · obtain ⟨k1, k2⟩ := key j (by omega)
      rw [k1] at hj ⊢
      rw [k2]
      exact p2 j hj
    · obtain ⟨k1, k2⟩ := key j hj
      rw [k1] at hj hj2
      exact p3 j hj hj2
  have ea : ad n = T.heap.size := by
    rw [ha n (by omega), hT, hsz]
  have e2 : n - n0 + 1 + x.toNatClampNeg = n + (1 + x.toNatClampNeg) - n0 := by have h9 : n0 ≤ n := hn0; omega
  have e3 : sl - s0 + x.toNatClampNeg + x.toNatClampNeg * y.toNatClampNeg = sl + (x.toNatClampNeg + x.toNatClampNeg * y.toNatClampNeg) - s0 := by have h9 : s0 ≤ sl := hs0; omega
  have X2 : Stand p l e R s m args below meth c F locs (n + (1 + x.toNatClampNeg) - n0) (sl + (x.toNatClampNeg + x.toNatClampNeg * y.toNatClampNeg) - s0) := by
    rw [← e2, ← e3]
    exact X'
  obtain ⟨t2, g1, g2⟩ := kk F.heap locs lsC hHR hHP (am_S_new hS (by rw [f1]; omega) hold) hl F rfl X2
  refine ⟨t2, step t2 ?_, g2⟩
  show Steps p.tables e below (F.setTop (F0 m (pc + 4) lsC (.ref T.heap.size :: r.map (am_cv ad)))) t2
  rw [← ea]
  exact g1
end AMM
