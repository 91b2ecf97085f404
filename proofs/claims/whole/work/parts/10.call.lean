/-! CALLS AND RETURNS; the soundness of the abstract machine -/
def am_rm (d mc ms : Nat) : Room := { frames := d + 6, cells := mc, slots := ms, locals := (d + 6) * 40 }
def am_Bs (D : va_G) (cA : Nat → ClassId) (base b Ls : Nat) (xs : Nat → Int32) (adK adV : Nat → Nat) (h : am_H) (U : State) : Prop := am_HR D cA base (am_ad base b adK) h U.heap ∧ am_K D cA U ∧ am_X base b Ls xs adK adV U U.heap ∧ base ≤ U.heap.size
theorem am_K.moved {D : va_G} {cA : Nat → ClassId} {u U : State} (hvm : u.vm.Alike U.vm) (h : am_K D cA u) : am_K D cA U :=
  ⟨va_K.moved hvm h.1, fun t h1 h2 => ⟨arrOfT_moved hvm (h.2.1 t h1 h2).1, (h.2.1 t h1 h2).2.moved hvm⟩, va_AO.moved hvm h.2.2.1, am_AO_moved hvm h.2.2.2.1, am_AO_moved hvm h.2.2.2.2⟩
theorem am_X.kept {base b L : Nat} {xs : Nat → Int32} {adK adV : Nat → Nat} {s : State} {H H1 : Heap} (h : am_X base b L xs adK adV s H) (hb : b < H.size) (hq : ∀ a : Nat, a < H.size → ¬ base ≤ a → H1[a]? = H[a]?) : am_X base b L xs adK adV s H1 :=
  ⟨⟨h.1.1.kept (hq b hb (Nat.not_le.mpr h.1.2)), h.1.2⟩, h.2.1.kept hq, h.2.2.1, h.2.2.2.1.kept hq, h.2.2.2.2.kept hq⟩
theorem am_X.warm {base b L : Nat} {xs : Nat → Int32} {adK adV : Nat → Nat} {s U : State} {H : Heap} (hW : s.WarmedH U.vm) (h : am_X base b L xs adK adV s H) : am_X base b L xs adK adV U H :=
  ⟨⟨va_X.moved hW.alike h.1.1, h.1.2⟩, vk_S.moved hW.alike h.2.1, fun i hi => vk_R.warm hW (h.2.2.1 i hi), va_Z.moved hW.alike h.2.2.2.1, va_Zq.moved hW.alike h.2.2.2.2⟩
theorem am_X.same {base b L : Nat} {xs : Nat → Int32} {adK adV : Nat → Nat} {s U : State} {H : Heap} (hv : U.vm = s.vm) (h : am_X base b L xs adK adV s H) : am_X base b L xs adK adV U H :=
  have hA : s.vm.Alike U.vm := by rw [hv]; exact Vm.Alike.refl s.vm
  ⟨⟨va_X.moved hA h.1.1, h.1.2⟩, vk_S.moved hA h.2.1, fun i hi => vk_R.same hv (h.2.2.1 i hi), va_Z.moved hA h.2.2.2.1, va_Zq.moved hA h.2.2.2.2⟩
def am_Qc (D : va_G) (cA : Nat → ClassId) (base Ls : Nat) (xs : Nat → Int32) (ad : Nat → Nat) (rv : Option Value) (h' : am_H) : Array Value → State → Outcome → State → Prop := fun _ st oc t => oc = .returned (rv.map (am_cv ad)) ∧ am_HR D cA base ad h' t.heap ∧ am_HP Ls xs h' ∧ va_F (fun q => base ≤ q) st t
theorem am_blind {D : va_G} {cA : Nat → ClassId} {base b Ls : Nat} {xs : Nat → Int32} {adK adV : Nat → Nat} {h : am_H} {av : List Value} : FrameBlind (va_Pc av (am_Bs D cA base b Ls xs adK adV h)) := by
  intro a U g mk q
  obtain ⟨q1, q2, q3, q4, q5⟩ := q
  exact ⟨q1, q2, am_K.moved (u := U) (U := U.calling g mk a) (Vm.Alike.refl U.vm) q3, am_X.same (s := U) (U := U.calling g mk a) rfl q4, q5⟩
section AMW
variable {p : Program} {l : Launch} {e : Env} {R : Room} {s : State} {m : MethodId} {args : Array Value} {below : List Frame} {meth : Method} {c : Code} {H : Heap} {locs : List Loc} {cells slots : Nat} {Qz : State → Prop}
/-- behind a call -/
theorem am_after {H0 : Heap} {mc ms pc : Nat} {lsC : Array Slot} {st0 rest : List Value} {D : va_G} {cA : Nat → ClassId} {base Ls : Nat} {xs : Nat → Int32} {ad : Nat → Nat} {rv : Option Value} {h' : am_H} {a : Array Value}
    (hr : va_Run p l e R s m args below meth c H locs cells slots mc ms (F0 m pc lsC st0) rest (am_Qc D cA base Ls xs ad rv h' a) (fun q => base ≤ q)) (hS : va_S (fun q => base ≤ q) H0 H locs)
    (kk : ∀ (H1 : Heap) (locs1 : List Loc), am_HR D cA base ad h' H1 → am_HP Ls xs h' → va_S (fun q => base ≤ q) H0 H1 locs1 → W p l e R s m args below meth c H1 locs1 (cells + mc) (slots + ms) Qz (F0 m (pc + 3) lsC ((rv.map (am_cv ad)).toList ++ rest))) : W p l e R s m args below meth c H locs cells slots Qz (F0 m pc lsC st0) := by
  intro T hT X
  obtain ⟨v, st₀, t, T', L, h0, X', hL, e1, e2, ⟨hv, hHR, hHP, hz, hk⟩, st⟩ := hr T hT X
  cases hv
  rw [h0] at hz hk
  obtain ⟨t2, a1, b1⟩ := kk T'.heap (locs ++ L) (by rw [e1]; exact hHR) hHP
    ⟨Nat.le_trans hS.1 (by rw [e1]; exact hz), fun q h1 h2 => by rw [e1, hk q (Nat.lt_of_lt_of_le h1 hS.1) h2]; exact hS.2.1 q h1 h2, fun q hq => by
      rcases List.mem_append.mp hq with h | h
      · exact hS.2.2 q h
      · exact hL q h⟩ T' rfl X'
  exact ⟨t2, st t2 a1, b1⟩
end AMW
theorem am_mr : (Jvm.natives.all fun r => cond (r.cls == "java/lang/Math") (am_fd.contains r.desc) true) = true := by decide +kernel
theorem am_mpl {y : MethodName} (hc : y.cls = "java/lang/Math") (hd : am_fd.contains y.desc = false) : plainFor y = true := by
  unfold plainFor
  refine Bool.or_eq_true _ _ |>.mpr (Or.inr ?_)
  cases hf : NativeRow.find? Jvm.natives y.cls y.name y.desc with
  | none => rfl
  | some r =>
    unfold NativeRow.find? at hf
    have h1 := List.find?_some hf
    have h2 := List.all_eq_true.mp am_mr r (List.mem_of_find?_eq_some hf)
    simp only [Bool.and_eq_true, beq_iff_eq] at h1
    rw [h1.1.2, hc, h1.2, hd] at h2
    simp at h2
theorem am_pl_for {y : MethodName} (h : am_pl y = true) : plainFor y = true := by
  unfold am_pl at h
  rcases Bool.or_eq_true _ _ |>.mp h with q | q
  · exact plainFor_of_name q
  · simp only [Bool.and_eq_true, decide_eq_true_eq, Bool.not_eq_true'] at q
    exact am_mpl q.1 q.2
theorem am_gw_of {w : Cond} (h : am_gw w = true) : (w.onTables && w.keepsH) = true ∨ ∃ ty, w = .arrayClass ty := by
  cases w <;> first | exact Or.inr ⟨_, rfl⟩ | exact Or.inl h
theorem am_pay {args : Array Value} {s : State} (hts : ∀ w ∈ am_W, w.before args s = true) {w : Cond} (hw : w ∈ am_W) (a' : Array Value) (U : State) (hW : s.WarmedH U.vm) : w.before a' U = true := by
  rcases am_gw_of (List.mem_filter.mp hw).2 with q | ⟨ty, rfl⟩
  · simp only [Bool.and_eq_true] at q
    have h1 := Cond.onTables_warmH (T := U) (args' := a') hW q.1 q.2 (hts w hw)
    rwa [State.setVm_self] at h1
  · exact word_at hW (Or.inr ⟨ty, rfl⟩) (hts _ hw)
def am_GI (ws : List Cond) : Prop := ∀ w ∈ ws, w ∈ am_W
theorem am_goodC {w : Cond} (h : w ∈ am_W) : am_GI (w :: am_W) := fun x hx => by
  rcases List.mem_cons.mp hx with rfl | hx
  · exact h
  · exact hx
section AMCW
variable {R : Room} {s : State} {args : Array Value} {own C host : String} {index maxL mc ms : Nat} {y : MethodName} {bytes : ByteArray} {ret : Option FieldType} {ws ws' : List Cond} {rm : Room}
theorem am_cwB (n : Nat) (ht : ∀ w ∈ am_W, w.before args s = true) (hG : am_GI ws) (hw : ws = Cond.code y bytes maxL ret :: ws') (hrc : rm.cells = mc) (hrs : rm.slots = ms) (hini : (Cond.initialized y.cls).before args s = true) (hl : (Cond.methodLink own index y).before args s = true)
    (hd : y.cls ≠ "java/lang/invoke/MethodHandle" ∧ y.cls ≠ "java/lang/invoke/VarHandle" ∧ (parseMethodDescriptor y.desc).map (fun d => d.parameters.length) = some n) (hR : rm.frames + 1 ≤ R.frames ∧ 8 + (maxL + 11) + rm.locals ≤ R.locals) : CallB R s args own index y bytes maxL ret ws rm mc ms n := by
  have hc : Cond.code y bytes maxL ret ∈ ws := by rw [hw]; exact List.mem_cons_self
  refine ⟨hrc, hrs, hR.1, hR.2, fun w h a' U hW => am_pay ht (hG w h) a' U hW, hc, ht _ (hG _ hc), hini, ⟨hd.1, hd.2.1⟩, fun sig h => ?_, hl⟩
  have h2 := hd.2.2
  rw [h] at h2
  exact (Option.some.inj h2).symm
theorem am_cwN (n : Nat) (ht : ∀ w ∈ am_W, w.before args s = true) (hG : am_GI ws) (hw : ws = Cond.code y bytes maxL ret :: ws') (hrc : rm.cells = mc) (hrs : rm.slots = ms) (hl : (Cond.methodLinkNest own index y host).before args s = true) (hini : (Cond.initialized y.cls).before args s = true)
    (hd : y.cls ≠ "java/lang/invoke/MethodHandle" ∧ y.cls ≠ "java/lang/invoke/VarHandle" ∧ (parseMethodDescriptor y.desc).map (fun d => d.parameters.length) = some n) (hR : rm.frames + 1 ≤ R.frames ∧ 8 + (maxL + 11) + rm.locals ≤ R.locals) : va_CN R s args own index y host bytes maxL ret ws rm mc ms n := by
  have hc : Cond.code y bytes maxL ret ∈ ws := by rw [hw]; exact List.mem_cons_self
  refine ⟨⟨hrc, hrs, hR.1, hR.2, fun w h a' U hW => am_pay ht (hG w h) a' U hW, hc⟩, ht _ (hG _ hc), hini, ⟨hd.1, hd.2.1⟩, fun sig h => ?_, hl⟩
  have h2 := hd.2.2
  rw [h] at h2
  exact (Option.some.inj h2).symm
end AMCW
theorem am_ofW {l : Launch} {y : MethodName} {ws ws' : List Cond} {rm : Room} {Pc : Array Value → State → Prop} {Qc : Array Value → State → Outcome → State → Prop} {mc ms : Nat} {free : Addr → Prop} {cc : ByteArray} {maxL : Nat} {ret : Option FieldType}
    (hy : plainFor y = true) (hw : ws = Cond.code y cc maxL ret :: ws')
    (body : ∀ (p : Program) (e : Env) (s : State) (m : MethodId) (args : Array Value) (below : List Frame) (meth : Method) (c : Code) (s₁ : State), BodyLoose p l y (headSpec ws rm) cc maxL ret e s m args below meth c s₁ → c.maxLocals = maxL → Pc args s →
      W p l e (headSpec ws rm).room s m args below meth c s.heap [] 0 0 (MQ below Qc args s mc ms free) (entryFrame m args maxL)) : Met l y ws rm Pc Qc mc ms free := by
  refine MetFree.of_bodySF (code := cc) (maxLocals := maxL) (ret := ret) hy (fun args s m h hn => ?_) (fun p e s m args below meth c s₁ B hml hP _ => ?_)
  · obtain ⟨meth, c, h1, h2, h3, h4, h5, h6, -, -⟩ := Cond.code_spec hn (atoms_spec (ws := ws) h _ (by rw [hw]; exact List.mem_cons_self))
    exact ⟨meth, c, h1, h2, h3, h4, h5, h6⟩
  · obtain ⟨t, a1, o, b1, b2, b3⟩ := body p e s m args below meth c s₁ B hml hP s₁ (by rw [B.state]; rfl) (Stand.of_body B)
    exact ⟨t, o, a1, b1, b2, ⟨b3.1, b3.2⟩⟩
theorem am_cat_map (ad : Nat → Nat) (l : List Value) : ((l.map (am_cv ad)).map fun v => v.category).sum = am_cat l := by
  unfold am_cat
  rw [List.map_map]
  congr 1
  apply List.map_congr_left
  intro a _
  exact am_cat_cv ad a
/-- locals at the entry -/
theorem am_ent_lr {ad : Nat → Nat} {ml : Nat} {as : List Value} (hml : (am_ent1 as).length ≤ ml) : am_LR ad ((lg_sl (as.map (am_cv ad)) ++ List.replicate (ml - (lg_sl (as.map (am_cv ad))).length) Slot.unset).toArray) (am_ent ml as) ∧ (lg_sl (as.map (am_cv ad))).length = (am_ent1 as).length := by
  have hlen : ∀ as : List Value, (lg_sl (as.map (am_cv ad))).length = (am_ent1 as).length := by
    intro as
    induction as with
    | nil => rfl
    | cons v vs ih =>
      have e1 : lg_sl ((v :: vs).map (am_cv ad)) = (if (am_cv ad v).category = 2 then [.val (am_cv ad v), .second] else [.val (am_cv ad v)]) ++ lg_sl (vs.map (am_cv ad)) := rfl
      rw [e1, List.length_append, ih]
      cases v <;> simp [am_ent1, am_cv, Value.category] <;> omega
  have hargs : ∀ (as : List Value) (n : Nat) (pre : am_L) (i : Nat) (v : Value), pre.length = n → am_lget (am_ent1 as) i = some v → (n + i, am_cv ad v) ∈ lv_args n (as.map (am_cv ad)) := by
    intro as
    induction as with
    | nil => intro n pre i v _ h; simp [am_ent1, am_lget] at h
    | cons w ws ih =>
      intro n pre i v hn h
      have h2 : ∀ (x : Value) (z : am_L), am_lget (some x :: z) i = some v → (i = 0 ∧ v = x) ∨ ∃ j : Nat, i = j + 1 ∧ am_lget z j = some v := by
        intro x z hh
        cases i with
        | zero => left; exact ⟨rfl, by simpa [am_lget] using hh.symm⟩
        | succ j => right; exact ⟨j, rfl, by simpa [am_lget] using hh⟩
      have one : (am_cv ad w).category = 1 → am_ent1 (w :: ws) = some w :: am_ent1 ws → (n + i, am_cv ad v) ∈ lv_args n ((w :: ws).map (am_cv ad)) := by
        intro hc he
        rw [he] at h
        show (n + i, am_cv ad v) ∈ (n, am_cv ad w) :: lv_args (if (am_cv ad w).category = 2 then n + 2 else n + 1) (ws.map (am_cv ad))
        rw [if_neg (by omega)]
        rcases h2 _ _ h with ⟨rfl, rfl⟩ | ⟨j, rfl, hj⟩
        · exact List.mem_cons_self
        · have h9 := ih (n + 1) (none :: pre) j v (by simp [hn]) hj
          rw [show n + (j + 1) = n + 1 + j by omega]
          exact List.mem_cons_of_mem _ h9
      have two : (am_cv ad w).category = 2 → am_ent1 (w :: ws) = some w :: none :: am_ent1 ws → (n + i, am_cv ad v) ∈ lv_args n ((w :: ws).map (am_cv ad)) := by
        intro hc he
        rw [he] at h
        show (n + i, am_cv ad v) ∈ (n, am_cv ad w) :: lv_args (if (am_cv ad w).category = 2 then n + 2 else n + 1) (ws.map (am_cv ad))
        rw [if_pos hc]
        rcases h2 _ _ h with ⟨rfl, rfl⟩ | ⟨j, rfl, hj⟩
        · exact List.mem_cons_self
        · cases j with
          | zero => simp [am_lget] at hj
          | succ q =>
            have h9 := ih (n + 2) (none :: none :: pre) q v (by simp [hn]) (by simpa [am_lget] using hj)
            rw [show n + (q + 1 + 1) = n + 2 + q by omega]
            exact List.mem_cons_of_mem _ h9
      cases w <;> first | exact one rfl rfl | exact two rfl rfl
  refine ⟨?_, hlen as⟩
  have hh := lv_entry (as.map (am_cv ad)) (n := ml) (by rw [hlen]; exact hml)
  refine ⟨?_, hh.2.1, fun i v hi => ?_⟩
  · rw [hh.1]
    simp [am_ent]
    omega
  · have hi2 : am_lget (am_ent1 as) i = some v := by
      rw [am_lget_iff] at hi ⊢
      unfold am_ent at hi
      by_cases hl : i < (am_ent1 as).length
      · rwa [List.getElem?_append_left hl] at hi
      · rw [List.getElem?_append_right (by omega)] at hi
        have h9 := List.eq_of_mem_replicate (List.mem_of_getElem? hi)
        cases h9
    have h9 := hargs as 0 [] i v rfl hi2
    rw [Nat.zero_add] at h9
    exact hh.2.2 _ h9
/-- the store only grows -/
theorem am_put_mono {kd a k : Nat} {x : Value} {h h' : am_H} (hp : am_put kd a k x h = some h') : h'.1 = h.1 ∧ h'.2.1 = h.2.1 := by
  obtain ⟨n, sl, K, I, L, Q⟩ := h
  unfold am_put at hp
  dsimp only at hp
  split at hp
  · cases hp; exact ⟨rfl, rfl⟩
  · split at hp
    · cases hp; exact ⟨rfl, rfl⟩
    · cases hp
  · cases hp; exact ⟨rfl, rfl⟩
  · cases hp; exact ⟨rfl, rfl⟩
  · cases hp; exact ⟨rfl, rfl⟩
  · cases hp
