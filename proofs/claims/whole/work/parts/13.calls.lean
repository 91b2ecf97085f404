/-! THE SOUNDNESS OF THE ABSTRACT MACHINE -/
theorem am_toList (ad : Nat → Nat) (rv : Option Value) (r : List Value) : (rv.map (am_cv ad)).toList ++ r.map (am_cv ad) = (rv.toList ++ r).map (am_cv ad) := by
  cases rv <;> rfl
theorem am_take (ad : Nat → Nat) (st : List Value) (na : Nat) : st.map (am_cv ad) = (((st.take na).reverse).map (am_cv ad)).reverse ++ (st.drop na).map (am_cv ad) := by
  rw [← List.map_reverse, List.reverse_reverse, ← List.map_append, List.take_append_drop]
section AMY
variable {p : Program} {l : Launch} {e : Env} {R : Room} {s : State} {m : MethodId} {args : Array Value} {below : List Frame} {meth : Method} {c : Code} {Qz : State → Prop}
variable {D : va_G} {cA : Nat → ClassId} {base b Ls : Nat} {adK adV : Nat → Nat} {xs : Nat → Int32} {n0 s0 : Nat}
variable {pc pc' : Nat} {ls ls' : am_L} {st st' rest as : List Value} {h h' h1 : am_H} {mi mi' : Nat} {i : Instr} {len : Nat} {ops : List Nat} {v : Value} {rv : Option Value}
theorem am_pre {av : List Value} {H : Heap} {locs : List Loc} (hK : am_K D cA s) (hX : am_X base b Ls xs adK adV s s.heap) (hsz : base ≤ s.heap.size) (hH : am_HR D cA base (am_ad base b adK) h H) (hS : va_S (fun q => base ≤ q) s.heap H locs) : ∀ U : State, U.heap = H → s.WarmedH U.vm → va_Pc av (am_Bs D cA base b Ls xs adK adV h) av.toArray U := by
  intro U hU hW
  have hX1 : am_X base b Ls xs adK adV s H := hX.kept (Nat.lt_of_lt_of_le hX.1.2 hsz) hS.2.1
  refine ⟨rfl, by rw [hU]; exact hH, hK.moved hW.alike, ?_, by rw [hU]; exact Nat.le_trans hsz hS.1⟩
  rw [hU]
  exact hX1.warm hW
theorem am_s_fin {a : Array Value} (mk : ∀ (H : Heap) (locs : List Loc) (lsC : Array Slot), am_HR D cA base (am_ad base b adK) h H → va_S (fun q => base ≤ q) s.heap H locs → am_LR (am_ad base b adK) lsC ls → va_Run p l e R s m args below meth c H locs (h.1 - n0) (h.2.1 - s0) (h1.1 - h.1) (h1.2.1 - h.2.1) (F0 m pc lsC (st.map (am_cv (am_ad base b adK)))) (rest.map (am_cv (am_ad base b adK))) (am_Qc D cA base Ls xs (am_ad base b adK) rv h1 a) (fun q => base ≤ q))
    (hm : h.1 ≤ h1.1 ∧ h.2.1 ≤ h1.2.1) (hn0 : n0 ≤ h.1) (hs0 : s0 ≤ h.2.1) (k : am_St p l e R s m args below meth c Qz D cA base (am_ad base b adK) Ls xs n0 s0 (pc + 3) ls (rv.toList ++ rest) h1) : am_St p l e R s m args below meth c Qz D cA base (am_ad base b adK) Ls xs n0 s0 pc ls st h := by
  intro H locs lsC hH hP hS hl
  refine am_after (mk H locs lsC hH hS hl) hS fun H1 locs1 g1 g2 g3 => ?_
  have k2 := k H1 locs1 lsC g1 g2 g3 hl
  rw [am_toList]
  refine W.cs (cells' := h1.1 - n0) (slots' := h1.2.1 - s0) (by omega) (by omega) k2

set_option maxHeartbeats 1000000 in
theorem am_s_k0 {run : Nat → am_L → am_H → Option (Option Value × am_H)} {d' ix : Nat} {tl0 : List Nat} (C : am_Cx p s m args meth c mi) (hK : am_K D cA s) (hX : am_X base b Ls xs adK adV s s.heap) (hsz : base ≤ s.heap.size) (hdec : decode (am_mi mi).2.2.1 pc = .ok (.invokespecial ix, 3)) (hokc : am_okc (am_mi mi).1 ix (0 :: tl0) = true)
    (hc : am_call run (0 :: tl0) st h = some (st', h')) (hml : ls.length = (am_mi mi).2.2.2.1) (hn0 : n0 ≤ h.1) (hs0 : s0 ≤ h.2.1) (hrc : h'.1 - n0 ≤ R.cells) (hrs : h'.2.1 - s0 ≤ R.slots) (hfr : d' + 7 ≤ R.frames) (hlo : (d' + 7) * 40 ≤ R.locals)
    (hmono : ∀ mi' ls' rv h1, run mi' ls' h = some (rv, h1) → h.1 ≤ h1.1 ∧ h.2.1 ≤ h1.2.1) (hrun : ∀ mi' as rv h1, run mi' (am_ent (am_mi mi').2.2.2.1 as) h = some (rv, h1) → (am_ent1 as).length ≤ (am_mi mi').2.2.2.1 → am_pl (am_mi mi').2.1 = true → (am_mi mi').1 = (am_mi mi').2.1.cls → h1.1 ≤ h'.1 → am_HP Ls xs h → am_Mt l D cA base b Ls xs adK adV d' mi' as h rv h1)
    (hP0 : am_HP Ls xs h) (k : am_St p l e R s m args below meth c Qz D cA base (am_ad base b adK) Ls xs n0 s0 (pc + 3) ls st' h') : am_St p l e R s m args below meth c Qz D cA base (am_ad base b adK) Ls xs n0 s0 pc ls st h := by
  obtain ⟨hx, hb, hmlc, hown, hts, hin⟩ := C
  rcases tl0 with _ | ⟨mi', _ | ⟨na, _ | ⟨ml, _ | ⟨ci, _ | ⟨w1, _ | ⟨w2, _ | ⟨w3, _ | ⟨w4, tl⟩⟩⟩⟩⟩⟩⟩⟩
  · cases hokc
  · cases hokc
  · cases hokc
  · cases hokc
  · cases hokc
  · cases hokc
  · cases hokc
  · cases hokc
  simp only [am_okc, Bool.and_eq_true, decide_eq_true_eq] at hokc
  obtain ⟨⟨⟨⟨⟨⟨⟨⟨⟨⟨hmi, hM1⟩, hM4⟩, hdesc⟩, hc1⟩, hcn2⟩, hpl⟩, hml2⟩, q2⟩, q3⟩, hq⟩ := hokc
  obtain ⟨⟨⟨q1, q4⟩, hnm⟩, hrt⟩ := hq
  subst hM4
  have hc2 : (if st.length < na then none else match st.drop na with
    | .ref bb :: r => if am_cat r ≤ 8 ∧ (am_ent1 (.ref bb :: (st.take na).reverse)).length ≤ (am_mi mi').2.2.2.1 ∧ ((0 : Nat) = 0 ∨ (0 : Nat) = 1 ∨ (h.2.2.1 bb).1 = ci) then (match run mi' (am_ent (am_mi mi').2.2.2.1 (.ref bb :: (st.take na).reverse)) h with
      | some (v, h9) => some (v.toList ++ r, h9)
      | none => none) else none
    | _ => none) = some (st', h') := hc
  split at hc2
  · cases hc2
  rename_i hlen
  split at hc2
  · rename_i bb r hdrop
    split at hc2
    · rename_i hcat
      cases hr : run mi' (am_ent (am_mi mi').2.2.2.1 (.ref bb :: (st.take na).reverse)) h with
      | none =>
        rw [hr] at hc2
        cases hc2
      | some q =>
        obtain ⟨rv, h1⟩ := q
        rw [hr] at hc2
        have hc3 : some (rv.toList ++ r, h1) = some (st', h') := hc2
        have hc4 := Option.some.inj hc3
        obtain ⟨rfl, rfl⟩ : st' = rv.toList ++ r ∧ h' = h1 := ⟨(congrArg Prod.fst hc4).symm, (congrArg Prod.snd hc4).symm⟩
        have hm := hmono _ _ _ _ hr
        have hMt := hrun mi' (.ref bb :: (st.take na).reverse) rv h' hr hcat.2.1 hpl hM1 (Nat.le_refl _) hP0
        have hword : Cond.code (am_mi mi').2.1 (am_mi mi').2.2.1 (am_mi mi').2.2.2.1 (am_mi mi').2.2.2.2.1 ∈ am_W := am_cw _ q3 hmi
        have hargs : ((st.take na).reverse.map (am_cv (am_ad base b adK))).length = na := by
          rw [List.length_map, List.length_reverse, List.length_take]
          omega
        have hR : (am_rm d' (h'.1 - h.1) (h'.2.1 - h.2.1)).frames + 1 ≤ R.frames ∧ 8 + ((am_mi mi').2.2.2.1 + 11) + (am_rm d' (h'.1 - h.1) (h'.2.1 - h.2.1)).locals ≤ R.locals := by
          refine ⟨hfr, ?_⟩
          show 8 + ((am_mi mi').2.2.2.1 + 11) + (d' + 6) * 40 ≤ R.locals
          omega
        have hroom : h.1 - n0 + (h'.1 - h.1) ≤ R.cells ∧ h.2.1 - s0 + (h'.2.1 - h.2.1) ≤ R.slots := by omega
        have hst : ∀ ad : Nat → Nat, st.map (am_cv ad) = ((st.take na).reverse.map (am_cv ad)).reverse ++ .ref (ad bb) :: r.map (am_cv ad) := by
          intro ad
          rw [am_take ad st na, hdrop]
          rfl
        refine am_s_fin (rest := r) (rv := rv) (a := (Value.ref (am_ad base b adK bb) :: (st.take na).reverse.map (am_cv (am_ad base b adK))).toArray) (fun H locs lsC hH hS hl => ?_) hm hn0 hs0 k
        have hcs : ((r.map (am_cv (am_ad base b adK))).map fun v => v.category).sum ≤ 8 := by rw [am_cat_map]; exact hcat.1
        have hfix : CallFix p m c (am_mi mi).2.2.1 lsC.size s args am_W (am_mi mi).1 := ⟨hx, hb, by rw [hmlc, hl.1, hml], hown, hts⟩
        have hdd : (am_mi mi').2.1.cls ≠ "java/lang/invoke/MethodHandle" ∧ (am_mi mi').2.1.cls ≠ "java/lang/invoke/VarHandle" ∧ (parseMethodDescriptor (am_mi mi').2.1.desc).map (fun d => d.parameters.length) = some na := ⟨hc1, hcn2, hdesc⟩
        have hps : PreS s H (va_Pc ((Value.ref bb :: (st.take na).reverse).map (am_cv (am_ad base b adK))) (am_Bs D cA base b Ls xs adK adV h)) (.ref (am_ad base b adK bb) :: (st.take na).reverse.map (am_cv (am_ad base b adK))) :=
          ⟨am_blind, fun U hU hW => am_pre (av := (Value.ref bb :: (st.take na).reverse).map (am_cv (am_ad base b adK))) hK hX hsz hH hS U hU hW⟩
        unfold am_Mt at hMt
        rw [hrt] at hMt hword
        have hcw := And.intro (am_cwB (R := R) (s := s) (args := args) (own := (am_mi mi).1) (index := ix) (mc := h'.1 - h.1) (ms := h'.2.1 - h.2.1) (rm := am_rm d' (h'.1 - h.1) (h'.2.1 - h.2.1)) na hts (am_goodC hword) rfl rfl rfl (am_wd_hts hts q2) (am_wd_hts hts q1) hdd hR) (And.intro hnm (am_wd_hts hts q4))
        exact va_runI (rest := r.map (am_cv (am_ad base b adK))) hfix hMt hcw hps rfl hargs rfl (hst _) (lv_room hcs) hdec hroom
    · cases hc2
  · cases hc2
set_option maxHeartbeats 1000000 in
theorem am_s_k1 {run : Nat → am_L → am_H → Option (Option Value × am_H)} {d' ix : Nat} {tl0 : List Nat} (C : am_Cx p s m args meth c mi) (hK : am_K D cA s) (hX : am_X base b Ls xs adK adV s s.heap) (hsz : base ≤ s.heap.size) (hdec : decode (am_mi mi).2.2.1 pc = .ok (.invokespecial ix, 3)) (hokc : am_okc (am_mi mi).1 ix (1 :: tl0) = true)
    (hc : am_call run (1 :: tl0) st h = some (st', h')) (hml : ls.length = (am_mi mi).2.2.2.1) (hn0 : n0 ≤ h.1) (hs0 : s0 ≤ h.2.1) (hrc : h'.1 - n0 ≤ R.cells) (hrs : h'.2.1 - s0 ≤ R.slots) (hfr : d' + 7 ≤ R.frames) (hlo : (d' + 7) * 40 ≤ R.locals)
    (hmono : ∀ mi' ls' rv h1, run mi' ls' h = some (rv, h1) → h.1 ≤ h1.1 ∧ h.2.1 ≤ h1.2.1) (hrun : ∀ mi' as rv h1, run mi' (am_ent (am_mi mi').2.2.2.1 as) h = some (rv, h1) → (am_ent1 as).length ≤ (am_mi mi').2.2.2.1 → am_pl (am_mi mi').2.1 = true → (am_mi mi').1 = (am_mi mi').2.1.cls → h1.1 ≤ h'.1 → am_HP Ls xs h → am_Mt l D cA base b Ls xs adK adV d' mi' as h rv h1)
    (hP0 : am_HP Ls xs h) (k : am_St p l e R s m args below meth c Qz D cA base (am_ad base b adK) Ls xs n0 s0 (pc + 3) ls st' h') : am_St p l e R s m args below meth c Qz D cA base (am_ad base b adK) Ls xs n0 s0 pc ls st h := by
  obtain ⟨hx, hb, hmlc, hown, hts, hin⟩ := C
  rcases tl0 with _ | ⟨mi', _ | ⟨na, _ | ⟨ml, _ | ⟨ci, _ | ⟨w1, _ | ⟨w2, _ | ⟨w3, _ | ⟨w4, tl⟩⟩⟩⟩⟩⟩⟩⟩
  · cases hokc
  · cases hokc
  · cases hokc
  · cases hokc
  · cases hokc
  · cases hokc
  · cases hokc
  · cases hokc
  simp only [am_okc, Bool.and_eq_true, decide_eq_true_eq] at hokc
  obtain ⟨⟨⟨⟨⟨⟨⟨⟨⟨⟨hmi, hM1⟩, hM4⟩, hdesc⟩, hc1⟩, hcn2⟩, hpl⟩, hml2⟩, q2⟩, q3⟩, hq⟩ := hokc
  obtain ⟨⟨⟨q1, q4⟩, hnm⟩, hrt⟩ := hq
  subst hM4
  have hc2 : (if st.length < na then none else match st.drop na with
    | .ref bb :: r => if am_cat r ≤ 8 ∧ (am_ent1 (.ref bb :: (st.take na).reverse)).length ≤ (am_mi mi').2.2.2.1 ∧ ((1 : Nat) = 0 ∨ (1 : Nat) = 1 ∨ (h.2.2.1 bb).1 = ci) then (match run mi' (am_ent (am_mi mi').2.2.2.1 (.ref bb :: (st.take na).reverse)) h with
      | some (v, h9) => some (v.toList ++ r, h9)
      | none => none) else none
    | _ => none) = some (st', h') := hc
  split at hc2
  · cases hc2
  rename_i hlen
  split at hc2
  · rename_i bb r hdrop
    split at hc2
    · rename_i hcat
      cases hr : run mi' (am_ent (am_mi mi').2.2.2.1 (.ref bb :: (st.take na).reverse)) h with
      | none =>
        rw [hr] at hc2
        cases hc2
      | some q =>
        obtain ⟨rv, h1⟩ := q
        rw [hr] at hc2
        have hc3 : some (rv.toList ++ r, h1) = some (st', h') := hc2
        have hc4 := Option.some.inj hc3
        obtain ⟨rfl, rfl⟩ : st' = rv.toList ++ r ∧ h' = h1 := ⟨(congrArg Prod.fst hc4).symm, (congrArg Prod.snd hc4).symm⟩
        have hm := hmono _ _ _ _ hr
        have hMt := hrun mi' (.ref bb :: (st.take na).reverse) rv h' hr hcat.2.1 hpl hM1 (Nat.le_refl _) hP0
        have hword : Cond.code (am_mi mi').2.1 (am_mi mi').2.2.1 (am_mi mi').2.2.2.1 (am_mi mi').2.2.2.2.1 ∈ am_W := am_cw _ q3 hmi
        have hargs : ((st.take na).reverse.map (am_cv (am_ad base b adK))).length = na := by
          rw [List.length_map, List.length_reverse, List.length_take]
          omega
        have hR : (am_rm d' (h'.1 - h.1) (h'.2.1 - h.2.1)).frames + 1 ≤ R.frames ∧ 8 + ((am_mi mi').2.2.2.1 + 11) + (am_rm d' (h'.1 - h.1) (h'.2.1 - h.2.1)).locals ≤ R.locals := by
          refine ⟨hfr, ?_⟩
          show 8 + ((am_mi mi').2.2.2.1 + 11) + (d' + 6) * 40 ≤ R.locals
          omega
        have hroom : h.1 - n0 + (h'.1 - h.1) ≤ R.cells ∧ h.2.1 - s0 + (h'.2.1 - h.2.1) ≤ R.slots := by omega
        have hst : ∀ ad : Nat → Nat, st.map (am_cv ad) = ((st.take na).reverse.map (am_cv ad)).reverse ++ .ref (ad bb) :: r.map (am_cv ad) := by
          intro ad
          rw [am_take ad st na, hdrop]
          rfl
        refine am_s_fin (rest := r) (rv := rv) (a := (Value.ref (am_ad base b adK bb) :: (st.take na).reverse.map (am_cv (am_ad base b adK))).toArray) (fun H locs lsC hH hS hl => ?_) hm hn0 hs0 k
        have hcs : ((r.map (am_cv (am_ad base b adK))).map fun v => v.category).sum ≤ 8 := by rw [am_cat_map]; exact hcat.1
        have hfix : CallFix p m c (am_mi mi).2.2.1 lsC.size s args am_W (am_mi mi).1 := ⟨hx, hb, by rw [hmlc, hl.1, hml], hown, hts⟩
        have hdd : (am_mi mi').2.1.cls ≠ "java/lang/invoke/MethodHandle" ∧ (am_mi mi').2.1.cls ≠ "java/lang/invoke/VarHandle" ∧ (parseMethodDescriptor (am_mi mi').2.1.desc).map (fun d => d.parameters.length) = some na := ⟨hc1, hcn2, hdesc⟩
        have hps : PreS s H (va_Pc ((Value.ref bb :: (st.take na).reverse).map (am_cv (am_ad base b adK))) (am_Bs D cA base b Ls xs adK adV h)) (.ref (am_ad base b adK bb) :: (st.take na).reverse.map (am_cv (am_ad base b adK))) :=
          ⟨am_blind, fun U hU hW => am_pre (av := (Value.ref bb :: (st.take na).reverse).map (am_cv (am_ad base b adK))) hK hX hsz hH hS U hU hW⟩
        unfold am_Mt at hMt
        rw [hrt] at hMt hword
        have hcw := am_cwN (R := R) (s := s) (args := args) (own := (am_mi mi).1) (index := ix) (host := RX10) (mc := h'.1 - h.1) (ms := h'.2.1 - h.2.1) (rm := am_rm d' (h'.1 - h.1) (h'.2.1 - h.2.1)) na hts (am_goodC hword) rfl rfl rfl (am_wd_hts hts q1) (am_wd_hts hts q2) hdd hR
        exact va_runIN (rest := r.map (am_cv (am_ad base b adK))) hfix hMt ⟨hcw, hnm, am_wd_hts hts q4⟩ hps rfl hargs rfl (hst _) (lv_room hcs) hdec hroom
    · cases hc2
  · cases hc2
set_option maxHeartbeats 1000000 in
theorem am_s_k3 {run : Nat → am_L → am_H → Option (Option Value × am_H)} {d' ix : Nat} {tl0 : List Nat} (C : am_Cx p s m args meth c mi) (hK : am_K D cA s) (hX : am_X base b Ls xs adK adV s s.heap) (hsz : base ≤ s.heap.size) (hdec : decode (am_mi mi).2.2.1 pc = .ok (.invokevirtual ix, 3)) (hokc : am_okc (am_mi mi).1 ix (3 :: tl0) = true)
    (hc : am_call run (3 :: tl0) st h = some (st', h')) (hml : ls.length = (am_mi mi).2.2.2.1) (hn0 : n0 ≤ h.1) (hs0 : s0 ≤ h.2.1) (hrc : h'.1 - n0 ≤ R.cells) (hrs : h'.2.1 - s0 ≤ R.slots) (hfr : d' + 7 ≤ R.frames) (hlo : (d' + 7) * 40 ≤ R.locals)
    (hmono : ∀ mi' ls' rv h1, run mi' ls' h = some (rv, h1) → h.1 ≤ h1.1 ∧ h.2.1 ≤ h1.2.1) (hrun : ∀ mi' as rv h1, run mi' (am_ent (am_mi mi').2.2.2.1 as) h = some (rv, h1) → (am_ent1 as).length ≤ (am_mi mi').2.2.2.1 → am_pl (am_mi mi').2.1 = true → (am_mi mi').1 = (am_mi mi').2.1.cls → h1.1 ≤ h'.1 → am_HP Ls xs h → am_Mt l D cA base b Ls xs adK adV d' mi' as h rv h1)
    (hP0 : am_HP Ls xs h) (k : am_St p l e R s m args below meth c Qz D cA base (am_ad base b adK) Ls xs n0 s0 (pc + 3) ls st' h') : am_St p l e R s m args below meth c Qz D cA base (am_ad base b adK) Ls xs n0 s0 pc ls st h := by
  obtain ⟨hx, hb, hmlc, hown, hts, hin⟩ := C
  rcases tl0 with _ | ⟨mi', _ | ⟨na, _ | ⟨ml, _ | ⟨ci, _ | ⟨w1, _ | ⟨w2, _ | ⟨w3, _ | ⟨w4, _ | ⟨w5, tl⟩⟩⟩⟩⟩⟩⟩⟩⟩
  · cases hokc
  · cases hokc
  · cases hokc
  · cases hokc
  · cases hokc
  · cases hokc
  · cases hokc
  · cases hokc
  · simp [am_okc] at hokc
  simp only [am_okc, Bool.and_eq_true, decide_eq_true_eq] at hokc
  obtain ⟨⟨⟨⟨⟨⟨⟨⟨⟨⟨hmi, hM1⟩, hM4⟩, hdesc⟩, hc1⟩, hcn2⟩, hpl⟩, hml2⟩, q2⟩, q3⟩, hq⟩ := hokc
  obtain ⟨⟨⟨⟨q1, q4⟩, q5⟩, hci⟩, hRX⟩ := hq
  subst hM4
  have hc2 : (if st.length < na then none else match st.drop na with
    | .ref bb :: r => if am_cat r ≤ 8 ∧ (am_ent1 (.ref bb :: (st.take na).reverse)).length ≤ (am_mi mi').2.2.2.1 ∧ ((3 : Nat) = 0 ∨ (3 : Nat) = 1 ∨ (h.2.2.1 bb).1 = ci) then (match run mi' (am_ent (am_mi mi').2.2.2.1 (.ref bb :: (st.take na).reverse)) h with
      | some (v, h9) => some (v.toList ++ r, h9)
      | none => none) else none
    | _ => none) = some (st', h') := hc
  split at hc2
  · cases hc2
  rename_i hlen
  split at hc2
  · rename_i bb r hdrop
    split at hc2
    · rename_i hcat
      cases hr : run mi' (am_ent (am_mi mi').2.2.2.1 (.ref bb :: (st.take na).reverse)) h with
      | none =>
        rw [hr] at hc2
        cases hc2
      | some q =>
        obtain ⟨rv, h1⟩ := q
        rw [hr] at hc2
        have hc3 : some (rv.toList ++ r, h1) = some (st', h') := hc2
        have hc4 := Option.some.inj hc3
        obtain ⟨rfl, rfl⟩ : st' = rv.toList ++ r ∧ h' = h1 := ⟨(congrArg Prod.fst hc4).symm, (congrArg Prod.snd hc4).symm⟩
        have hm := hmono _ _ _ _ hr
        have hMt := hrun mi' (.ref bb :: (st.take na).reverse) rv h' hr hcat.2.1 hpl hM1 (Nat.le_refl _) hP0
        have hword : Cond.code (am_mi mi').2.1 (am_mi mi').2.2.1 (am_mi mi').2.2.2.1 (am_mi mi').2.2.2.2.1 ∈ am_W := am_cw _ q3 hmi
        have hargs : ((st.take na).reverse.map (am_cv (am_ad base b adK))).length = na := by
          rw [List.length_map, List.length_reverse, List.length_take]
          omega
        have hR : (am_rm d' (h'.1 - h.1) (h'.2.1 - h.2.1)).frames + 1 ≤ R.frames ∧ 8 + ((am_mi mi').2.2.2.1 + 11) + (am_rm d' (h'.1 - h.1) (h'.2.1 - h.2.1)).locals ≤ R.locals := by
          refine ⟨hfr, ?_⟩
          show 8 + ((am_mi mi').2.2.2.1 + 11) + (d' + 6) * 40 ≤ R.locals
          omega
        have hroom : h.1 - n0 + (h'.1 - h.1) ≤ R.cells ∧ h.2.1 - s0 + (h'.2.1 - h.2.1) ≤ R.slots := by omega
        have hst : ∀ ad : Nat → Nat, st.map (am_cv ad) = ((st.take na).reverse.map (am_cv ad)).reverse ++ .ref (ad bb) :: r.map (am_cv ad) := by
          intro ad
          rw [am_take ad st na, hdrop]
          rfl
        refine am_s_fin (rest := r) (rv := rv) (a := (Value.ref (am_ad base b adK bb) :: (st.take na).reverse.map (am_cv (am_ad base b adK))).toArray) (fun H locs lsC hH hS hl => ?_) hm hn0 hs0 k
        have hcs : ((r.map (am_cv (am_ad base b adK))).map fun v => v.category).sum ≤ 8 := by rw [am_cat_map]; exact hcat.1
        have hfix : CallFix p m c (am_mi mi).2.2.1 lsC.size s args am_W (am_mi mi).1 := ⟨hx, hb, by rw [hmlc, hl.1, hml], hown, hts⟩
        have hdd : (am_mi mi').2.1.cls ≠ "java/lang/invoke/MethodHandle" ∧ (am_mi mi').2.1.cls ≠ "java/lang/invoke/VarHandle" ∧ (parseMethodDescriptor (am_mi mi').2.1.desc).map (fun d => d.parameters.length) = some na := ⟨hc1, hcn2, hdesc⟩
        obtain ⟨hA, hat⟩ := hH.2 bb (by have := hcat.2.2; omega)
        obtain ⟨cell, g1, g2, g3, -⟩ := am_at_obj hat (show (h.2.2.1 bb).1 = ci by have := hcat.2.2; omega) hci
        have hcl := (hK.1.1 ci _ (am_clsx ci hci)).2.1
        have hpv : PreV s H (am_mi mi').2.1.cls (am_ad base b adK bb) (va_Pc ((Value.ref bb :: (st.take na).reverse).map (am_cv (am_ad base b adK))) (am_Bs D cA base b Ls xs adK adV h)) ((st.take na).reverse.map (am_cv (am_ad base b adK))) :=
          ⟨am_blind, ⟨cell, g1, by rw [g3]; rfl, by rw [g2, ← hRX]; exact hcl⟩, fun U hU hW => am_pre (av := (Value.ref bb :: (st.take na).reverse).map (am_cv (am_ad base b adK))) hK hX hsz hH hS U hU hW⟩
        have hcw := And.intro (am_cwB (R := R) (s := s) (args := args) (own := (am_mi mi).1) (index := ix) (mc := h'.1 - h.1) (ms := h'.2.1 - h.2.1) (rm := am_rm d' (h'.1 - h.1) (h'.2.1 - h.2.1)) na hts (am_goodC hword) rfl rfl rfl (am_wd_hts hts q2) (am_wd_hts hts q1) hdd hR) (And.intro (am_wd_hts hts q4) (am_wd_hts hts q5))
        exact va_runV (rest := r.map (am_cv (am_ad base b adK))) hfix hMt hcw hpv rfl hargs rfl (hst _) (lv_room hcs) hdec hroom
    · cases hc2
  · cases hc2
set_option maxHeartbeats 1000000 in
theorem am_s_k4 {run : Nat → am_L → am_H → Option (Option Value × am_H)} {d' ix : Nat} {tl0 : List Nat} (C : am_Cx p s m args meth c mi) (hK : am_K D cA s) (hX : am_X base b Ls xs adK adV s s.heap) (hsz : base ≤ s.heap.size) (hdec : decode (am_mi mi).2.2.1 pc = .ok (.invokevirtual ix, 3)) (hokc : am_okc (am_mi mi).1 ix (4 :: tl0) = true)
    (hc : am_call run (4 :: tl0) st h = some (st', h')) (hml : ls.length = (am_mi mi).2.2.2.1) (hn0 : n0 ≤ h.1) (hs0 : s0 ≤ h.2.1) (hrc : h'.1 - n0 ≤ R.cells) (hrs : h'.2.1 - s0 ≤ R.slots) (hfr : d' + 7 ≤ R.frames) (hlo : (d' + 7) * 40 ≤ R.locals)
    (hmono : ∀ mi' ls' rv h1, run mi' ls' h = some (rv, h1) → h.1 ≤ h1.1 ∧ h.2.1 ≤ h1.2.1) (hrun : ∀ mi' as rv h1, run mi' (am_ent (am_mi mi').2.2.2.1 as) h = some (rv, h1) → (am_ent1 as).length ≤ (am_mi mi').2.2.2.1 → am_pl (am_mi mi').2.1 = true → (am_mi mi').1 = (am_mi mi').2.1.cls → h1.1 ≤ h'.1 → am_HP Ls xs h → am_Mt l D cA base b Ls xs adK adV d' mi' as h rv h1)
    (hP0 : am_HP Ls xs h) (k : am_St p l e R s m args below meth c Qz D cA base (am_ad base b adK) Ls xs n0 s0 (pc + 3) ls st' h') : am_St p l e R s m args below meth c Qz D cA base (am_ad base b adK) Ls xs n0 s0 pc ls st h := by
  obtain ⟨hx, hb, hmlc, hown, hts, hin⟩ := C
  rcases tl0 with _ | ⟨mi', _ | ⟨na, _ | ⟨ml, _ | ⟨ci, _ | ⟨w1, _ | ⟨w2, _ | ⟨w3, _ | ⟨w4, _ | ⟨w5, tl⟩⟩⟩⟩⟩⟩⟩⟩⟩
  · cases hokc
  · cases hokc
  · cases hokc
  · cases hokc
  · cases hokc
  · cases hokc
  · cases hokc
  · cases hokc
  · simp [am_okc] at hokc
  simp only [am_okc, Bool.and_eq_true, decide_eq_true_eq] at hokc
  obtain ⟨⟨⟨⟨⟨⟨⟨⟨⟨⟨hmi, hM1⟩, hM4⟩, hdesc⟩, hc1⟩, hcn2⟩, hpl⟩, hml2⟩, q2⟩, q3⟩, hq⟩ := hokc
  obtain ⟨⟨⟨⟨q1, q4⟩, q5⟩, hci⟩, hRX⟩ := hq
  subst hM4
  have hc2 : (if st.length < na then none else match st.drop na with
    | .ref bb :: r => if am_cat r ≤ 8 ∧ (am_ent1 (.ref bb :: (st.take na).reverse)).length ≤ (am_mi mi').2.2.2.1 ∧ ((4 : Nat) = 0 ∨ (4 : Nat) = 1 ∨ (h.2.2.1 bb).1 = ci) then (match run mi' (am_ent (am_mi mi').2.2.2.1 (.ref bb :: (st.take na).reverse)) h with
      | some (v, h9) => some (v.toList ++ r, h9)
      | none => none) else none
    | _ => none) = some (st', h') := hc
  split at hc2
  · cases hc2
  rename_i hlen
  split at hc2
  · rename_i bb r hdrop
    split at hc2
    · rename_i hcat
      cases hr : run mi' (am_ent (am_mi mi').2.2.2.1 (.ref bb :: (st.take na).reverse)) h with
      | none =>
        rw [hr] at hc2
        cases hc2
      | some q =>
        obtain ⟨rv, h1⟩ := q
        rw [hr] at hc2
        have hc3 : some (rv.toList ++ r, h1) = some (st', h') := hc2
        have hc4 := Option.some.inj hc3
        obtain ⟨rfl, rfl⟩ : st' = rv.toList ++ r ∧ h' = h1 := ⟨(congrArg Prod.fst hc4).symm, (congrArg Prod.snd hc4).symm⟩
        have hm := hmono _ _ _ _ hr
        have hMt := hrun mi' (.ref bb :: (st.take na).reverse) rv h' hr hcat.2.1 hpl hM1 (Nat.le_refl _) hP0
        have hword : Cond.code (am_mi mi').2.1 (am_mi mi').2.2.1 (am_mi mi').2.2.2.1 (am_mi mi').2.2.2.2.1 ∈ am_W := am_cw _ q3 hmi
        have hargs : ((st.take na).reverse.map (am_cv (am_ad base b adK))).length = na := by
          rw [List.length_map, List.length_reverse, List.length_take]
          omega
        have hR : (am_rm d' (h'.1 - h.1) (h'.2.1 - h.2.1)).frames + 1 ≤ R.frames ∧ 8 + ((am_mi mi').2.2.2.1 + 11) + (am_rm d' (h'.1 - h.1) (h'.2.1 - h.2.1)).locals ≤ R.locals := by
          refine ⟨hfr, ?_⟩
          show 8 + ((am_mi mi').2.2.2.1 + 11) + (d' + 6) * 40 ≤ R.locals
          omega
        have hroom : h.1 - n0 + (h'.1 - h.1) ≤ R.cells ∧ h.2.1 - s0 + (h'.2.1 - h.2.1) ≤ R.slots := by omega
        have hst : ∀ ad : Nat → Nat, st.map (am_cv ad) = ((st.take na).reverse.map (am_cv ad)).reverse ++ .ref (ad bb) :: r.map (am_cv ad) := by
          intro ad
          rw [am_take ad st na, hdrop]
          rfl
        refine am_s_fin (rest := r) (rv := rv) (a := (Value.ref (am_ad base b adK bb) :: (st.take na).reverse.map (am_cv (am_ad base b adK))).toArray) (fun H locs lsC hH hS hl => ?_) hm hn0 hs0 k
        have hcs : ((r.map (am_cv (am_ad base b adK))).map fun v => v.category).sum ≤ 8 := by rw [am_cat_map]; exact hcat.1
        have hfix : CallFix p m c (am_mi mi).2.2.1 lsC.size s args am_W (am_mi mi).1 := ⟨hx, hb, by rw [hmlc, hl.1, hml], hown, hts⟩
        have hdd : (am_mi mi').2.1.cls ≠ "java/lang/invoke/MethodHandle" ∧ (am_mi mi').2.1.cls ≠ "java/lang/invoke/VarHandle" ∧ (parseMethodDescriptor (am_mi mi').2.1.desc).map (fun d => d.parameters.length) = some na := ⟨hc1, hcn2, hdesc⟩
        obtain ⟨hA, hat⟩ := hH.2 bb (by have := hcat.2.2; omega)
        obtain ⟨cell, g1, g2, g3, -⟩ := am_at_obj hat (show (h.2.2.1 bb).1 = ci by have := hcat.2.2; omega) hci
        have hcl := (hK.1.1 ci _ (am_clsx ci hci)).2.1
        have hpv : PreV s H (am_mi mi').2.1.cls (am_ad base b adK bb) (va_Pc ((Value.ref bb :: (st.take na).reverse).map (am_cv (am_ad base b adK))) (am_Bs D cA base b Ls xs adK adV h)) ((st.take na).reverse.map (am_cv (am_ad base b adK))) :=
          ⟨am_blind, ⟨cell, g1, by rw [g3]; rfl, by rw [g2, ← hRX]; exact hcl⟩, fun U hU hW => am_pre (av := (Value.ref bb :: (st.take na).reverse).map (am_cv (am_ad base b adK))) hK hX hsz hH hS U hU hW⟩
        have hcw := am_cwN (R := R) (s := s) (args := args) (own := (am_mi mi).1) (index := ix) (host := RX10) (mc := h'.1 - h.1) (ms := h'.2.1 - h.2.1) (rm := am_rm d' (h'.1 - h.1) (h'.2.1 - h.2.1)) na hts (am_goodC hword) rfl rfl rfl (am_wd_hts hts q1) (am_wd_hts hts q2) hdd hR
        exact va_runVN (rest := r.map (am_cv (am_ad base b adK))) hfix hMt ⟨hcw, am_wd_hts hts q4, am_wd_hts hts q5⟩ hpv rfl hargs rfl (hst _) (lv_room hcs) hdec hroom
    · cases hc2
  · cases hc2
set_option maxHeartbeats 1000000 in
theorem am_s_k5 {run : Nat → am_L → am_H → Option (Option Value × am_H)} {d' ix : Nat} {tl0 : List Nat} (C : am_Cx p s m args meth c mi) (hK : am_K D cA s) (hX : am_X base b Ls xs adK adV s s.heap) (hsz : base ≤ s.heap.size) (hdec : decode (am_mi mi).2.2.1 pc = .ok (.invokestatic ix, 3)) (hokc : am_okc (am_mi mi).1 ix (5 :: tl0) = true)
    (hc : am_call run (5 :: tl0) st h = some (st', h')) (hml : ls.length = (am_mi mi).2.2.2.1) (hn0 : n0 ≤ h.1) (hs0 : s0 ≤ h.2.1) (hrc : h'.1 - n0 ≤ R.cells) (hrs : h'.2.1 - s0 ≤ R.slots) (hfr : d' + 7 ≤ R.frames) (hlo : (d' + 7) * 40 ≤ R.locals)
    (hmono : ∀ mi' ls' rv h1, run mi' ls' h = some (rv, h1) → h.1 ≤ h1.1 ∧ h.2.1 ≤ h1.2.1) (hrun : ∀ mi' as rv h1, run mi' (am_ent (am_mi mi').2.2.2.1 as) h = some (rv, h1) → (am_ent1 as).length ≤ (am_mi mi').2.2.2.1 → am_pl (am_mi mi').2.1 = true → (am_mi mi').1 = (am_mi mi').2.1.cls → h1.1 ≤ h'.1 → am_HP Ls xs h → am_Mt l D cA base b Ls xs adK adV d' mi' as h rv h1)
    (hP0 : am_HP Ls xs h) (k : am_St p l e R s m args below meth c Qz D cA base (am_ad base b adK) Ls xs n0 s0 (pc + 3) ls st' h') : am_St p l e R s m args below meth c Qz D cA base (am_ad base b adK) Ls xs n0 s0 pc ls st h := by
  obtain ⟨hx, hb, hmlc, hown, hts, hin⟩ := C
  rcases tl0 with _ | ⟨mi', _ | ⟨na, _ | ⟨ml, _ | ⟨ci, _ | ⟨w1, _ | ⟨w2, _ | ⟨w3, _ | ⟨w4, tl⟩⟩⟩⟩⟩⟩⟩⟩
  · cases hokc
  · cases hokc
  · cases hokc
  · cases hokc
  · cases hokc
  · cases hokc
  · cases hokc
  · cases hokc
  simp only [am_okc, Bool.and_eq_true, decide_eq_true_eq] at hokc
  obtain ⟨⟨⟨⟨⟨⟨⟨⟨⟨⟨hmi, hM1⟩, hM4⟩, hdesc⟩, hc1⟩, hcn2⟩, hpl⟩, hml2⟩, q2⟩, q3⟩, hq⟩ := hokc
  obtain ⟨q1, q4⟩ := hq
  subst hM4
  have hc2 : (if st.length < na then none else if am_cat (st.drop na) ≤ 8 ∧ (am_ent1 (st.take na).reverse).length ≤ (am_mi mi').2.2.2.1 then (match run mi' (am_ent (am_mi mi').2.2.2.1 (st.take na).reverse) h with
    | some (v, h9) => some (v.toList ++ st.drop na, h9)
    | none => none) else none) = some (st', h') := hc
  split at hc2
  · cases hc2
  rename_i hlen
  split at hc2
  · rename_i hcat
    cases hr : run mi' (am_ent (am_mi mi').2.2.2.1 (st.take na).reverse) h with
    | none =>
      rw [hr] at hc2
      cases hc2
    | some q =>
      obtain ⟨rv, h1⟩ := q
      rw [hr] at hc2
      have hc3 : some (rv.toList ++ (st.drop na), h1) = some (st', h') := hc2
      have hc4 := Option.some.inj hc3
      obtain ⟨rfl, rfl⟩ : st' = rv.toList ++ (st.drop na) ∧ h' = h1 := ⟨(congrArg Prod.fst hc4).symm, (congrArg Prod.snd hc4).symm⟩
      have hm := hmono _ _ _ _ hr
      have hMt := hrun mi' (st.take na).reverse rv h' hr hcat.2 hpl hM1 (Nat.le_refl _) hP0
      have hword : Cond.code (am_mi mi').2.1 (am_mi mi').2.2.1 (am_mi mi').2.2.2.1 (am_mi mi').2.2.2.2.1 ∈ am_W := am_cw _ q3 hmi
      have hargs : ((st.take na).reverse.map (am_cv (am_ad base b adK))).length = na := by
        rw [List.length_map, List.length_reverse, List.length_take]
        omega
      have hR : (am_rm d' (h'.1 - h.1) (h'.2.1 - h.2.1)).frames + 1 ≤ R.frames ∧ 8 + ((am_mi mi').2.2.2.1 + 11) + (am_rm d' (h'.1 - h.1) (h'.2.1 - h.2.1)).locals ≤ R.locals := by
        refine ⟨hfr, ?_⟩
        show 8 + ((am_mi mi').2.2.2.1 + 11) + (d' + 6) * 40 ≤ R.locals
        omega
      have hroom : h.1 - n0 + (h'.1 - h.1) ≤ R.cells ∧ h.2.1 - s0 + (h'.2.1 - h.2.1) ≤ R.slots := by omega
      have hst : ∀ ad : Nat → Nat, st.map (am_cv ad) = ((st.take na).reverse.map (am_cv ad)).reverse ++ (st.drop na).map (am_cv ad) := fun ad => am_take ad st na
      refine am_s_fin (rest := (st.drop na)) (rv := rv) (a := ((st.take na).reverse.map (am_cv (am_ad base b adK))).toArray) (fun H locs lsC hH hS hl => ?_) hm hn0 hs0 k
      have hcs : (((st.drop na).map (am_cv (am_ad base b adK))).map fun v => v.category).sum ≤ 8 := by rw [am_cat_map]; exact hcat.1
      have hfix : CallFix p m c (am_mi mi).2.2.1 lsC.size s args am_W (am_mi mi).1 := ⟨hx, hb, by rw [hmlc, hl.1, hml], hown, hts⟩
      have hdd : (am_mi mi').2.1.cls ≠ "java/lang/invoke/MethodHandle" ∧ (am_mi mi').2.1.cls ≠ "java/lang/invoke/VarHandle" ∧ (parseMethodDescriptor (am_mi mi').2.1.desc).map (fun d => d.parameters.length) = some na := ⟨hc1, hcn2, hdesc⟩
      have hps : PreS s H (va_Pc ((st.take na).reverse.map (am_cv (am_ad base b adK))) (am_Bs D cA base b Ls xs adK adV h)) ((st.take na).reverse.map (am_cv (am_ad base b adK))) :=
        ⟨am_blind, fun U hU hW => am_pre hK hX hsz hH hS U hU hW⟩
      have hcw := And.intro (am_cwB (R := R) (s := s) (args := args) (own := (am_mi mi).1) (index := ix) (mc := h'.1 - h.1) (ms := h'.2.1 - h.2.1) (rm := am_rm d' (h'.1 - h.1) (h'.2.1 - h.2.1)) na hts (am_goodC hword) rfl rfl rfl (am_wd_hts hts q2) (am_wd_hts hts q1) hdd hR) (am_wd_hts hts q4)
      exact va_runS (rest := (st.drop na).map (am_cv (am_ad base b adK))) hfix hMt hcw hps rfl hargs rfl (hst _) (lv_room hcs) hdec hroom
  · cases hc2
set_option maxHeartbeats 1000000 in
theorem am_s_k6 {run : Nat → am_L → am_H → Option (Option Value × am_H)} {d' ix : Nat} {tl0 : List Nat} (C : am_Cx p s m args meth c mi) (hK : am_K D cA s) (hX : am_X base b Ls xs adK adV s s.heap) (hsz : base ≤ s.heap.size) (hdec : decode (am_mi mi).2.2.1 pc = .ok (.invokestatic ix, 3)) (hokc : am_okc (am_mi mi).1 ix (6 :: tl0) = true)
    (hc : am_call run (6 :: tl0) st h = some (st', h')) (hml : ls.length = (am_mi mi).2.2.2.1) (hn0 : n0 ≤ h.1) (hs0 : s0 ≤ h.2.1) (hrc : h'.1 - n0 ≤ R.cells) (hrs : h'.2.1 - s0 ≤ R.slots) (hfr : d' + 7 ≤ R.frames) (hlo : (d' + 7) * 40 ≤ R.locals)
    (hmono : ∀ mi' ls' rv h1, run mi' ls' h = some (rv, h1) → h.1 ≤ h1.1 ∧ h.2.1 ≤ h1.2.1) (hrun : ∀ mi' as rv h1, run mi' (am_ent (am_mi mi').2.2.2.1 as) h = some (rv, h1) → (am_ent1 as).length ≤ (am_mi mi').2.2.2.1 → am_pl (am_mi mi').2.1 = true → (am_mi mi').1 = (am_mi mi').2.1.cls → h1.1 ≤ h'.1 → am_HP Ls xs h → am_Mt l D cA base b Ls xs adK adV d' mi' as h rv h1)
    (hP0 : am_HP Ls xs h) (k : am_St p l e R s m args below meth c Qz D cA base (am_ad base b adK) Ls xs n0 s0 (pc + 3) ls st' h') : am_St p l e R s m args below meth c Qz D cA base (am_ad base b adK) Ls xs n0 s0 pc ls st h := by
  obtain ⟨hx, hb, hmlc, hown, hts, hin⟩ := C
  rcases tl0 with _ | ⟨mi', _ | ⟨na, _ | ⟨ml, _ | ⟨ci, _ | ⟨w1, _ | ⟨w2, _ | ⟨w3, _ | ⟨w4, tl⟩⟩⟩⟩⟩⟩⟩⟩
  · cases hokc
  · cases hokc
  · cases hokc
  · cases hokc
  · cases hokc
  · cases hokc
  · cases hokc
  · cases hokc
  simp only [am_okc, Bool.and_eq_true, decide_eq_true_eq] at hokc
  obtain ⟨⟨⟨⟨⟨⟨⟨⟨⟨⟨hmi, hM1⟩, hM4⟩, hdesc⟩, hc1⟩, hcn2⟩, hpl⟩, hml2⟩, q2⟩, q3⟩, hq⟩ := hokc
  obtain ⟨q1, q4⟩ := hq
  subst hM4
  have hc2 : (if st.length < na then none else if am_cat (st.drop na) ≤ 8 ∧ (am_ent1 (st.take na).reverse).length ≤ (am_mi mi').2.2.2.1 then (match run mi' (am_ent (am_mi mi').2.2.2.1 (st.take na).reverse) h with
    | some (v, h9) => some (v.toList ++ st.drop na, h9)
    | none => none) else none) = some (st', h') := hc
  split at hc2
  · cases hc2
  rename_i hlen
  split at hc2
  · rename_i hcat
    cases hr : run mi' (am_ent (am_mi mi').2.2.2.1 (st.take na).reverse) h with
    | none =>
      rw [hr] at hc2
      cases hc2
    | some q =>
      obtain ⟨rv, h1⟩ := q
      rw [hr] at hc2
      have hc3 : some (rv.toList ++ (st.drop na), h1) = some (st', h') := hc2
      have hc4 := Option.some.inj hc3
      obtain ⟨rfl, rfl⟩ : st' = rv.toList ++ (st.drop na) ∧ h' = h1 := ⟨(congrArg Prod.fst hc4).symm, (congrArg Prod.snd hc4).symm⟩
      have hm := hmono _ _ _ _ hr
      have hMt := hrun mi' (st.take na).reverse rv h' hr hcat.2 hpl hM1 (Nat.le_refl _) hP0
      have hword : Cond.code (am_mi mi').2.1 (am_mi mi').2.2.1 (am_mi mi').2.2.2.1 (am_mi mi').2.2.2.2.1 ∈ am_W := am_cw _ q3 hmi
      have hargs : ((st.take na).reverse.map (am_cv (am_ad base b adK))).length = na := by
        rw [List.length_map, List.length_reverse, List.length_take]
        omega
      have hR : (am_rm d' (h'.1 - h.1) (h'.2.1 - h.2.1)).frames + 1 ≤ R.frames ∧ 8 + ((am_mi mi').2.2.2.1 + 11) + (am_rm d' (h'.1 - h.1) (h'.2.1 - h.2.1)).locals ≤ R.locals := by
        refine ⟨hfr, ?_⟩
        show 8 + ((am_mi mi').2.2.2.1 + 11) + (d' + 6) * 40 ≤ R.locals
        omega
      have hroom : h.1 - n0 + (h'.1 - h.1) ≤ R.cells ∧ h.2.1 - s0 + (h'.2.1 - h.2.1) ≤ R.slots := by omega
      have hst : ∀ ad : Nat → Nat, st.map (am_cv ad) = ((st.take na).reverse.map (am_cv ad)).reverse ++ (st.drop na).map (am_cv ad) := fun ad => am_take ad st na
      refine am_s_fin (rest := (st.drop na)) (rv := rv) (a := ((st.take na).reverse.map (am_cv (am_ad base b adK))).toArray) (fun H locs lsC hH hS hl => ?_) hm hn0 hs0 k
      have hcs : (((st.drop na).map (am_cv (am_ad base b adK))).map fun v => v.category).sum ≤ 8 := by rw [am_cat_map]; exact hcat.1
      have hfix : CallFix p m c (am_mi mi).2.2.1 lsC.size s args am_W (am_mi mi).1 := ⟨hx, hb, by rw [hmlc, hl.1, hml], hown, hts⟩
      have hdd : (am_mi mi').2.1.cls ≠ "java/lang/invoke/MethodHandle" ∧ (am_mi mi').2.1.cls ≠ "java/lang/invoke/VarHandle" ∧ (parseMethodDescriptor (am_mi mi').2.1.desc).map (fun d => d.parameters.length) = some na := ⟨hc1, hcn2, hdesc⟩
      have hps : PreS s H (va_Pc ((st.take na).reverse.map (am_cv (am_ad base b adK))) (am_Bs D cA base b Ls xs adK adV h)) ((st.take na).reverse.map (am_cv (am_ad base b adK))) :=
        ⟨am_blind, fun U hU hW => am_pre hK hX hsz hH hS U hU hW⟩
      have hcw := am_cwN (R := R) (s := s) (args := args) (own := (am_mi mi).1) (index := ix) (host := RX10) (mc := h'.1 - h.1) (ms := h'.2.1 - h.2.1) (rm := am_rm d' (h'.1 - h.1) (h'.2.1 - h.2.1)) na hts (am_goodC hword) rfl rfl rfl (am_wd_hts hts q1) (am_wd_hts hts q2) hdd hR
      exact va_runSN (rest := (st.drop na).map (am_cv (am_ad base b adK))) hfix hMt ⟨hcw, am_wd_hts hts q4, trivial⟩ hps rfl hargs rfl (hst _) (lv_room hcs) hdec hroom
  · cases hc2
end AMY
