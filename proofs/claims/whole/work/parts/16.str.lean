/-! length AND charAt OF THE STRING CONSTANTS -/
def am_rx (d : Nat) : Room := { frames := d, cells := 0, slots := 0, locals := d * 40 }
def am_Px (base b Ls : Nat) (xs : Nat → Int32) (adK adV : Nat → Nat) (U : State) : Prop := am_X base b Ls xs adK adV U U.heap ∧ base ≤ U.heap.size
def am_Qx (rv : Option Value) : Array Value → State → Outcome → State → Prop := fun _ st oc t => oc = .returned rv ∧ t.heap = st.heap
theorem am_blindx {base b Ls : Nat} {xs : Nat → Int32} {adK adV : Nat → Nat} {av : List Value} : FrameBlind (va_Pc av (am_Px base b Ls xs adK adV)) := by
  intro a U g mk q
  obtain ⟨q1, q2, q3⟩ := q
  exact ⟨q1, am_X.same (s := U) (U := U.calling g mk a) rfl q2, q3⟩
section AMQ
variable {p : Program} {l : Launch} {e : Env} {R : Room} {s : State} {m : MethodId} {args : Array Value} {below : List Frame} {meth : Method} {c : Code} {H : Heap} {locs : List Loc} {cells slots : Nat} {Qz : State → Prop}
theorem am_afterx {pc : Nat} {lsC : Array Slot} {st0 rest : List Value} {rv : Option Value} {a : Array Value} (hr : va_Run p l e R s m args below meth c H locs cells slots 0 0 (F0 m pc lsC st0) rest (am_Qx rv a) (fun _ => False))
    (kk : W p l e R s m args below meth c H locs cells slots Qz (F0 m (pc + 3) lsC (rv.toList ++ rest))) : W p l e R s m args below meth c H locs cells slots Qz (F0 m pc lsC st0) := by
  intro T hT X
  obtain ⟨v, st₀, t, T', L, h0, X', hL, e1, e2, ⟨hv, hh⟩, st⟩ := hr T hT X
  cases hv
  have eL : L = [] := by
    cases L with
    | nil => rfl
    | cons q L => exact (hL q List.mem_cons_self).elim
  subst eL
  rw [List.append_nil] at X'
  obtain ⟨t2, a1, b1⟩ := kk T' (by rw [e1, hh, h0]) X'
  exact ⟨t2, st t2 a1, b1⟩
theorem am_prex {base b Ls : Nat} {xs : Nat → Int32} {adK adV : Nat → Nat} {av : List Value} (hX : am_X base b Ls xs adK adV s s.heap) (hsz : base ≤ s.heap.size) (hS : va_S (fun q => base ≤ q) s.heap H locs) : ∀ U : State, U.heap = H → s.WarmedH U.vm → va_Pc av (am_Px base b Ls xs adK adV) av.toArray U := by
  intro U hU hW
  have hX1 : am_X base b Ls xs adK adV s H := hX.kept (Nat.lt_of_lt_of_le hX.1.2 hsz) hS.2.1
  refine ⟨rfl, ?_, by rw [hU]; exact Nat.le_trans hsz hS.1⟩
  rw [hU]
  exact hX1.warm hW
end AMQ
theorem am_metx {l : Launch} {base b Ls : Nat} {xs : Nat → Int32} {adK adV : Nat → Nat} {y : MethodName} {cc : ByteArray} {ml d : Nat} {rt : Option FieldType} {av : List Value} {rv : Option Value} (hpl : plainName y.cls = true) (hml : (lg_sl av).length ≤ ml)
    (body : ∀ (p : Program) (e : Env) (s : State) (m : MethodId) (below : List Frame) (meth : Method) (c : Code) (lsC : Array Slot), p.tables.exec = Jvm.exec → c.code = cc → meth.sig.returnType = rt → s.vm.findClass y.cls = some m.cls → (∀ w ∈ am_W, w.before av.toArray s = true) → c.maxLocals = ml → meth.locks = false → am_X base b Ls xs adK adV s s.heap → base ≤ s.heap.size → lv_has lsC ml (lv_args 0 av) →
      W p l e (am_rx d) s m av.toArray below meth c s.heap [] 0 0 (MQ below (am_Qx rv) av.toArray s 0 0 (fun _ => False)) (F0 m 0 lsC [])) :
    Met l y (Cond.code y cc ml rt :: am_W) (am_rx d) (va_Pc av (am_Px base b Ls xs adK adV)) (am_Qx rv) 0 0 (fun _ => False) := by
  refine Met.ofW (cc := cc) (maxL := ml) (ret := rt) hpl rfl ?_
  intro p e s m args below meth c s₁ B hmlc hv
  obtain ⟨rfl, hX, hsz⟩ := hv
  have hts0 := atoms_spec (ws := Cond.code y cc ml rt :: am_W) B.pre
  rw [lg_entry_eq]
  exact body p e s m below meth c _ B.exec B.bytes B.returns (findClass_of_methodNamed B.named) (fun w hw => hts0 w (List.mem_cons_of_mem _ hw)) hmlc B.notSynchronized hX hsz (lv_entry av hml)
section AMQ2
variable {l : Launch} {base b Ls : Nat} {xs : Nat → Int32} {adK adV : Nat → Nat}
theorem am_wdm {i : Nat} {w : Cond} (h : am_wd i w = true) : w ∈ am_W := am_wd_in h
-- Preconditions.checkIndex(i, n, f), i within
theorem am_ci1 {i n : Int32} {fv : Value} (h1 : ¬ i < 0) (h2 : i < n) (hf : fv.category = 1) : Met l yJ3_checkIndex_8e157 (Cond.code yJ3_checkIndex_8e157 cJ3_checkIndex_8e157 3 (some .int) :: am_W) (am_rx 0) (va_Pc [.int i, .int n, fv] (am_Px base b Ls xs adK adV)) (am_Qx (some (.int i))) 0 0 (fun _ => False) := by
  refine am_metx (by decide) (by cases fv <;> first | exact Nat.le_refl 3 | exact absurd hf (by simp [Value.category])) ?_
  intro p e s m below meth c lsC hx hb hr hown hts hml hlk hX hsz hl
  have d0 : decode cJ3_checkIndex_8e157 0 = .ok (.iload_n 0, 1) := by decide +kernel
  have d1 : decode cJ3_checkIndex_8e157 1 = .ok (.ifCond .lt 8, 3) := by decide +kernel
  have d4 : decode cJ3_checkIndex_8e157 4 = .ok (.iload_n 0, 1) := by decide +kernel
  have d5 : decode cJ3_checkIndex_8e157 5 = .ok (.iload_n 1, 1) := by decide +kernel
  have d6 : decode cJ3_checkIndex_8e157 6 = .ok (.if_icmp .lt 10, 3) := by decide +kernel
  have d16 : decode cJ3_checkIndex_8e157 16 = .ok (.iload_n 0, 1) := by decide +kernel
  have d17 : decode cJ3_checkIndex_8e157 17 = .ok (.ireturn, 1) := by decide +kernel
  have l0 := lv_at hl 0 (i := 0) (v := .int i) rfl
  have l1 := lv_at hl 1 (i := 1) (v := .int n) rfl
  refine lv_iload_n hx hb d0 rfl l0 ?_
  refine lv_if_lt (tgt := 9) hx hb d1 (by decide) (fun q => absurd q h1) (fun _ => ?_)
  refine lv_iload_n hx hb d4 rfl l0 ?_
  refine lv_iload_n hx hb d5 rfl l1 ?_
  refine lv_icmp_lt (tgt := 16) hx hb d6 (by decide) (fun _ => ?_) (fun q => absurd h2 q)
  refine lv_iload_n hx hb d16 rfl l0 ?_
  exact W.iret hx hb hr (fun t ht hW => ⟨rfl, ht⟩) (fun q hq => by cases hq) d17 hlk
-- String.checkIndex(i, n)
theorem am_ci2 {i n : Int32} (h1 : ¬ i < 0) (h2 : i < n) : Met l yJ0_checkIndex_df160 (Cond.code yJ0_checkIndex_df160 cJ0_checkIndex_df160 2 none :: am_W) (am_rx 1) (va_Pc [.int i, .int n] (am_Px base b Ls xs adK adV)) (am_Qx none) 0 0 (fun _ => False) := by
  refine am_metx (by decide) (Nat.le_refl 2) ?_
  intro p e s m below meth c lsC hx hb hr hown hts hml hlk hX hsz hl
  have d0 : decode cJ0_checkIndex_df160 0 = .ok (.iload_n 0, 1) := by decide +kernel
  have d1 : decode cJ0_checkIndex_df160 1 = .ok (.iload_n 1, 1) := by decide +kernel
  have d2 : decode cJ0_checkIndex_df160 2 = .ok (.getstatic 1053, 3) := by decide +kernel
  have d5 : decode cJ0_checkIndex_df160 5 = .ok (.invokestatic 1059, 3) := by decide +kernel
  have d8 : decode cJ0_checkIndex_df160 8 = .ok (.pop, 1) := by decide +kernel
  have d9 : decode cJ0_checkIndex_df160 9 = .ok (.return_, 1) := by decide +kernel
  have w1 : Cond.fieldLink RJ0 1053 "jdk/internal/util/Preconditions" "SIOOBE_FORMATTER" "Ljava/util/function/BiFunction;" ∈ am_W := am_wdm (i := 771) (by decide +kernel)
  have w2 : Cond.methodLink RJ0 1059 yJ3_checkIndex_8e157 ∈ am_W := am_wdm (i := 773) (by decide +kernel)
  have w3 : Cond.static yJ3_checkIndex_8e157 ∈ am_W := am_wdm (i := 774) (by decide +kernel)
  have w4 : Cond.initialized "jdk/internal/util/Preconditions" ∈ am_W := am_wdm (i := 92) (by decide +kernel)
  have w5 : Cond.code yJ3_checkIndex_8e157 cJ3_checkIndex_8e157 3 (some .int) ∈ am_W := am_wdm (i := 775) (by decide +kernel)
  have l0 := lv_at hl 0 (i := 0) (v := .int i) rfl
  have l1 := lv_at hl 1 (i := 1) (v := .int n) rfl
  have hS : va_S (fun q => base ≤ q) s.heap s.heap [] := va_S.rf
  refine lv_iload_n hx hb d0 rfl l0 ?_
  refine lv_iload_n hx hb d1 rfl l1 ?_
  have go : ∀ fv : Value, fv.category = 1 → W p l e (am_rx 1) s m [Value.int i, Value.int n].toArray below meth c s.heap [] 0 0 (MQ below (am_Qx none) [Value.int i, Value.int n].toArray s 0 0 (fun _ => False)) (F0 m 5 lsC (fv :: .int n :: .int i :: [])) := by
    intro fv hf
    refine am_afterx (rv := some (.int i)) (rest := []) (va_runS (As := [.int i, .int n, fv]) ⟨hx, hb, rfl, hown, hts⟩ (am_ci1 h1 h2 hf) ⟨am_cwB 3 hts (am_goodC w5) rfl rfl rfl (hts _ w4) (hts _ w2) ⟨by decide, by decide, by decide +kernel⟩ ⟨by decide, by decide⟩, hts _ w3⟩ ⟨am_blindx, fun U hU hW => am_prex hX hsz hS U hU hW⟩ rfl rfl (by rw [hl.1, hml]) rfl (lv_room (by decide)) d5 ⟨Nat.le_refl _, Nat.le_refl _⟩) ?_
    refine lv_pop hx hb d8 rfl ?_
    exact W.vret hx hb hr (fun t ht hW => ⟨rfl, ht⟩) (fun q hq => by cases hq) d9 hlk
  rcases hX.2.2.2.2 with hZ | ⟨t, hZ⟩
  · exact va_gets hx hb hZ hS hown (hts _ w1) (fun _ h => h) d2 (go .null rfl)
  · exact va_gets hx hb hZ hS hown (hts _ w1) (fun _ h => h) d2 (go (.ref t) rfl)
-- coder() and isLatin1()
theorem am_co {i : Nat} (hi : i < 21) : Met l yJ0_coder_7d493 (Cond.code yJ0_coder_7d493 cJ0_coder_7d493 1 (some .byte) :: am_W) (am_rx 0) (va_Pc [.ref (adK i)] (am_Px base b Ls xs adK adV)) (am_Qx (some (.int 0))) 0 0 (fun _ => False) := by
  refine am_metx (by decide) (by simp [lg_sl, Value.category]) ?_
  intro p e s m below meth c lsC hx hb hr hown hts hml hlk hX hsz hl
  have d0 : decode cJ0_coder_7d493 0 = .ok (.getstatic 38, 3) := by decide +kernel
  have d3 : decode cJ0_coder_7d493 3 = .ok (.ifCond .eq 10, 3) := by decide +kernel
  have d6 : decode cJ0_coder_7d493 6 = .ok (.aload_n 0, 1) := by decide +kernel
  have d7 : decode cJ0_coder_7d493 7 = .ok (.getfield 15, 3) := by decide +kernel
  have d10 : decode cJ0_coder_7d493 10 = .ok (.goto 4, 3) := by decide +kernel
  have d14 : decode cJ0_coder_7d493 14 = .ok (.ireturn, 1) := by decide +kernel
  have w1 : Cond.fieldLink RJ0 38 "java/lang/String" "COMPACT_STRINGS" "Z" ∈ am_W := am_wdm (i := 755) (by decide +kernel)
  have w2 : Cond.fieldLink RJ0 15 "java/lang/String" "coder" "B" ∈ am_W := am_wdm (i := 1921) (by decide +kernel)
  have l0 := lv_at hl 0 (i := 0) (v := .ref (adK i)) rfl
  have hS : va_S (fun q => base ≤ q) s.heap s.heap [] := va_S.rf
  refine va_gets hx hb hX.2.2.2.1 hS hown (hts _ w1) (fun _ h => h) d0 ?_
  refine lv_if_eq (tgt := 13) hx hb d3 (by decide) (fun q => absurd q (by decide)) (fun _ => ?_)
  refine lv_aload_n hx hb d6 rfl l0 ?_
  refine vk_getf hx hb (hX.2.1.1 i hi).2.1 hS hown (hts _ w2) (fun _ h => h) d7 ?_
  refine lv_goto (tgt := 14) hx hb d10 (by decide) ?_
  exact W.zret hx hb hr rfl (fun t ht hW => ⟨rfl, ht⟩) (fun q hq => by cases hq) d14 hlk
theorem am_la1 {i : Nat} (hi : i < 21) : Met l yJ0_isLatin1_aae02 (Cond.code yJ0_isLatin1_aae02 cJ0_isLatin1_aae02 1 (some .boolean) :: am_W) (am_rx 0) (va_Pc [.ref (adK i)] (am_Px base b Ls xs adK adV)) (am_Qx (some (.int 1))) 0 0 (fun _ => False) := by
  refine am_metx (by decide) (by simp [lg_sl, Value.category]) ?_
  intro p e s m below meth c lsC hx hb hr hown hts hml hlk hX hsz hl
  have d0 : decode cJ0_isLatin1_aae02 0 = .ok (.getstatic 38, 3) := by decide +kernel
  have d3 : decode cJ0_isLatin1_aae02 3 = .ok (.ifCond .eq 14, 3) := by decide +kernel
  have d6 : decode cJ0_isLatin1_aae02 6 = .ok (.aload_n 0, 1) := by decide +kernel
  have d7 : decode cJ0_isLatin1_aae02 7 = .ok (.getfield 15, 3) := by decide +kernel
  have d10 : decode cJ0_isLatin1_aae02 10 = .ok (.ifCond .ne 7, 3) := by decide +kernel
  have d13 : decode cJ0_isLatin1_aae02 13 = .ok (.iconst 1, 1) := by decide +kernel
  have d14 : decode cJ0_isLatin1_aae02 14 = .ok (.goto 4, 3) := by decide +kernel
  have d18 : decode cJ0_isLatin1_aae02 18 = .ok (.ireturn, 1) := by decide +kernel
  have w1 : Cond.fieldLink RJ0 38 "java/lang/String" "COMPACT_STRINGS" "Z" ∈ am_W := am_wdm (i := 755) (by decide +kernel)
  have w2 : Cond.fieldLink RJ0 15 "java/lang/String" "coder" "B" ∈ am_W := am_wdm (i := 1921) (by decide +kernel)
  have l0 := lv_at hl 0 (i := 0) (v := .ref (adK i)) rfl
  have hS : va_S (fun q => base ≤ q) s.heap s.heap [] := va_S.rf
  refine va_gets hx hb hX.2.2.2.1 hS hown (hts _ w1) (fun _ h => h) d0 ?_
  refine lv_if_eq (tgt := 17) hx hb d3 (by decide) (fun q => absurd q (by decide)) (fun _ => ?_)
  refine lv_aload_n hx hb d6 rfl l0 ?_
  refine vk_getf hx hb (hX.2.1.1 i hi).2.1 hS hown (hts _ w2) (fun _ h => h) d7 ?_
  refine lv_if_ne (tgt := 17) hx hb d10 (by decide) (fun q => absurd rfl q) (fun _ => ?_)
  refine lv_iconst (v := 1) hx hb d13 (by decide) ?_
  refine lv_goto (tgt := 18) hx hb d14 (by decide) ?_
  exact W.zret hx hb hr rfl (fun t ht hW => ⟨rfl, ht⟩) (fun q hq => by cases hq) d18 hlk
theorem am_sl2 : ∀ i : Nat, i < 21 → ((List.range 21).map am_sln).getD i 0 = am_sln i := by decide +kernel
theorem am_sl3 : ∀ i : Nat, i < 21 → am_sln i < 9 := by decide +kernel
theorem am_sl4 : ∀ i : Nat, i < 21 → ∀ k : Nat, k < am_sln i → (((((List.range 21).map am_bytes).getD i []).getD k 0 &&& 255).toUInt32 % 65536).toInt32 = am_sch i k ∧ ((am_stx i).toList.getD k ' ').toNat < 65536 := by decide +kernel
-- length()
theorem am_lenx {i : Nat} (hi : i < 21) : Met l yJ0_length_8abf5 (Cond.code yJ0_length_8abf5 cJ0_length_8abf5 1 (some .int) :: am_W) (am_rx 1) (va_Pc [.ref (adK i)] (am_Px base b Ls xs adK adV)) (am_Qx (some (.int (Int32.ofNat (am_sln i))))) 0 0 (fun _ => False) := by
  refine am_metx (by decide) (by simp [lg_sl, Value.category]) ?_
  intro p e s m below meth c lsC hx hb hr hown hts hml hlk hX hsz hl
  have d0 : decode cJ0_length_8abf5 0 = .ok (.aload_n 0, 1) := by decide +kernel
  have d1 : decode cJ0_length_8abf5 1 = .ok (.getfield 9, 3) := by decide +kernel
  have d4 : decode cJ0_length_8abf5 4 = .ok (.arraylength, 1) := by decide +kernel
  have d5 : decode cJ0_length_8abf5 5 = .ok (.aload_n 0, 1) := by decide +kernel
  have d6 : decode cJ0_length_8abf5 6 = .ok (.invokevirtual 335, 3) := by decide +kernel
  have d9 : decode cJ0_length_8abf5 9 = .ok (.ishr, 1) := by decide +kernel
  have d10 : decode cJ0_length_8abf5 10 = .ok (.ireturn, 1) := by decide +kernel
  have w1 : Cond.fieldLink RJ0 9 "java/lang/String" "value" "[B" ∈ am_W := am_wdm (i := 1920) (by decide +kernel)
  have w2 : Cond.methodLink RJ0 335 yJ0_coder_7d493 ∈ am_W := am_wdm (i := 751) (by decide +kernel)
  have w3 : Cond.instanceMethod yJ0_coder_7d493 ∈ am_W := am_wdm (i := 752) (by decide +kernel)
  have w4 : Cond.selects "java/lang/String" yJ0_coder_7d493 yJ0_coder_7d493 ∈ am_W := am_wdm (i := 753) (by decide +kernel)
  have w5 : Cond.initialized "java/lang/String" ∈ am_W := am_wdm (i := 90) (by decide +kernel)
  have w6 : Cond.code yJ0_coder_7d493 cJ0_coder_7d493 1 (some .byte) ∈ am_W := am_wdm (i := 754) (by decide +kernel)
  have l0 := lv_at hl 0 (i := 0) (v := .ref (adK i)) rfl
  have hS : va_S (fun q => base ≤ q) s.heap s.heap [] := va_S.rf
  refine lv_aload_n hx hb d0 rfl l0 ?_
  refine vk_getf hx hb (hX.2.1.1 i hi).2.2.1 hS hown (hts _ w1) (fun _ h => h) d1 ?_
  refine va_tlen hx hb (hX.2.1.1 i hi).2.2.2 hS (v := Int32.ofNat (am_sln i)) (by rw [am_sl2 i hi]) d4 ?_
  refine lv_aload_n hx hb d5 rfl l0 ?_
  refine am_afterx (rv := some (.int 0)) (rest := [.int (Int32.ofNat (am_sln i))]) (va_runV (As := []) ⟨hx, hb, rfl, hown, hts⟩ (am_co (base := base) (b := b) (Ls := Ls) (xs := xs) (adV := adV) hi) ⟨am_cwB 0 hts (am_goodC w6) rfl rfl rfl (hts _ w5) (hts _ w2) ⟨by decide, by decide, by decide +kernel⟩ ⟨by decide, by decide⟩, hts _ w3, hts _ w4⟩ ⟨am_blindx, vk_recv hX.2.1 hi hS, fun U hU hW => am_prex hX hsz hS U hU hW⟩ rfl rfl (by rw [hl.1, hml]) rfl (lv_room (Nat.le_of_ble_eq_true rfl)) d6 ⟨Nat.le_refl _, Nat.le_refl _⟩) ?_
  refine lv_ishr hx hb d9 ?_
  rw [sb_shr0]
  exact W.iret hx hb hr (fun t ht hW => ⟨rfl, ht⟩) (fun q hq => by cases hq) d10 hlk
-- StringLatin1.charAt(value, k)
theorem am_ch1 {i : Nat} (hi : i < 21) {k : Int32} (hk : ¬ (k < 0 ∨ am_sln i ≤ k.toNatClampNeg)) : Met l yJ1_charAt_3b067 (Cond.code yJ1_charAt_3b067 cJ1_charAt_3b067 2 (some .char) :: am_W) (am_rx 2) (va_Pc [.ref (adV i), .int k] (am_Px base b Ls xs adK adV)) (am_Qx (some (.int (am_sch i k.toNatClampNeg)))) 0 0 (fun _ => False) := by
  refine am_metx (by decide) (by simp [lg_sl, Value.category]) ?_
  intro p e s m below meth c lsC hx hb hr hown hts hml hlk hX hsz hl
  have d0 : decode cJ1_charAt_3b067 0 = .ok (.iload_n 1, 1) := by decide +kernel
  have d1 : decode cJ1_charAt_3b067 1 = .ok (.aload_n 0, 1) := by decide +kernel
  have d2 : decode cJ1_charAt_3b067 2 = .ok (.arraylength, 1) := by decide +kernel
  have d3 : decode cJ1_charAt_3b067 3 = .ok (.invokestatic 9, 3) := by decide +kernel
  have d6 : decode cJ1_charAt_3b067 6 = .ok (.aload_n 0, 1) := by decide +kernel
  have d7 : decode cJ1_charAt_3b067 7 = .ok (.iload_n 1, 1) := by decide +kernel
  have d8 : decode cJ1_charAt_3b067 8 = .ok (.baload, 1) := by decide +kernel
  have d9 : decode cJ1_charAt_3b067 9 = .ok (.sipush 255, 3) := by decide +kernel
  have d12 : decode cJ1_charAt_3b067 12 = .ok (.iand, 1) := by decide +kernel
  have d13 : decode cJ1_charAt_3b067 13 = .ok (.i2c, 1) := by decide +kernel
  have d14 : decode cJ1_charAt_3b067 14 = .ok (.ireturn, 1) := by decide +kernel
  have w2 : Cond.methodLink RJ1 9 yJ0_checkIndex_df160 ∈ am_W := am_wdm (i := 768) (by decide +kernel)
  have w3 : Cond.static yJ0_checkIndex_df160 ∈ am_W := am_wdm (i := 769) (by decide +kernel)
  have w4 : Cond.initialized "java/lang/String" ∈ am_W := am_wdm (i := 90) (by decide +kernel)
  have w5 : Cond.code yJ0_checkIndex_df160 cJ0_checkIndex_df160 2 none ∈ am_W := am_wdm (i := 770) (by decide +kernel)
  have l0 := lv_at hl 0 (i := 0) (v := .ref (adV i)) rfl
  have l1 := lv_at hl 1 (i := 1) (v := .int k) rfl
  have hS : va_S (fun q => base ≤ q) s.heap s.heap [] := va_S.rf
  have hlt : k.toNatClampNeg < am_sln i := Nat.not_le.mp fun q => hk (Or.inr q)
  have h0 : ¬ k < 0 := fun q => hk (Or.inl q)
  have h9 := am_sl3 i hi
  obtain ⟨j, hj, rfl⟩ := nI_of h0
  rw [nI_clamp hj] at hlt
  have hT := (hX.2.1.1 i hi).2.2.2
  rw [am_sl2 i hi] at hT
  refine lv_iload_n hx hb d0 rfl l1 ?_
  refine lv_aload_n hx hb d1 rfl l0 ?_
  refine va_tlen hx hb hT hS (v := nI (am_sln i)) rfl d2 ?_
  refine am_afterx (rv := none) (rest := []) (va_runS (As := [.int (nI j), .int (nI (am_sln i))]) ⟨hx, hb, rfl, hown, hts⟩ (am_ci2 (base := base) (b := b) (Ls := Ls) (xs := xs) (adK := adK) (adV := adV) h0 (nI_lt hlt (by omega))) ⟨am_cwB 2 hts (am_goodC w5) rfl rfl rfl (hts _ w4) (hts _ w2) ⟨by decide, by decide, by decide +kernel⟩ ⟨by decide, by decide⟩, hts _ w3⟩ ⟨am_blindx, fun U hU hW => am_prex hX hsz hS U hU hW⟩ rfl rfl (by rw [hl.1, hml]) rfl (lv_room (by decide)) d3 ⟨Nat.le_refl _, Nat.le_refl _⟩) ?_
  refine lv_aload_n hx hb d6 rfl l0 ?_
  refine lv_iload_n hx hb d7 rfl l1 ?_
  refine va_tb hx hb hT hS (vp_in_nI hlt (by omega)) rfl d8 ?_
  refine lv_sipush (v := 255) hx hb d9 (by decide) ?_
  refine lv_iand hx hb d12 ?_
  refine lv_i2c (v := am_sch i j) hx hb d13 (by rw [nI_clamp hj]; exact (am_sl4 i hi j hlt).1) ?_
  rw [nI_clamp hj]
  exact W.zret hx hb hr (pk_charN (am_sl4 i hi j hlt).2).1 (fun t ht hW => ⟨rfl, ht⟩) (fun q hq => by cases hq) d14 hlk
-- charAt(k)
theorem am_chx {i : Nat} (hi : i < 21) {k : Int32} (hk : ¬ (k < 0 ∨ am_sln i ≤ k.toNatClampNeg)) : Met l yJ0_charAt_5068e (Cond.code yJ0_charAt_5068e cJ0_charAt_5068e 2 (some .char) :: am_W) (am_rx 3) (va_Pc [.ref (adK i), .int k] (am_Px base b Ls xs adK adV)) (am_Qx (some (.int (am_sch i k.toNatClampNeg)))) 0 0 (fun _ => False) := by
  refine am_metx (by decide) (by simp [lg_sl, Value.category]) ?_
  intro p e s m below meth c lsC hx hb hr hown hts hml hlk hX hsz hl
  have d0 : decode cJ0_charAt_5068e 0 = .ok (.aload_n 0, 1) := by decide +kernel
  have d1 : decode cJ0_charAt_5068e 1 = .ok (.invokevirtual 492, 3) := by decide +kernel
  have d4 : decode cJ0_charAt_5068e 4 = .ok (.ifCond .eq 12, 3) := by decide +kernel
  have d7 : decode cJ0_charAt_5068e 7 = .ok (.aload_n 0, 1) := by decide +kernel
  have d8 : decode cJ0_charAt_5068e 8 = .ok (.getfield 9, 3) := by decide +kernel
  have d11 : decode cJ0_charAt_5068e 11 = .ok (.iload_n 1, 1) := by decide +kernel
  have d12 : decode cJ0_charAt_5068e 12 = .ok (.invokestatic 495, 3) := by decide +kernel
  have d15 : decode cJ0_charAt_5068e 15 = .ok (.ireturn, 1) := by decide +kernel
  have w1 : Cond.fieldLink RJ0 9 "java/lang/String" "value" "[B" ∈ am_W := am_wdm (i := 1920) (by decide +kernel)
  have w2 : Cond.methodLink RJ0 492 yJ0_isLatin1_aae02 ∈ am_W := am_wdm (i := 761) (by decide +kernel)
  have w3 : Cond.instanceMethod yJ0_isLatin1_aae02 ∈ am_W := am_wdm (i := 762) (by decide +kernel)
  have w4 : Cond.selects "java/lang/String" yJ0_isLatin1_aae02 yJ0_isLatin1_aae02 ∈ am_W := am_wdm (i := 763) (by decide +kernel)
  have w5 : Cond.initialized "java/lang/String" ∈ am_W := am_wdm (i := 90) (by decide +kernel)
  have w6 : Cond.code yJ0_isLatin1_aae02 cJ0_isLatin1_aae02 1 (some .boolean) ∈ am_W := am_wdm (i := 764) (by decide +kernel)
  have v2 : Cond.methodLink RJ0 495 yJ1_charAt_3b067 ∈ am_W := am_wdm (i := 765) (by decide +kernel)
  have v3 : Cond.static yJ1_charAt_3b067 ∈ am_W := am_wdm (i := 766) (by decide +kernel)
  have v4 : Cond.initialized "java/lang/StringLatin1" ∈ am_W := am_wdm (i := 91) (by decide +kernel)
  have v5 : Cond.code yJ1_charAt_3b067 cJ1_charAt_3b067 2 (some .char) ∈ am_W := am_wdm (i := 767) (by decide +kernel)
  have l0 := lv_at hl 0 (i := 0) (v := .ref (adK i)) rfl
  have l1 := lv_at hl 1 (i := 1) (v := .int k) rfl
  have hS : va_S (fun q => base ≤ q) s.heap s.heap [] := va_S.rf
  refine lv_aload_n hx hb d0 rfl l0 ?_
  refine am_afterx (rv := some (.int 1)) (rest := []) (va_runV (As := []) ⟨hx, hb, rfl, hown, hts⟩ (am_la1 (base := base) (b := b) (Ls := Ls) (xs := xs) (adV := adV) hi) ⟨am_cwB 0 hts (am_goodC w6) rfl rfl rfl (hts _ w5) (hts _ w2) ⟨by decide, by decide, by decide +kernel⟩ ⟨by decide, by decide⟩, hts _ w3, hts _ w4⟩ ⟨am_blindx, vk_recv hX.2.1 hi hS, fun U hU hW => am_prex hX hsz hS U hU hW⟩ rfl rfl (by rw [hl.1, hml]) rfl (lv_room (by decide)) d1 ⟨Nat.le_refl _, Nat.le_refl _⟩) ?_
  refine lv_if_eq (tgt := 16) hx hb d4 (by decide) (fun q => absurd q (by decide)) (fun _ => ?_)
  refine lv_aload_n hx hb d7 rfl l0 ?_
  refine vk_getf hx hb (hX.2.1.1 i hi).2.2.1 hS hown (hts _ w1) (fun _ h => h) d8 ?_
  refine lv_iload_n hx hb d11 rfl l1 ?_
  refine am_afterx (rv := some (.int (am_sch i k.toNatClampNeg))) (rest := []) (va_runS (As := [.ref (adV i), .int k]) ⟨hx, hb, rfl, hown, hts⟩ (am_ch1 (base := base) (b := b) (Ls := Ls) (xs := xs) (adK := adK) (adV := adV) hi hk) ⟨am_cwB 2 hts (am_goodC v5) rfl rfl rfl (hts _ v4) (hts _ v2) ⟨by decide, by decide, by decide +kernel⟩ ⟨by decide, by decide⟩, hts _ v3⟩ ⟨am_blindx, fun U hU hW => am_prex hX hsz hS U hU hW⟩ rfl rfl (by rw [hl.1, hml]) rfl (lv_room (by decide)) d12 ⟨Nat.le_refl _, Nat.le_refl _⟩) ?_
  have hlt : k.toNatClampNeg < am_sln i := Nat.not_le.mp fun q => hk (Or.inr q)
  exact W.zret hx hb hr (pk_charN (am_sl4 i hi _ hlt).2).1 (fun t ht hW => ⟨rfl, ht⟩) (fun q hq => by cases hq) d15 hlk
end AMQ2
theorem am_str (l : Launch) : am_Str l := by
  intro p e R s m args below meth c D cA base b Ls xs adK adV mi ix i H locs a1 a2 Qz pc lsC r C hK hX hsz hi hfr hlo hc1 hc2 hcat hls hown6 hS
  obtain ⟨hx, hb, hml, hown, hts, -⟩ := C
  rw [hown6] at hown
  have hX1 : am_X base b Ls xs adK adV s H := hX.kept (Nat.lt_of_lt_of_le hX.1.2 hsz) hS.2.1
  have w5 : Cond.initialized "java/lang/String" ∈ am_W := am_wdm (i := 90) (by decide +kernel)
  have rec' := vk_recv (s := s) hX.2.1 hi hS
  refine ⟨fun hdec hlink k => ?_, fun kx hkx hdec hlink k => ?_⟩
  · have w3 : Cond.instanceMethod yJ0_length_8abf5 ∈ am_W := am_wdm (i := 748) (by decide +kernel)
    have w4 : Cond.selects "java/lang/String" yJ0_length_8abf5 yJ0_length_8abf5 ∈ am_W := am_wdm (i := 749) (by decide +kernel)
    have w6 : Cond.code yJ0_length_8abf5 cJ0_length_8abf5 1 (some .int) ∈ am_W := am_wdm (i := 750) (by decide +kernel)
    have hcb := am_cwB (R := R) (s := s) (args := args) (own := RX6) (index := ix) (rm := am_rx 1) (mc := 0) (ms := 0) 0 hts (am_goodC w6) rfl rfl rfl (hts _ w5) hlink ⟨by decide, by decide, by decide +kernel⟩ ⟨by show 1 + 1 ≤ _; omega, by show 8 + (1 + 11) + 1 * 40 ≤ _; omega⟩
    exact am_afterx (rv := some (.int (Int32.ofNat (am_sln i)))) (va_runV (As := []) (rest := r) ⟨hx, rfl, hls.symm, hown, hts⟩ (am_lenx (base := base) (b := b) (Ls := Ls) (xs := xs) (adV := adV) hi) ⟨hcb, hts _ w3, hts _ w4⟩ ⟨am_blindx, rec', fun U hU hW => am_prex hX hsz hS U hU hW⟩ rfl rfl rfl rfl (lv_room hcat) hdec ⟨hc1, hc2⟩) k
  · have w3 : Cond.instanceMethod yJ0_charAt_5068e ∈ am_W := am_wdm (i := 758) (by decide +kernel)
    have w4 : Cond.selects "java/lang/String" yJ0_charAt_5068e yJ0_charAt_5068e ∈ am_W := am_wdm (i := 759) (by decide +kernel)
    have w6 : Cond.code yJ0_charAt_5068e cJ0_charAt_5068e 2 (some .char) ∈ am_W := am_wdm (i := 760) (by decide +kernel)
    have hcb := am_cwB (R := R) (s := s) (args := args) (own := RX6) (index := ix) (rm := am_rx 3) (mc := 0) (ms := 0) 1 hts (am_goodC w6) rfl rfl rfl (hts _ w5) hlink ⟨by decide, by decide, by decide +kernel⟩ ⟨by show 3 + 1 ≤ _; omega, by show 8 + (2 + 11) + 3 * 40 ≤ _; omega⟩
    exact am_afterx (rv := some (.int (am_sch i kx.toNatClampNeg))) (va_runV (As := [.int kx]) (rest := r) ⟨hx, rfl, hls.symm, hown, hts⟩ (am_chx (base := base) (b := b) (Ls := Ls) (xs := xs) (adV := adV) hi hkx) ⟨hcb, hts _ w3, hts _ w4⟩ ⟨am_blindx, rec', fun U hU hW => am_prex hX hsz hS U hU hW⟩ rfl rfl rfl rfl (lv_room hcat) hdec ⟨hc1, hc2⟩) k
