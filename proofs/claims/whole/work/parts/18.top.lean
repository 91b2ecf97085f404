/-! THE CLAIM OUT OF ONE WALK OF THE LAW'S BODY. Your part is whole_start (and what it stands on); all else here is the same for every law, but numbers. -/
def R_law : String := "LeaningTowerLaw"
def lw_P (b : Addr) (xs : List Int32) (args : Array Value) (s : State) : Prop := args = #[.ref b] ∧ s.IntsAt b xs ∧ xs.length ≤ 3072 ∧ (Jvm.Cond.and given_1 narrow_1).before args s = true
def lw_Q (_ : Array Value) (s : State) (o : Outcome) (t : State) : Prop := o = .returned (some (.int 1)) ∧ Framed s o t [] 600000 7302250
def lw_Z (below : List Frame) (a : Array Value) (s : State) : State → Prop := fun t => ∃ o, t.status = .running ∧ Ended t below o ∧ lw_Q a s o t
/-- the law's own end, with 1 on the stack, nothing written that was there before, its room as the claim has it -/
theorem lw_ret {p : Program} {l : Launch} {e : Env} {s : State} {m : MethodId} {below : List Frame} {meth : Method} {c : Code} {b : Nat} (hx : p.tables.exec = Jvm.exec) (hb : c.code = code) (hr : meth.sig.returnType = ret) (hlocks : meth.locks = false) {pc : Nat} {H : Heap} {ls : Array Slot} (hdg : decode code pc = .ok (.ireturn, 1)) : W p l e room_1 s m #[Value.ref b] below meth c H [] 600000 7302250 (lw_Z below #[Value.ref b] s) (F0 m pc ls [.int 1]) := by
  intro T hT X
  obtain ⟨fs, hret, hrun, hended, hW, hframe⟩ := X.leave (v := some (.int 1)) (hlocks := hlocks) (fun h => by rw [hr] at h; cases h)
  have hmeth' : T.vm.method? m = some meth := X.method'
  refine ⟨T.setFrames fs, ?_, .returned (some (.int 1)), hrun, hended, rfl, ⟨_, rfl⟩, hW, hframe⟩
  jvm_step X.here [X.here.top, hx, hb, hdg, hmeth', hr, ret, narrow_b1]
  (try refine ⟨rfl, ?_⟩); (try refine ⟨rfl, ?_⟩)
  first | (intro acts; rw [hret _ acts rfl rfl rfl]) | rw [hret _ _ rfl rfl rfl]
  exact Steps.refl _
/-- what holds at the law's entry: the machine, the code, the tables' words (any of lw_tbl by 'hts w (by decide +kernel)'), the script of L ints xs at the cell b, what the Statement gives of the start (any of its parts by flat_of_before) -/
def lw_At (p : Program) (s : State) (m : MethodId) (meth : Method) (c : Code) (b L : Nat) (xs : Nat → Int32) : Prop :=
  p.tables.exec = Jvm.exec ∧ c.code = code ∧ meth.sig.returnType = ret ∧ c.maxLocals = 4 ∧ s.vm.findClass R_law = some m.cls ∧ (∀ w ∈ lw_tbl, w.before #[Value.ref b] s = true) ∧ va_X b L xs s s.heap ∧ b < s.heap.size ∧ meth.locks = false ∧ (Jvm.Cond.and given_1 narrow_1).before #[Value.ref b] s = true
section AMZ
variable {p : Program} {e : Env} {s : State} {m : MethodId} {below : List Frame} {meth : Method} {c : Code} {l : Launch} {b L : Nat} {xs : Nat → Int32}
theorem am_D (hts : ∀ w ∈ am_W, w.before #[Value.ref b] s = true) : ∃ D : va_G, ∀ (k : Nat) (q : vw_C), am_classes[k]? = some q → u_Kn s q.1 q.2.1 q.2.2 (D.1 k) (D.2 k) := by
  have h : ∀ ci : Nat, ∃ q : ClassId × (Nat → Nat), ci < 12 → u_Kn s (am_RX ci) (am_TX ci) (am_NF ci) q.1 q.2 := by
    intro ci
    by_cases hc : ci < 12
    · obtain ⟨cC, iS, hK⟩ := u_known (C := am_RX ci) (T := am_TX ci) (N := am_NF ci) (n := am_NF ci) hts (am_uws ci hc) (hts _ (am_inst ci hc))
      exact ⟨(cC, iS), fun _ => hK⟩
    · exact ⟨(0, fun _ => 0), fun q => absurd q hc⟩
  obtain ⟨g, hg⟩ := Classical.axiomOfChoice h
  refine ⟨(fun k => (g k).1, fun k => (g k).2), fun k q hq => ?_⟩
  have hk : k < 12 := (List.getElem?_eq_some_iff.mp hq).1
  rw [am_clsx k hk] at hq
  cases hq
  exact hg k hk
theorem am_cA (hts : ∀ w ∈ am_W, w.before #[Value.ref b] s = true) (hts2 : ∀ w ∈ lw_tbl, w.before #[Value.ref b] s = true) : ∃ cA : Nat → ClassId, ∀ t : Nat, 20 ≤ t → t ≤ 26 → ArrOfT s (cA t) (am_ty t) ∧ va_RA s (cA t) (am_ty t) := by
  have h : ∀ t : Nat, ∃ q : ClassId, 20 ≤ t → t ≤ 26 → ArrOfT s q (am_ty t) ∧ va_RA s q (am_ty t) := by
    intro t
    by_cases h1 : 20 ≤ t ∧ t ≤ 26
    · have prim : t < 24 → ∃ q : ClassId, ArrOfT s q (am_ty t) ∧ va_RA s q (am_ty t) := by
        intro h4
        have hw := hts _ (am_wo8 (t - 20) (by omega))
        rw [show 20 + (t - 20) = t by omega] at hw
        obtain ⟨c9, k9, comp, g1, g2, g3⟩ := Cond.arrayClass_spec (args := #[Value.ref b]) (first := s) (o := none) (s := s) (idx := []) hw
        refine ⟨c9, fun n z => ⟨fun k h => (by cases h), k9, g2, comp, g3⟩, ?_⟩
        have ht4 : t = 20 ∨ t = 21 ∨ t = 22 ∨ t = 23 := by omega
        rcases ht4 with rfl | rfl | rfl | rfl <;> exact g1
      have grid : ∀ ty : FieldType, Cond.arrayOver (.array ty) ∈ lw_tbl → ∃ q : ClassId, ArrOfT s q (.array ty) ∧ va_RA s q (.array ty) := by
        intro ty hw
        obtain ⟨comp, c9, k9, g1, g2, g3, g4, g5⟩ := arrayOver_specB (args := #[Value.ref b]) (first := s) (o := none) (s := s) (idx := []) (hts2 _ hw)
        exact ⟨c9, fun n z => ⟨fun k h => (by cases h), k9, g3, comp, g4⟩, g5⟩
      by_cases h4 : t < 24
      · obtain ⟨q, hq⟩ := prim h4
        exact ⟨q, fun _ _ => hq⟩
      · have ht3 : t = 24 ∨ t = 25 ∨ t = 26 := by omega
        rcases ht3 with rfl | rfl | rfl
        · obtain ⟨comp, c9, k9, g1, g2, g3, g4, g5⟩ := Cond.arrayOver_spec (args := #[Value.ref b]) (first := s) (o := none) (s := s) (idx := []) (hts2 _ am_wo11)
          exact ⟨c9, fun _ _ => ⟨fun n z => ⟨fun k h => (by cases h), k9, g3, comp, g4⟩, k9, comp, g3, g4, g1, g5⟩⟩
        · obtain ⟨q, hq⟩ := grid .int am_wo9
          exact ⟨q, fun _ _ => hq⟩
        · obtain ⟨q, hq⟩ := grid .long am_wo10
          exact ⟨q, fun _ _ => hq⟩
    · exact ⟨0, fun q1 q2 => absurd ⟨q1, q2⟩ h1⟩
  obtain ⟨g, hg⟩ := Classical.axiomOfChoice h
  exact ⟨g, hg⟩
theorem am_X0 (hts : ∀ w ∈ lw_tbl, w.before #[Value.ref b] s = true) (hX : va_X b L xs s s.heap) (hbl : b < s.heap.size) (hgv : (Jvm.Cond.and given_1 narrow_1).before #[Value.ref b] s = true) : ∃ adK adV : Nat → Nat, am_X s.heap.size b L xs adK adV s s.heap := by
  have hs : ∀ w ∈ am_fl, w.before #[Value.ref b] s = true := flat_of_before _ hgv
  have hA : ∀ a : Nat, a < s.heap.size → ¬ (fun q : Nat => s.heap.size ≤ q) a := fun a h => Nat.not_le.mpr h
  obtain ⟨adK, adV, hS, hE⟩ := vk_Sof (args := #[Value.ref b]) (s := s) (N := 21) (tm := am_tm) (len := (List.range 21).map am_sln) (byt := (List.range 21).map am_bytes) (A := fun q => s.heap.size ≤ q) am_str8 (fun i hi => hs _ (am_str2 i hi)) (fun i hi => hs _ (am_str3 i hi)) (fun i hi => hs _ (am_str4 i hi)) (fun i hi => hs _ (am_str5 i hi)) (fun i hi j hj => hs _ (am_str6 i hi j hj)) (fun i j hi hj hij => (am_str7 i hi j hj hij).imp (hs _) (hs _)) hA
  refine ⟨adK, adV, ⟨hX, hbl⟩, hS, fun i hi => vk_R.of (hts _ (am_str1 i hi)) (hE i hi), ?_, ?_⟩
  · exact va_Zof (hts _ am_str11.1) (hts _ am_str11.2.1) (va_eqt (hs _ am_str9)) hA
  · exact va_Zqof (hts _ am_str11.2.2.1) (hts _ am_str11.2.2.2) (hs _ am_str10) hA
/-- the law from its entry, if the abstract machine's run of it is good -/
theorem am_start (hstr : am_Str l) (hgoal : am_Goal) (hL : L ≤ 3072) (C0 : lw_At p s m meth c b L xs) : W p l e room_1 s m #[Value.ref b] below meth c s.heap [] 0 0 (lw_Z below #[Value.ref b] s) (entryFrame m ([Value.ref b] : List Value).toArray 4) := by
  obtain ⟨hx, hb, hr, hml, hown, hts, hX, hbl, hlocks, hgv⟩ := C0
  have hts2 : ∀ w ∈ am_W, w.before #[Value.ref b] s = true := fun w hw => hts w (List.mem_filter.mp hw).1
  obtain ⟨D, hD⟩ := am_D hts2
  obtain ⟨cA, hcA⟩ := am_cA hts2 hts
  obtain ⟨adK, adV, hXX⟩ := am_X0 hts hX hbl hgv
  obtain ⟨f, h', hrun, hc1, hc2⟩ := hgoal L xs hL
  have hK : am_K D cA s := ⟨⟨hD, fun k q h => by simp at h⟩, hcA, va_AO.of (hts _ am_wo11), hts _ am_wo9, hts _ am_wo10⟩
  have C : am_Cx p s m #[Value.ref b] meth c 0 := ⟨hx, hb, hml, hown, hts2, fun q => absurd q (by decide)⟩
  have hab : am_ad s.heap.size b adK am_B = b := by
    unfold am_ad
    rw [if_neg (Nat.lt_irrefl _), if_pos rfl]
  have k := am_sound (D := D) (cA := cA) (base := s.heap.size) (b := b) (Ls := L) (xs := xs) (adK := adK) (adV := adV) am_hT hstr f 300 0 0 _ [] _ (some (.int 1)) h' hrun p e room_1 s m #[Value.ref b] below meth c (lw_Z below #[Value.ref b] s) 0 0 C hK hXX (Nat.le_refl _) rfl (by decide) (by decide) (Nat.le_refl _) (Nat.le_refl _) hc1 hc2 (Nat.le_trans hc1 (by decide)) ?_
  · obtain ⟨hl, -⟩ := am_ent_lr (ad := am_ad s.heap.size b adK) (ml := 4) (as := [.ref am_B]) (by decide)
    rw [lg_entry_eq]
    have k2 := k s.heap [] _ ⟨rfl, fun j hj => absurd hj (am_K0_lt L j)⟩ (am_HP0 L xs) va_S.rf hl
    have e1 : [Value.ref am_B].map (am_cv (am_ad s.heap.size b adK)) = [Value.ref b] := by
      show [Value.ref (am_ad s.heap.size b adK am_B)] = _
      rw [hab]
    rw [e1] at k2
    exact k2
  · intro pcr H locs lsC hre hHR hHP hS
    rcases hre with ⟨h9, -⟩ | ⟨x, h9, hdec, -⟩ | ⟨x, h9, -⟩ | ⟨h9, -⟩
    · cases h9
    · cases h9
      refine va_forget (fun q hq => hS.2.2 q hq) ?_
      refine W.widen (k := 600000) (n := 7302250) hc1 hc2 ?_
      exact lw_ret hx hb hr hlocks hdec
    · cases h9
    · rcases h9 with h9 | ⟨x, h9⟩ <;> cases h9
end AMZ
