/-! A RUN OF THE ABSTRACT MACHINE IS A RUN OF THE MACHINE -/
def am_Snd (l : Launch) (D : va_G) (cA : Nat → ClassId) (base b Ls : Nat) (xs : Nat → Int32) (adK adV : Nat → Nat) (f : Nat) : Prop :=
  ∀ (d mi pc : Nat) (ls : am_L) (st : List Value) (h : am_H) (rv : Option Value) (h' : am_H), am_run f d mi pc ls st h = some (rv, h') →
    ∀ (p : Program) (e : Env) (R : Room) (s : State) (m : MethodId) (args : Array Value) (below : List Frame) (meth : Method) (c : Code) (Qz : State → Prop) (n0 s0 : Nat),
      am_Cx p s m args meth c mi → am_K D cA s → am_X base b Ls xs adK adV s s.heap → base ≤ s.heap.size → ls.length = (am_mi mi).2.2.2.1 → d + 6 ≤ R.frames → (d + 6) * 40 ≤ R.locals → n0 ≤ h.1 → s0 ≤ h.2.1 → h'.1 - n0 ≤ R.cells → h'.2.1 - s0 ≤ R.slots → h'.1 ≤ am_B →
      (∀ (pcr : Nat) (H : Heap) (locs : List Loc) (lsC : Array Slot), am_ret mi pcr rv → am_HR D cA base (am_ad base b adK) h' H → am_HP Ls xs h' → va_S (fun q => base ≤ q) s.heap H locs → W p l e R s m args below meth c H locs (h'.1 - n0) (h'.2.1 - s0) Qz (F0 m pcr lsC (rv.toList.map (am_cv (am_ad base b adK))))) →
      am_St p l e R s m args below meth c Qz D cA base (am_ad base b adK) Ls xs n0 s0 pc ls st h
theorem am_ad_str {base b i : Nat} {adK : Nat → Nat} : am_ad base b adK (am_B + 1 + i) = adK i := by
  unfold am_ad
  rw [if_neg (by omega), if_neg (by omega), show am_B + 1 + i - am_B - 1 = i by omega]
theorem am_ent_len {ml : Nat} {as : List Value} (h : (am_ent1 as).length ≤ ml) : (am_ent ml as).length = ml := by
  simp [am_ent]
  omega
theorem am_met_of {l : Launch} {D : va_G} {cA : Nat → ClassId} {base b Ls : Nat} {xs : Nat → Int32} {adK adV : Nat → Nat} {f d mi : Nat} {as : List Value} {h h' : am_H} {rv : Option Value} (ih : am_Snd l D cA base b Ls xs adK adV f)
    (hrun : am_run f d mi 0 (am_ent (am_mi mi).2.2.2.1 as) [] h = some (rv, h')) (hlen : (am_ent1 as).length ≤ (am_mi mi).2.2.2.1) (hpl : am_pl (am_mi mi).2.1 = true) (hown : (am_mi mi).1 = (am_mi mi).2.1.cls) (hmx : h'.1 ≤ am_B) (hHP : am_HP Ls xs h) : am_Mt l D cA base b Ls xs adK adV d mi as h rv h' := by
  unfold am_Mt
  have hmono := am_run_mono _ _ _ _ _ _ _ _ _ hrun
  refine am_ofW (cc := (am_mi mi).2.2.1) (maxL := (am_mi mi).2.2.2.1) (ret := (am_mi mi).2.2.2.2.1) (am_pl_for hpl) rfl ?_
  intro p e s m args below meth c s₁ B hml hv
  obtain ⟨rfl, hHR, hK, hX, hsz⟩ := hv
  have hts0 := atoms_spec (ws := Cond.code (am_mi mi).2.1 (am_mi mi).2.2.1 (am_mi mi).2.2.2.1 (am_mi mi).2.2.2.2.1 :: am_W) B.pre
  have C : am_Cx p s m (as.map (am_cv (am_ad base b adK))).toArray meth c mi := ⟨B.exec, B.bytes, hml, by rw [hown]; exact findClass_of_methodNamed B.named, fun w hw => hts0 w (List.mem_cons_of_mem _ hw), fun q => (name_of_methodNamed B.named B.method).1.trans q⟩
  rw [lg_entry_eq]
  obtain ⟨hl, -⟩ := am_ent_lr (ad := am_ad base b adK) hlen
  have k := ih d mi 0 _ [] h rv h' hrun p e (headSpec (Cond.code (am_mi mi).2.1 (am_mi mi).2.2.1 (am_mi mi).2.2.2.1 (am_mi mi).2.2.2.2.1 :: am_W) (am_rm d (h'.1 - h.1) (h'.2.1 - h.2.1))).room s m _ below meth c (MQ below (am_Qc D cA base Ls xs (am_ad base b adK) rv h') (as.map (am_cv (am_ad base b adK))).toArray s (h'.1 - h.1) (h'.2.1 - h.2.1) (fun q => base ≤ q)) h.1 h.2.1 C hK hX hsz (am_ent_len hlen) (Nat.le_refl _) (Nat.le_refl _) (Nat.le_refl _) (Nat.le_refl _) (Nat.le_refl _) (Nat.le_refl _) hmx ?_
  · have k2 := k s.heap [] _ hHR hHP va_S.rf hl
    rw [Nat.sub_self, Nat.sub_self] at k2
    exact k2
  · intro pcr H locs lsC hr hHR' hHP' hS
    rcases hr with ⟨rfl, hdec, hrt⟩ | ⟨x, rfl, hdec, ty, hrt, hn⟩ | ⟨x, rfl, hdec, hrt⟩ | ⟨hv, hdec, ty, hrt, hty⟩
    · exact W.vret B.exec B.bytes (B.returns.trans hrt) (fun t ht hW => ⟨rfl, by rw [ht]; exact hHR', hHP', hS.F ht⟩) hS.2.2 hdec B.notSynchronized
    · exact W.zret B.exec B.bytes (B.returns.trans hrt) hn (fun t ht hW => ⟨rfl, by rw [ht]; exact hHR', hHP', hS.F ht⟩) hS.2.2 hdec B.notSynchronized
    · exact W.lret B.exec B.bytes (B.returns.trans hrt) (fun t ht hW => ⟨rfl, by rw [ht]; exact hHR', hHP', hS.F ht⟩) hS.2.2 hdec B.notSynchronized
    · rcases hv with rfl | ⟨x, rfl⟩
      · exact W.aret B.exec B.bytes (B.returns.trans hrt) hty (Or.inl rfl) (fun t ht hW => ⟨rfl, by rw [ht]; exact hHR', hHP', hS.F ht⟩) hS.2.2 hdec B.notSynchronized
      · exact W.aret B.exec B.bytes (B.returns.trans hrt) hty (Or.inr ⟨_, rfl⟩) (fun t ht hW => ⟨rfl, by rw [ht]; exact hHR', hHP', hS.F ht⟩) hS.2.2 hdec B.notSynchronized
set_option maxHeartbeats 4000000 in
theorem am_sound {l : Launch} {D : va_G} {cA : Nat → ClassId} {base b Ls : Nat} {xs : Nat → Int32} {adK adV : Nat → Nat} (hT : ∀ (mi pc : Nat) (i : Instr) (len : Nat) (ops : List Nat) (v : Value), am_P mi pc = some (i, len, ops, v) → am_okE mi pc (i, len, ops, v) = true) (hstr : am_Str l) : ∀ f : Nat, am_Snd l D cA base b Ls xs adK adV f := by
  intro f
  induction f with
  | zero =>
    intro d mi pc ls st h rv h' hr
    cases hr
  | succ f ih =>
    intro d mi pc ls st h rv h' hr p e R s m args below meth c Qz n0 s0 C hK hX hsz hml hfr hlo hn0 hs0 hrc hrs hmx hret
    have hall := am_run_mono _ _ _ _ _ _ _ _ _ hr
    unfold am_run at hr
    split at hr
    · cases hr
    · rename_i i len ops v hP
      have hok := hT _ _ _ _ _ _ hP
      split at hr
      · split at hr
        · rename_i pc' ls' st' h1 h9
          have a1 := am_1_mono h9
          have a2 := am_run_mono _ _ _ _ _ _ _ _ _ hr
          exact am_s1 C hK hX hsz hok h9 hn0 hs0 (by omega) (by omega) (by omega) (by omega) (ih d mi pc' ls' st' h1 rv h' hr p e R s m args below meth c Qz n0 s0 C hK hX hsz (a1.2.2.trans hml) hfr hlo (by omega) (by omega) hrc hrs hmx hret)
        · cases hr
      · split at hr
        · rename_i rv' h9
          cases hr
          obtain ⟨hre, rfl⟩ := am_ret_of hok h9
          intro H locs lsC hH hP hS hl
          exact hret pc H locs lsC hre hH hP hS
        · cases hr
      · rename_i hk0 hk1
        split at hr
        · cases hr
        · rename_i d'
          split at hr
          · rename_i st' h1 hc
            have hmono : ∀ mi' ls' rv h2, am_run f d' mi' 0 ls' [] h = some (rv, h2) → h.1 ≤ h2.1 ∧ h.2.1 ≤ h2.2.1 := fun mi' ls' rv h2 q => am_run_mono _ _ _ _ _ _ _ _ _ q
            have a1 := am_call_mono hmono hc
            have a2 := am_run_mono _ _ _ _ _ _ _ _ _ hr
            have k := ih (d' + 1) mi (pc + 3) ls st' h1 rv h' hr p e R s m args below meth c Qz n0 s0 C hK hX hsz hml hfr hlo (by omega) (by omega) hrc hrs hmx hret
            have hrun : am_HP Ls xs h → ∀ mi' as rv h2, am_run f d' mi' 0 (am_ent (am_mi mi').2.2.2.1 as) [] h = some (rv, h2) → (am_ent1 as).length ≤ (am_mi mi').2.2.2.1 → am_pl (am_mi mi').2.1 = true → (am_mi mi').1 = (am_mi mi').2.1.cls → h2.1 ≤ h1.1 → am_HP Ls xs h → am_Mt l D cA base b Ls xs adK adV d' mi' as h rv h2 :=
              fun hHP mi' as rv h2 q1 q2 q3 q4 q5 _ => am_met_of ih q1 q2 q3 q4 (by omega) hHP
            obtain ⟨hdec, hown, hok1⟩ := am_ok_parts hok
            have fr : d' + 7 ≤ R.frames := by omega
            have lo : (d' + 7) * 40 ≤ R.locals := by omega
            -- the kinds of calls
            have sub : am_HP Ls xs h → am_St p l e R s m args below meth c Qz D cA base (am_ad base b adK) Ls xs n0 s0 pc ls st h := by
              intro hHP
              cases i
              all_goals (first | exact (hk0 rfl).elim | exact (hk1 rfl).elim | skip)
              case invokevirtual ix =>
                simp only [am_ok1, Bool.and_eq_true, beq_iff_eq] at hok1
                obtain ⟨rfl, hm⟩ := hok1
                split at hm
                · exact am_s_k3 C hK hX hsz hdec hm hc hml hn0 hs0 (by omega) (by omega) fr lo hmono (hrun hHP) hHP k
                · exact am_s_k4 C hK hX hsz hdec hm hc hml hn0 hs0 (by omega) (by omega) fr lo hmono (hrun hHP) hHP k
                · rename_i w tl
                  obtain ⟨n, sl, K, I, L, Q⟩ := h
                  simp only [Bool.and_eq_true, decide_eq_true_eq] at hm
                  rcases st with _ | ⟨x, r⟩
                  · cases hc
                  · cases x <;> first | cases hc; done | skip
                    rename_i a
                    have hc2 : (if am_cat r ≤ 8 ∧ (K a).1 = 31 then some (Value.int (Int32.ofNat (K a).2) :: r, (n, sl, K, I, L, Q)) else none) = some (st', h1) := hc
                    split at hc2
                    · rename_i hcc
                      have hc4 := Option.some.inj hc2
                      obtain ⟨rfl, rfl⟩ : st' = Value.int (Int32.ofNat (K a).2) :: r ∧ h1 = (n, sl, K, I, L, Q) := ⟨(congrArg Prod.fst hc4).symm, (congrArg Prod.snd hc4).symm⟩
                      intro H locs lsC hH hP hS hl
                      obtain ⟨i9, g1, g2, g3, g4⟩ := hHP.2.1 a hcc.2
                      have hR := (hstr p e R s m args below meth c D cA base b Ls xs adK adV mi ix i9 H locs (n - n0) (sl - s0) Qz pc lsC (r.map (am_cv (am_ad base b adK))) C hK hX hsz g1 (by omega) (by omega) (by show n - n0 ≤ R.cells; have : n ≤ h'.1 := hall.1; omega) (by show sl - s0 ≤ R.slots; have : sl ≤ h'.2.1 := hall.2; omega) (by rw [am_cat_map]; exact hcc.1) (by rw [hl.1, hml]; exact C.2.2.1.symm) hm.2 hS).1
                      have k2 := k H locs lsC hH hP hS hl
                      have e9 : am_ad base b adK a = adK i9 := by
                        rw [g2]
                        exact am_ad_str
                      have e8 : (K a).2 = am_sln i9 := g3
                      rw [e8] at k2
                      show W p l e R s m args below meth c H locs (n - n0) (sl - s0) Qz (F0 m pc lsC (.ref (am_ad base b adK a) :: r.map (am_cv (am_ad base b adK))))
                      rw [e9]
                      exact hR (by rw [C.2.1]; exact hdec) (by rw [← hm.2]; exact am_wd_hts C.2.2.2.2.1 hm.1) k2
                    · cases hc2
                · rename_i w tl
                  obtain ⟨n, sl, K, I, L, Q⟩ := h
                  simp only [Bool.and_eq_true, decide_eq_true_eq] at hm
                  rcases st with _ | ⟨y, _ | ⟨x, r⟩⟩
                  · cases hc
                  · cases y <;> cases hc
                  · cases y <;> first | cases hc; done | skip
                    cases x <;> first | cases hc; done | skip
                    rename_i j a
                    have hc2 : (if am_cat r ≤ 8 ∧ (K a).1 = 31 ∧ ¬ (j < 0 ∨ (K a).2 ≤ j.toNatClampNeg) then some (Value.int (I a j.toNatClampNeg) :: r, (n, sl, K, I, L, Q)) else none) = some (st', h1) := hc
                    split at hc2
                    · rename_i hcc
                      have hc4 := Option.some.inj hc2
                      obtain ⟨rfl, rfl⟩ : st' = Value.int (I a j.toNatClampNeg) :: r ∧ h1 = (n, sl, K, I, L, Q) := ⟨(congrArg Prod.fst hc4).symm, (congrArg Prod.snd hc4).symm⟩
                      intro H locs lsC hH hP hS hl
                      obtain ⟨i9, g1, g2, g3, g4⟩ := hHP.2.1 a hcc.2.1
                      have e8 : (K a).2 = am_sln i9 := g3
                      have hj : ¬ (j < 0 ∨ am_sln i9 ≤ j.toNatClampNeg) := by rw [← e8]; exact hcc.2.2
                      have hR := (hstr p e R s m args below meth c D cA base b Ls xs adK adV mi ix i9 H locs (n - n0) (sl - s0) Qz pc lsC (r.map (am_cv (am_ad base b adK))) C hK hX hsz g1 (by omega) (by omega) (by show n - n0 ≤ R.cells; have : n ≤ h'.1 := hall.1; omega) (by show sl - s0 ≤ R.slots; have : sl ≤ h'.2.1 := hall.2; omega) (by rw [am_cat_map]; exact hcc.1) (by rw [hl.1, hml]; exact C.2.2.1.symm) hm.2 hS).2 j hj
                      have k2 := k H locs lsC hH hP hS hl
                      have e9 : am_ad base b adK a = adK i9 := by
                        rw [g2]
                        exact am_ad_str
                      have e7 : I a j.toNatClampNeg = am_sch i9 j.toNatClampNeg := g4 _ (Nat.not_le.mp fun q => hj (Or.inr q))
                      rw [e7] at k2
                      show W p l e R s m args below meth c H locs (n - n0) (sl - s0) Qz (F0 m pc lsC (.int j :: .ref (am_ad base b adK a) :: r.map (am_cv (am_ad base b adK))))
                      rw [e9]
                      exact hR (by rw [C.2.1]; exact hdec) (by rw [← hm.2]; exact am_wd_hts C.2.2.2.2.1 hm.1) k2
                    · cases hc2
                · cases hm
              case invokespecial ix =>
                simp only [am_ok1, Bool.and_eq_true, beq_iff_eq] at hok1
                obtain ⟨rfl, hm⟩ := hok1
                split at hm
                · exact am_s_k0 C hK hX hsz hdec hm hc hml hn0 hs0 (by omega) (by omega) fr lo hmono (hrun hHP) hHP k
                · exact am_s_k1 C hK hX hsz hdec hm hc hml hn0 hs0 (by omega) (by omega) fr lo hmono (hrun hHP) hHP k
                · rename_i tl
                  rcases tl with _ | ⟨w1, _ | ⟨w2, _ | ⟨w3, tl⟩⟩⟩
                  · cases hm
                  · cases hm
                  · cases hm
                  simp only [am_okc, Bool.and_eq_true] at hm
                  rcases st with _ | ⟨x, r⟩
                  · cases hc
                  · cases x <;> first | cases hc; done | skip
                    have hc2 : (if am_cat r ≤ 8 then some (r, h) else none) = some (st', h1) := hc
                    split at hc2
                    · rename_i hcc
                      have hc4 := Option.some.inj hc2
                      obtain ⟨rfl, rfl⟩ : st' = r ∧ h1 = h := ⟨(congrArg Prod.fst hc4).symm, (congrArg Prod.snd hc4).symm⟩
                      intro H locs lsC hH hP hS hl
                      have hcat := am_cat_map (am_ad base b adK) st'
                      exact W.objInit C.1 C.2.1 C.2.2.2.1 (am_wd_hts C.2.2.2.2.1 hm.1.1) (am_wd_hts C.2.2.2.2.1 hm.1.2) (am_wd_hts C.2.2.2.2.1 hm.2) rfl (by rw [C.2.2.1, ← hml]; exact hl.1) rfl hdec (by omega) (by show 2 * 0 + ((st'.map (am_cv (am_ad base b adK))).map fun v => v.category).sum + 12 ≤ R.locals; omega) (k H locs lsC hH hP hS hl)
                    · cases hc2
                · cases hm
              case invokestatic ix =>
                simp only [am_ok1, Bool.and_eq_true, beq_iff_eq] at hok1
                obtain ⟨rfl, hm⟩ := hok1
                split at hm
                · exact am_s_k5 C hK hX hsz hdec hm hc hml hn0 hs0 (by omega) (by omega) fr lo hmono (hrun hHP) hHP k
                · exact am_s_k6 C hK hX hsz hdec hm hc hml hn0 hs0 (by omega) (by omega) fr lo hmono (hrun hHP) hHP k
                · rename_i tl
                  rcases tl with _ | ⟨w1, _ | ⟨w2, _ | ⟨w3, _ | ⟨w4, tl⟩⟩⟩⟩
                  · cases hm
                  · cases hm
                  · cases hm
                  · cases hm
                  simp only [am_okc, Bool.and_eq_true] at hm
                  obtain ⟨n, sl, K, I, L, Q⟩ := h
                  rcases st with _ | ⟨x1, _ | ⟨x2, _ | ⟨x3, _ | ⟨x4, _ | ⟨x5, r⟩⟩⟩⟩⟩
                  · cases hc
                  · cases x1 <;> cases hc
                  · cases x1 <;> cases x2 <;> cases hc
                  · cases x1 <;> cases x2 <;> cases x3 <;> cases hc
                  · cases x1 <;> cases x2 <;> cases x3 <;> cases x4 <;> cases hc
                  · cases x1 <;> first | cases hc; done | skip
                    cases x2 <;> first | cases hc; done | skip
                    cases x3 <;> first | cases hc; done | skip
                    cases x4 <;> first | cases hc; done | skip
                    cases x5 <;> first | cases hc; done | skip
                    rename_i c9 dp a sp b9
                    have hc2 : (if am_cat r ≤ 8 ∧ (K a).1 = 20 ∧ (K b9).1 = 20 ∧ ¬ c9 < 0 ∧ ¬ dp < 0 ∧ ¬ sp < 0 ∧ sp.toNatClampNeg + c9.toNatClampNeg ≤ (K b9).2 ∧ dp.toNatClampNeg + c9.toNatClampNeg ≤ (K a).2 then
        some (r, (n, sl, K, va_up I a (va_cpy (I b9) (I a) sp.toNatClampNeg dp.toNatClampNeg c9.toNatClampNeg), L, Q)) else none) = some (st', h1) := hc
                    split at hc2
                    · rename_i hcc
                      have hc4 := Option.some.inj hc2
                      obtain ⟨rfl, rfl⟩ : st' = r ∧ h1 = (n, sl, K, va_up I a (va_cpy (I b9) (I a) sp.toNatClampNeg dp.toNatClampNeg c9.toNatClampNeg), L, Q) := ⟨(congrArg Prod.fst hc4).symm, (congrArg Prod.snd hc4).symm⟩
                      have hnB : n ≤ am_B := Nat.le_trans hall.1 hmx
                      exact am_s_copy C.1 C.2.1 (by rw [C.2.2.1, hml]) C.2.2.2.1 C.2.2.2.2.1 hK (fun j hj => am_ad_lt (by omega)) (am_wd_hts C.2.2.2.2.1 hm.1.1.1) (am_wd_hts C.2.2.2.2.1 hm.1.1.2) (am_wd_hts C.2.2.2.2.1 hm.1.2) (am_wd_hts C.2.2.2.2.1 hm.2) (by omega) (by omega) hcc.1 hcc.2.1 hcc.2.2.1 hcc.2.2.2.2.2.1 hcc.2.2.2.2.1 hcc.2.2.2.1 hcc.2.2.2.2.2.2.1 hcc.2.2.2.2.2.2.2 hdec k
                    · cases hc2
                · cases hm
            intro H locs lsC hH hP hS hl
            exact sub hP H locs lsC hH hP hS hl
          · cases hr
