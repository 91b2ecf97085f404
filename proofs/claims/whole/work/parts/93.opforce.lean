/-! FORCE: both sides answer alike -/
theorem oj_force {d n sl C : Nat} {kk : Nat → Nat × Nat} {q : Nat → Nat → Option Nat} {I : Nat → Nat → Int32} {L : Nat → Nat → Int64} {ah : Nat → Nat} {M : Nat → List (Nat × Nat × List Nat)} (g : gInv n kk q I L C ah M) {x : Int32} : am_T (d + 2) 129 0 (am_ent 2 [.ref 0, .int x]) [] (n, sl, wKK kk, I, L, wQQ q) (ojQ (d + 3) 214 (am_ent 3 [.ref 80, .int x]) (ojR n sl kk I L C M)) := by
  have gB := g.2.1
  have gG := g.2.2.1
  obtain ⟨⟨b1, b2, b3⟩, b4, b5, b6, b7, b8⟩ := gG.2.2.1
  have hC200 : C ≤ 200 := by rw [← b4]; exact gB.1.2
  have h45 : I 80 45 = nI C := by rw [gB.1.1, b4]
  have h2 : I 55 2 = nI C := by rw [b6]; exact h45
  have hcl : (I 55 2).toNatClampNeg = C := by rw [h2, nI_clamp (by omega)]
  obtain ⟨hn1, hn2⟩ := now_N (L := L) gB
  have hncl : (sp_m_now I L).toNatClampNeg = nNow I := now_cl gB
  have e1 := ev_x_force (d := d) (n := n) (sl := sl) (L := L) (x := x) (by rw [hcl]; exact b1) (by rw [hcl]; exact h2) (by rw [hcl]; exact hC200)
  have e2 := ev_m_force (d := d) (n := n) (sl := sl) (k := kk) (q := q) (L := L) (x := x) (by rw [hncl]; exact hn1) (by rw [hncl]; omega)
  have he : sp_m_force x I L = sp_x_force x ah I L := by
    unfold sp_m_force sp_x_force
    by_cases h : sp_isDay x = 0
    · rw [if_pos h, if_pos (ar_mday.mpr (ar_day.mp h))]
    · have hd := (nn_iff ar_day).mp h
      rw [if_neg h, if_neg (fun q => h (ar_day.mpr (ar_mday.mp q)))]
      rw [x_nI hd.1]
      have hD : x.toInt.toNat < 400 := by omega
      rw [cruling gB b4 b5 b8 b6 hD, mruling gB hD]
      have hle := rN_le (X := I) (D := x.toInt.toNat) (nNow I)
      have hC2 := gB.1.2
      by_cases z : rN I x.toInt.toNat (nNow I) = 0
      · rw [if_pos z, if_pos (by rw [z]; rfl)]
      · rw [if_neg z, if_neg (show ¬ nI (rN I x.toInt.toNat (nNow I)) = 0 from fun q => z ((nI_eqI (a := rN I x.toInt.toNat (nNow I)) (b := 0) (by omega) (by omega)).mp q))]
  rw [he] at e2
  exact tv_e e1 ⟨_, rfl, tv_e e2 ⟨rfl, ojR_same g⟩⟩
