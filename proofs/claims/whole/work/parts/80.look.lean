/-! WHAT THE JUDGE LOOKS AT -/
/-- the facts of a day: LEAN RATE WORST WATER DAY TONS DRAWN -/
def fcZ (X : Nat → Nat → Int32) (D i : Nat) : Int := if i = 0 then (pS X D).2 else if i = 1 then (if 0 < D then (pS X D).2 - (pS X (D - 1)).2 else 0) else if i = 2 then wsZ X D else if i = 3 then watZ X D else if i = 4 then (D : Int) else if i = 5 then gT X (kn X) D else drZ X D
theorem wi_0400 {D : Nat} (h : D ≤ 400) : ¬ sp_isWithin (nI D).toInt64 0 400 = 0 := by
  unfold sp_isWithin
  rw [nI_j, jI_64 ⟨by omega, by omega⟩, show (0 : Int64) = jL 0 from rfl, show (400 : Int64) = jL 400 from rfl, if_neg (by rw [cmp_lt, jL_lt ⟨by omega, by omega⟩ ⟨by decide, by decide⟩]; omega), if_neg (by rw [cmp_gt, jL_lt ⟨by decide, by decide⟩ ⟨by omega, by omega⟩]; omega)]
  decide
def lkI (I : Nat → Nat → Int32) (i4 : Int32) (j i : Nat) : Int32 := cond (Nat.beq j 60) (cond (Nat.beq i 4) i4 (I 60 i)) (I j i)
theorem lkI_nb : ∀ {i k : Nat}, ¬ i = k → Nat.beq i k = false := fun h => Bool.eq_false_iff.mpr (fun q => h (Nat.eq_of_beq_eq_true q))
theorem lkI_w_i4 {I : Nat → Nat → Int32} {i4 : Int32} {y : Int32} : va_up (lkI I i4) 60 (upd ((lkI I i4) 60) 4 y) = lkI I y := by
  funext j i
  unfold va_up upd
  by_cases hj : j = 60
  · subst hj
    by_cases hi : i = 4
    · subst hi; rfl
    · rw [if_pos rfl, if_neg hi]; unfold lkI; simp only [lkI_nb hi, cond_false]
  · rw [if_neg hj]; unfold lkI; simp only [lkI_nb hj, cond_false]
def lkL (L : Nat → Nat → Int64) (t5 t6 f0 f1 f2 f3 f4 f5 f6 : Int64) (j i : Nat) : Int64 := cond (Nat.beq j 60) (cond (Nat.beq i 5) t5 (cond (Nat.beq i 6) t6 (L 60 i))) (cond (Nat.beq j 61) (cond (Nat.beq i 0) f0 (cond (Nat.beq i 1) f1 (cond (Nat.beq i 2) f2 (cond (Nat.beq i 3) f3 (cond (Nat.beq i 4) f4 (cond (Nat.beq i 5) f5 (cond (Nat.beq i 6) f6 (L 61 i)))))))) (L j i))
theorem lkL_nb : ∀ {i k : Nat}, ¬ i = k → Nat.beq i k = false := fun h => Bool.eq_false_iff.mpr (fun q => h (Nat.eq_of_beq_eq_true q))
theorem lkL_w_t5 {L : Nat → Nat → Int64} {t5 t6 f0 f1 f2 f3 f4 f5 f6 : Int64} {y : Int64} : va_up (lkL L t5 t6 f0 f1 f2 f3 f4 f5 f6) 60 (vp_updL ((lkL L t5 t6 f0 f1 f2 f3 f4 f5 f6) 60) 5 y) = lkL L y t6 f0 f1 f2 f3 f4 f5 f6 := by
  funext j i
  unfold va_up vp_updL
  by_cases hj : j = 60
  · subst hj
    by_cases hi : i = 5
    · subst hi; rfl
    · rw [if_pos rfl, if_neg hi]; unfold lkL; simp only [lkL_nb hi, cond_false]
  · rw [if_neg hj]; unfold lkL; simp only [lkL_nb hj, cond_false]
theorem lkL_w_t6 {L : Nat → Nat → Int64} {t5 t6 f0 f1 f2 f3 f4 f5 f6 : Int64} {y : Int64} : va_up (lkL L t5 t6 f0 f1 f2 f3 f4 f5 f6) 60 (vp_updL ((lkL L t5 t6 f0 f1 f2 f3 f4 f5 f6) 60) 6 y) = lkL L t5 y f0 f1 f2 f3 f4 f5 f6 := by
  funext j i
  unfold va_up vp_updL
  by_cases hj : j = 60
  · subst hj
    by_cases hi : i = 6
    · subst hi; rfl
    · rw [if_pos rfl, if_neg hi]; unfold lkL; simp only [lkL_nb hi, cond_false]
  · rw [if_neg hj]; unfold lkL; simp only [lkL_nb hj, cond_false]
theorem lkL_w_f0 {L : Nat → Nat → Int64} {t5 t6 f0 f1 f2 f3 f4 f5 f6 : Int64} {y : Int64} : va_up (lkL L t5 t6 f0 f1 f2 f3 f4 f5 f6) 61 (vp_updL ((lkL L t5 t6 f0 f1 f2 f3 f4 f5 f6) 61) 0 y) = lkL L t5 t6 y f1 f2 f3 f4 f5 f6 := by
  funext j i
  unfold va_up vp_updL
  by_cases hj : j = 61
  · subst hj
    by_cases hi : i = 0
    · subst hi; rfl
    · rw [if_pos rfl, if_neg hi]; unfold lkL; simp only [lkL_nb hi, cond_false]
  · rw [if_neg hj]; unfold lkL; simp only [lkL_nb hj, cond_false]
theorem lkL_w_f1 {L : Nat → Nat → Int64} {t5 t6 f0 f1 f2 f3 f4 f5 f6 : Int64} {y : Int64} : va_up (lkL L t5 t6 f0 f1 f2 f3 f4 f5 f6) 61 (vp_updL ((lkL L t5 t6 f0 f1 f2 f3 f4 f5 f6) 61) 1 y) = lkL L t5 t6 f0 y f2 f3 f4 f5 f6 := by
  funext j i
  unfold va_up vp_updL
  by_cases hj : j = 61
  · subst hj
    by_cases hi : i = 1
    · subst hi; rfl
    · rw [if_pos rfl, if_neg hi]; unfold lkL; simp only [lkL_nb hi, cond_false]
  · rw [if_neg hj]; unfold lkL; simp only [lkL_nb hj, cond_false]
theorem lkL_w_f2 {L : Nat → Nat → Int64} {t5 t6 f0 f1 f2 f3 f4 f5 f6 : Int64} {y : Int64} : va_up (lkL L t5 t6 f0 f1 f2 f3 f4 f5 f6) 61 (vp_updL ((lkL L t5 t6 f0 f1 f2 f3 f4 f5 f6) 61) 2 y) = lkL L t5 t6 f0 f1 y f3 f4 f5 f6 := by
  funext j i
  unfold va_up vp_updL
  by_cases hj : j = 61
  · subst hj
    by_cases hi : i = 2
    · subst hi; rfl
    · rw [if_pos rfl, if_neg hi]; unfold lkL; simp only [lkL_nb hi, cond_false]
  · rw [if_neg hj]; unfold lkL; simp only [lkL_nb hj, cond_false]
theorem lkL_w_f3 {L : Nat → Nat → Int64} {t5 t6 f0 f1 f2 f3 f4 f5 f6 : Int64} {y : Int64} : va_up (lkL L t5 t6 f0 f1 f2 f3 f4 f5 f6) 61 (vp_updL ((lkL L t5 t6 f0 f1 f2 f3 f4 f5 f6) 61) 3 y) = lkL L t5 t6 f0 f1 f2 y f4 f5 f6 := by
  funext j i
  unfold va_up vp_updL
  by_cases hj : j = 61
  · subst hj
    by_cases hi : i = 3
    · subst hi; rfl
    · rw [if_pos rfl, if_neg hi]; unfold lkL; simp only [lkL_nb hi, cond_false]
  · rw [if_neg hj]; unfold lkL; simp only [lkL_nb hj, cond_false]
theorem lkL_w_f4 {L : Nat → Nat → Int64} {t5 t6 f0 f1 f2 f3 f4 f5 f6 : Int64} {y : Int64} : va_up (lkL L t5 t6 f0 f1 f2 f3 f4 f5 f6) 61 (vp_updL ((lkL L t5 t6 f0 f1 f2 f3 f4 f5 f6) 61) 4 y) = lkL L t5 t6 f0 f1 f2 f3 y f5 f6 := by
  funext j i
  unfold va_up vp_updL
  by_cases hj : j = 61
  · subst hj
    by_cases hi : i = 4
    · subst hi; rfl
    · rw [if_pos rfl, if_neg hi]; unfold lkL; simp only [lkL_nb hi, cond_false]
  · rw [if_neg hj]; unfold lkL; simp only [lkL_nb hj, cond_false]
theorem lkL_w_f5 {L : Nat → Nat → Int64} {t5 t6 f0 f1 f2 f3 f4 f5 f6 : Int64} {y : Int64} : va_up (lkL L t5 t6 f0 f1 f2 f3 f4 f5 f6) 61 (vp_updL ((lkL L t5 t6 f0 f1 f2 f3 f4 f5 f6) 61) 5 y) = lkL L t5 t6 f0 f1 f2 f3 f4 y f6 := by
  funext j i
  unfold va_up vp_updL
  by_cases hj : j = 61
  · subst hj
    by_cases hi : i = 5
    · subst hi; rfl
    · rw [if_pos rfl, if_neg hi]; unfold lkL; simp only [lkL_nb hi, cond_false]
  · rw [if_neg hj]; unfold lkL; simp only [lkL_nb hj, cond_false]
theorem lkL_w_f6 {L : Nat → Nat → Int64} {t5 t6 f0 f1 f2 f3 f4 f5 f6 : Int64} {y : Int64} : va_up (lkL L t5 t6 f0 f1 f2 f3 f4 f5 f6) 61 (vp_updL ((lkL L t5 t6 f0 f1 f2 f3 f4 f5 f6) 61) 6 y) = lkL L t5 t6 f0 f1 f2 f3 f4 f5 y := by
  funext j i
  unfold va_up vp_updL
  by_cases hj : j = 61
  · subst hj
    by_cases hi : i = 6
    · subst hi; rfl
    · rw [if_pos rfl, if_neg hi]; unfold lkL; simp only [lkL_nb hi, cond_false]
  · rw [if_neg hj]; unfold lkL; simp only [lkL_nb hj, cond_false]
theorem lkI_n {I : Nat → Nat → Int32} {i4 : Int32} {j : Nat} (h : j ≠ 60) : lkI I i4 j = I j := by
  funext i
  unfold lkI
  rw [rdI_nb h]
  rfl
theorem lkL_n {L : Nat → Nat → Int64} {t5 t6 f0 f1 f2 f3 f4 f5 f6 : Int64} {j : Nat} (h : j ≠ 60) (h2 : j ≠ 61) : lkL L t5 t6 f0 f1 f2 f3 f4 f5 f6 j = L j := by
  funext i
  unfold lkL
  rw [rdI_nb h, rdI_nb h2]
  rfl
theorem lkI_self {I : Nat → Nat → Int32} : I = lkI I (I 60 4) := by
  funext j i
  unfold lkI
  by_cases h : j = 60
  · subst h
    by_cases h2 : i = 4
    · subst h2; rfl
    · rw [rdI_nb h2]; rfl
  · rw [rdI_nb h]; rfl
theorem lkL_self {L : Nat → Nat → Int64} : L = lkL L (L 60 5) (L 60 6) (L 61 0) (L 61 1) (L 61 2) (L 61 3) (L 61 4) (L 61 5) (L 61 6) := by
  funext j i
  unfold lkL
  by_cases h : j = 60
  · subst h
    by_cases h2 : i = 5
    · subst h2; rfl
    · by_cases h3 : i = 6
      · subst h3; rfl
      · rw [rdI_nb h2, rdI_nb h3]; rfl
  · by_cases h1 : j = 61
    · subst h1
      by_cases z0 : i = 0
      · subst z0; rfl
      · by_cases z1 : i = 1
        · subst z1; rfl
        · by_cases z2 : i = 2
          · subst z2; rfl
          · by_cases z3 : i = 3
            · subst z3; rfl
            · by_cases z4 : i = 4
              · subst z4; rfl
              · by_cases z5 : i = 5
                · subst z5; rfl
                · by_cases z6 : i = 6
                  · subst z6; rfl
                  · rw [rdI_nb z0, rdI_nb z1, rdI_nb z2, rdI_nb z3, rdI_nb z4, rdI_nb z5, rdI_nb z6]; rfl
    · rw [rdI_nb h, rdI_nb h1]; rfl
theorem ev_leanZ {d n sl : Nat} {kk : Nat → Nat × Nat} {I : Nat → Nat → Int32} {L : Nat → Nat → Int64} {q : Nat → Nat → Option Nat} {X : Nat → Nat → Int32} {D : Nat} (hD : D ≤ 400) (hr : cRow I L X D) : am_Ev (d + 1) 28 0 (am_ent 2 [.ref 13, .int (nI D)]) [] (n, sl, wKK kk, I, L, wQQ q) (some (.int (jI (pS X D).2)), (n, sl, wKK kk, I, L, wQQ q)) := by
  have e := ev_d_leanAt (d := d) (n := n) (sl := sl) (k := kk) (I := I) (L := L) (q := q) (x := nI D)
  have e2 : sp_d_leanAt (nI D) I L = jI (pS X D).2 := by
    unfold sp_d_leanAt
    rw [if_neg (wi_0400 hD), nI_clamp (by omega)]
    exact hr.1
  rw [e2] at e
  exact e
theorem ev_worstZ {d n sl : Nat} {kk : Nat → Nat × Nat} {I : Nat → Nat → Int32} {L : Nat → Nat → Int64} {q : Nat → Nat → Option Nat} {X : Nat → Nat → Int32} {D : Nat} (hD : D ≤ 400) (hr : cRow I L X D) : am_Ev (d + 1) 29 0 (am_ent 2 [.ref 13, .int (nI D)]) [] (n, sl, wKK kk, I, L, wQQ q) (some (.int (jI (wsZ X D))), (n, sl, wKK kk, I, L, wQQ q)) := by
  have e := ev_d_worstAt (d := d) (n := n) (sl := sl) (k := kk) (I := I) (L := L) (q := q) (x := nI D)
  have e2 : sp_d_worstAt (nI D) I L = jI (wsZ X D) := by
    unfold sp_d_worstAt
    rw [if_neg (wi_0400 hD), nI_clamp (by omega)]
    exact hr.2.1
  rw [e2] at e
  exact e
theorem ev_drawnZ {d n sl : Nat} {kk : Nat → Nat × Nat} {I : Nat → Nat → Int32} {L : Nat → Nat → Int64} {q : Nat → Nat → Option Nat} {X : Nat → Nat → Int32} {D : Nat} (hD : D ≤ 400) (hr : cRow I L X D) : am_Ev (d + 1) 30 0 (am_ent 2 [.ref 13, .int (nI D)]) [] (n, sl, wKK kk, I, L, wQQ q) (some (.int (jI (drZ X D))), (n, sl, wKK kk, I, L, wQQ q)) := by
  have e := ev_d_drawnAt (d := d) (n := n) (sl := sl) (k := kk) (I := I) (L := L) (q := q) (x := nI D)
  have e2 : sp_d_drawnAt (nI D) I L = jI (drZ X D) := by
    unfold sp_d_drawnAt
    rw [if_neg (wi_0400 hD), nI_clamp (by omega)]
    exact hr.2.2.1
  rw [e2] at e
  exact e
theorem ev_leadZ {d n sl : Nat} {kk : Nat → Nat × Nat} {I : Nat → Nat → Int32} {L : Nat → Nat → Int64} {q : Nat → Nat → Option Nat} {X : Nat → Nat → Int32} {D : Nat} (hD : D < 400) (hs : cSum I L X (kn X)) : am_Ev (d + 1) 31 0 (am_ent 2 [.ref 13, .int (nI D)]) [] (n, sl, wKK kk, I, L, wQQ q) (some (.int (jI (gT X (kn X) D))), (n, sl, wKK kk, I, L, wQQ q)) := by
  have e := ev_d_leadOn (d := d) (n := n) (sl := sl) (k := kk) (I := I) (L := L) (q := q) (x := nI D)
  have e2 : sp_d_leadOn (nI D) I L = jI (gT X (kn X) D) := by
    unfold sp_d_leadOn
    rw [if_neg (sp_isDay_nI hD), nI_clamp (by omega)]
    exact (hs D hD).1
  rw [e2] at e
  exact e
theorem ev_wetZ {d n sl : Nat} {kk : Nat → Nat × Nat} {I : Nat → Nat → Int32} {L : Nat → Nat → Int64} {q : Nat → Nat → Option Nat} {X : Nat → Nat → Int32} {D : Nat} (hD : D < 400) (hw : cWet I X) : am_Ev (d + 1) 107 0 (am_ent 2 [.ref 1, .int (nI D)]) [] (n, sl, wKK kk, I, L, wQQ q) (some (.int (jI (watZ X D))), (n, sl, wKK kk, I, L, wQQ q)) := by
  have e := ev_wet_on (d := d) (n := n) (sl := sl) (k := kk) (I := I) (L := L) (q := q) (x := nI D)
  have e2 : sp_wet_on (nI D) I L = jI (watZ X D) := by
    unfold sp_wet_on
    rw [if_neg (sp_isDay_nI hD), nI_clamp (by omega), hw D hD]
    unfold watZ
    rw [jI_self]
  rw [e2] at e
  exact e
theorem ev_totZ {d n sl : Nat} {kk : Nat → Nat × Nat} {I : Nat → Nat → Int32} {L : Nat → Nat → Int64} {q : Nat → Nat → Option Nat} {X : Nat → Nat → Int32} {D : Nat} (hD : D < 400) (hc : cTow I X) (hs : cSum I L X (kn X)) (hB : wfB X) : am_Ev (d + 2) 33 0 (am_ent 2 [.ref 13, .int (nI D)]) [] (n, sl, wKK kk, I, L, wQQ q) (some (.long (jL (tot X D))), (n, sl, wKK kk, I, L, wQQ q)) := by
  have e := ev_d_totalOn (d := d) (n := n) (sl := sl) (k := kk) (I := I) (L := L) (q := q) (x := nI D)
  rw [ctot_j hc hs hB hD] at e
  exact e
theorem ev_momZ {d n sl : Nat} {kk : Nat → Nat × Nat} {I : Nat → Nat → Int32} {L : Nat → Nat → Int64} {q : Nat → Nat → Option Nat} {X : Nat → Nat → Int32} {D : Nat} {l : Int} (hD : D < 400) (hc : cTow I X) (hs : cSum I L X (kn X)) (hT : wfT X) (hl : -1000000000 ≤ l ∧ l ≤ 1000000000) : am_Ev (d + 3) 34 0 (am_ent 3 [.ref 13, .int (nI D), .int (jI l)]) [] (n, sl, wKK kk, I, L, wQQ q) (some (.long (jL (mom X D l))), (n, sl, wKK kk, I, L, wQQ q)) := by
  have e := ev_d_momentOn (d := d) (n := n) (sl := sl) (k := kk) (I := I) (L := L) (q := q) (x := nI D) (l := jI l)
  rw [cmom_j hc hs hT hD hl] at e
  exact e
set_option maxHeartbeats 4000000 in
theorem ev_j_lookAt {d n sl : Nat} {kk : Nat → Nat × Nat} {I : Nat → Nat → Int32} {L : Nat → Nat → Int64} {q : Nat → Nat → Option Nat} {X : Nat → Nat → Int32} {D : Nat} (hD : D < 400) (hc : cTow I X) (hw : cWet I X) (hs : cSum I L X (kn X)) (hT : wfT X) (hB : wfB X) (hr : cRow I L X D) (hr1 : 0 < D → cRow I L X (D - 1)) : am_Ev (d + 4) 53 0 (am_ent 2 [.ref 60, .int (nI D)]) [] (n, sl, wKK kk, I, L, wQQ q) (none, (n, sl, wKK kk, (lkI I (nI D)), (lkL L (jL (tot X D)) (jL (mom X D (pS X D).2)) (jL (fcZ X D 0)) (jL (fcZ X D 1)) (jL (fcZ X D 2)) (jL (fcZ X D 3)) (jL (fcZ X D 4)) (jL (fcZ X D 5)) (jL (fcZ X D 6))), wQQ q)) := by
  refine tv_ev ?_
  refine tv_hI lkI_self ?_
  refine tv_hL lkL_self ?_
  have hb := (pS_b hT hB D (by omega)).2
  have hg := gT_b (f := kn X) hB D
  have hwb := wat_b hT hD
  have hws := wsZ_b hT hB D (by omega)
  have hdr := drZ_b hB D
  show am_T _ _ 0 [some (.ref 60), some (.int (nI D))] _ _ _
  refine tv_b (pc' := 5) (ls' := [some (.ref 60), some (.int (nI D))]) (st' := []) (h' := (n, sl, wKK kk, va_up (lkI I (I 60 4)) 60 (upd ((lkI I (I 60 4)) 60) 4 (nI D)), (lkL L (L 60 5) (L 60 6) (L 61 0) (L 61 1) (L 61 2) (L 61 3) (L 61 4) (L 61 5) (L 61 6)), wQQ q)) 3 rfl ?_
  refine tv_hI lkI_w_i4 ?_
  refine tv_b (pc' := 11) (ls' := [some (.ref 60), some (.int (nI D))]) (st' := [.int (nI D), .ref 13, .ref 60]) (h' := (n, sl, wKK kk, (lkI I (nI D)), (lkL L (L 60 5) (L 60 6) (L 61 0) (L 61 1) (L 61 2) (L 61 3) (L 61 4) (L 61 5) (L 61 6)), wQQ q)) 4 rfl ?_
  refine tv_cvE [.int (nI D)] [.ref 60] rfl rfl (by omega) rfl (Nat.le_of_ble_eq_true rfl) (Nat.le_of_ble_eq_true rfl) (Or.inr (Or.inr rfl)) (ev_totZ hD hc (fun dd hdd => ⟨(hs dd hdd).1, (hs dd hdd).2.1, (hs dd hdd).2.2.1, fun c hc => by rw [lkI_n (by omega)]; exact (hs dd hdd).2.2.2 c hc⟩) hB) ?_
  refine tv_b (pc' := 17) (ls' := [some (.ref 60), some (.int (nI D))]) (st' := []) (h' := (n, sl, wKK kk, (lkI I (nI D)), va_up (lkL L (L 60 5) (L 60 6) (L 61 0) (L 61 1) (L 61 2) (L 61 3) (L 61 4) (L 61 5) (L 61 6)) 60 (vp_updL ((lkL L (L 60 5) (L 60 6) (L 61 0) (L 61 1) (L 61 2) (L 61 3) (L 61 4) (L 61 5) (L 61 6)) 60) 5 (jL (tot X D))), wQQ q)) 1 rfl ?_
  refine tv_hL lkL_w_t5 ?_
  refine tv_b (pc' := 28) (ls' := [some (.ref 60), some (.int (nI D))]) (st' := [.int (nI D), .ref 13, .int (nI D), .ref 13, .ref 60]) (h' := (n, sl, wKK kk, (lkI I (nI D)), (lkL L (jL (tot X D)) (L 60 6) (L 61 0) (L 61 1) (L 61 2) (L 61 3) (L 61 4) (L 61 5) (L 61 6)), wQQ q)) 7 rfl ?_
  refine tv_cvE [.int (nI D)] [.int (nI D), .ref 13, .ref 60] rfl rfl (by omega) rfl (Nat.le_of_ble_eq_true rfl) (Nat.le_of_ble_eq_true rfl) (Or.inr (Or.inr rfl)) (ev_leanZ (X := X) (by omega) (⟨hr.1, hr.2.1, hr.2.2.1, fun c hc => by rw [lkL_n (by omega) (by omega)]; exact hr.2.2.2 c hc⟩)) ?_
  refine tv_cvE [.int (nI D), .int (jI (pS X D).2)] [.ref 60] rfl rfl (by omega) rfl (Nat.le_of_ble_eq_true rfl) (Nat.le_of_ble_eq_true rfl) (Or.inr (Or.inr rfl)) (ev_momZ hD hc (fun dd hdd => ⟨(hs dd hdd).1, (hs dd hdd).2.1, (hs dd hdd).2.2.1, fun c hc => by rw [lkI_n (by omega)]; exact (hs dd hdd).2.2.2 c hc⟩) hT hb) ?_
  refine tv_b (pc' := 37) (ls' := [some (.ref 60), some (.int (nI D))]) (st' := []) (h' := (n, sl, wKK kk, (lkI I (nI D)), va_up (lkL L (jL (tot X D)) (L 60 6) (L 61 0) (L 61 1) (L 61 2) (L 61 3) (L 61 4) (L 61 5) (L 61 6)) 60 (vp_updL ((lkL L (jL (tot X D)) (L 60 6) (L 61 0) (L 61 1) (L 61 2) (L 61 3) (L 61 4) (L 61 5) (L 61 6)) 60) 6 (jL (mom X D (pS X D).2))), wQQ q)) 1 rfl ?_
  refine tv_hL lkL_w_t6 ?_
  refine tv_b (pc' := 47) (ls' := [some (.ref 60), some (.int (nI D))]) (st' := [.int (nI D), .ref 13, .int 0, .ref 61]) (h' := (n, sl, wKK kk, (lkI I (nI D)), (lkL L (jL (tot X D)) (jL (mom X D (pS X D).2)) (L 61 0) (L 61 1) (L 61 2) (L 61 3) (L 61 4) (L 61 5) (L 61 6)), wQQ q)) 6 rfl ?_
  refine tv_cvE [.int (nI D)] [.int 0, .ref 61] rfl rfl (by omega) rfl (Nat.le_of_ble_eq_true rfl) (Nat.le_of_ble_eq_true rfl) (Or.inr (Or.inr rfl)) (ev_leanZ (X := X) (by omega) (⟨hr.1, hr.2.1, hr.2.2.1, fun c hc => by rw [lkL_n (by omega) (by omega)]; exact hr.2.2.2 c hc⟩)) ?_
  refine tv_b (pc' := 52) (ls' := [some (.ref 60), some (.int (nI D))]) (st' := []) (h' := (n, sl, wKK kk, (lkI I (nI D)), va_up (lkL L (jL (tot X D)) (jL (mom X D (pS X D).2)) (L 61 0) (L 61 1) (L 61 2) (L 61 3) (L 61 4) (L 61 5) (L 61 6)) 61 (vp_updL ((lkL L (jL (tot X D)) (jL (mom X D (pS X D).2)) (L 61 0) (L 61 1) (L 61 2) (L 61 3) (L 61 4) (L 61 5) (L 61 6)) 61) 0 ((jI (pS X D).2).toInt64)), wQQ q)) 2 rfl ?_
  refine tv_hL lkL_w_f0 ?_
  refine tv_b (pc' := (if (nI D) ≤ 0 then 85 else 61)) (ls' := [some (.ref 60), some (.int (nI D))]) (st' := [.int 1, .ref 61]) (h' := (n, sl, wKK kk, (lkI I (nI D)), (lkL L (jL (tot X D)) (jL (mom X D (pS X D).2)) ((jI (pS X D).2).toInt64) (L 61 1) (L 61 2) (L 61 3) (L 61 4) (L 61 5) (L 61 6)), wQQ q)) 5 rfl ?_
  refine tv_ifq (nI_leI (a := D) (b := 0) (by omega) (by omega)) (fun c58 => ?_) (fun c58 => ?_)
  · refine tv_b (pc' := 87) (ls' := [some (.ref 60), some (.int (nI D))]) (st' := []) (h' := (n, sl, wKK kk, (lkI I (nI D)), va_up (lkL L (jL (tot X D)) (jL (mom X D (pS X D).2)) ((jI (pS X D).2).toInt64) (L 61 1) (L 61 2) (L 61 3) (L 61 4) (L 61 5) (L 61 6)) 61 (vp_updL ((lkL L (jL (tot X D)) (jL (mom X D (pS X D).2)) ((jI (pS X D).2).toInt64) (L 61 1) (L 61 2) (L 61 3) (L 61 4) (L 61 5) (L 61 6)) 61) 1 0), wQQ q)) 2 rfl ?_
    refine tv_hL lkL_w_f1 ?_
    refine tv_b (pc' := 97) (ls' := [some (.ref 60), some (.int (nI D))]) (st' := [.int (nI D), .ref 13, .int 2, .ref 61]) (h' := (n, sl, wKK kk, (lkI I (nI D)), (lkL L (jL (tot X D)) (jL (mom X D (pS X D).2)) ((jI (pS X D).2).toInt64) 0 (L 61 2) (L 61 3) (L 61 4) (L 61 5) (L 61 6)), wQQ q)) 6 rfl ?_
    refine tv_cvE [.int (nI D)] [.int 2, .ref 61] rfl rfl (by omega) rfl (Nat.le_of_ble_eq_true rfl) (Nat.le_of_ble_eq_true rfl) (Or.inr (Or.inr rfl)) (ev_worstZ (X := X) (by omega) (⟨hr.1, hr.2.1, hr.2.2.1, fun c hc => by rw [lkL_n (by omega) (by omega)]; exact hr.2.2.2 c hc⟩)) ?_
    refine tv_b (pc' := 102) (ls' := [some (.ref 60), some (.int (nI D))]) (st' := []) (h' := (n, sl, wKK kk, (lkI I (nI D)), va_up (lkL L (jL (tot X D)) (jL (mom X D (pS X D).2)) ((jI (pS X D).2).toInt64) 0 (L 61 2) (L 61 3) (L 61 4) (L 61 5) (L 61 6)) 61 (vp_updL ((lkL L (jL (tot X D)) (jL (mom X D (pS X D).2)) ((jI (pS X D).2).toInt64) 0 (L 61 2) (L 61 3) (L 61 4) (L 61 5) (L 61 6)) 61) 2 ((jI (wsZ X D)).toInt64)), wQQ q)) 2 rfl ?_
    refine tv_hL lkL_w_f2 ?_
    refine tv_b (pc' := 112) (ls' := [some (.ref 60), some (.int (nI D))]) (st' := [.int (nI D), .ref 1, .int 3, .ref 61]) (h' := (n, sl, wKK kk, (lkI I (nI D)), (lkL L (jL (tot X D)) (jL (mom X D (pS X D).2)) ((jI (pS X D).2).toInt64) 0 ((jI (wsZ X D)).toInt64) (L 61 3) (L 61 4) (L 61 5) (L 61 6)), wQQ q)) 6 rfl ?_
    refine tv_cvE [.int (nI D)] [.int 3, .ref 61] rfl rfl (by omega) rfl (Nat.le_of_ble_eq_true rfl) (Nat.le_of_ble_eq_true rfl) (Or.inr (Or.inr rfl)) (ev_wetZ (X := X) hD hw) ?_
    refine tv_b (pc' := 117) (ls' := [some (.ref 60), some (.int (nI D))]) (st' := []) (h' := (n, sl, wKK kk, (lkI I (nI D)), va_up (lkL L (jL (tot X D)) (jL (mom X D (pS X D).2)) ((jI (pS X D).2).toInt64) 0 ((jI (wsZ X D)).toInt64) (L 61 3) (L 61 4) (L 61 5) (L 61 6)) 61 (vp_updL ((lkL L (jL (tot X D)) (jL (mom X D (pS X D).2)) ((jI (pS X D).2).toInt64) 0 ((jI (wsZ X D)).toInt64) (L 61 3) (L 61 4) (L 61 5) (L 61 6)) 61) 3 ((jI (watZ X D)).toInt64)), wQQ q)) 2 rfl ?_
    refine tv_hL lkL_w_f3 ?_
    refine tv_b (pc' := 128) (ls' := [some (.ref 60), some (.int (nI D))]) (st' := []) (h' := (n, sl, wKK kk, (lkI I (nI D)), va_up (lkL L (jL (tot X D)) (jL (mom X D (pS X D).2)) ((jI (pS X D).2).toInt64) 0 ((jI (wsZ X D)).toInt64) ((jI (watZ X D)).toInt64) (L 61 4) (L 61 5) (L 61 6)) 61 (vp_updL ((lkL L (jL (tot X D)) (jL (mom X D (pS X D).2)) ((jI (pS X D).2).toInt64) 0 ((jI (wsZ X D)).toInt64) ((jI (watZ X D)).toInt64) (L 61 4) (L 61 5) (L 61 6)) 61) 4 ((nI D).toInt64)), wQQ q)) 7 rfl ?_
    refine tv_hL lkL_w_f4 ?_
    refine tv_b (pc' := 138) (ls' := [some (.ref 60), some (.int (nI D))]) (st' := [.int (nI D), .ref 13, .int 5, .ref 61]) (h' := (n, sl, wKK kk, (lkI I (nI D)), (lkL L (jL (tot X D)) (jL (mom X D (pS X D).2)) ((jI (pS X D).2).toInt64) 0 ((jI (wsZ X D)).toInt64) ((jI (watZ X D)).toInt64) ((nI D).toInt64) (L 61 5) (L 61 6)), wQQ q)) 6 rfl ?_
    refine tv_cvE [.int (nI D)] [.int 5, .ref 61] rfl rfl (by omega) rfl (Nat.le_of_ble_eq_true rfl) (Nat.le_of_ble_eq_true rfl) (Or.inr (Or.inr rfl)) (ev_leadZ (X := X) hD (fun dd hdd => ⟨(hs dd hdd).1, (hs dd hdd).2.1, (hs dd hdd).2.2.1, fun c hc => by rw [lkI_n (by omega)]; exact (hs dd hdd).2.2.2 c hc⟩)) ?_
    refine tv_b (pc' := 143) (ls' := [some (.ref 60), some (.int (nI D))]) (st' := []) (h' := (n, sl, wKK kk, (lkI I (nI D)), va_up (lkL L (jL (tot X D)) (jL (mom X D (pS X D).2)) ((jI (pS X D).2).toInt64) 0 ((jI (wsZ X D)).toInt64) ((jI (watZ X D)).toInt64) ((nI D).toInt64) (L 61 5) (L 61 6)) 61 (vp_updL ((lkL L (jL (tot X D)) (jL (mom X D (pS X D).2)) ((jI (pS X D).2).toInt64) 0 ((jI (wsZ X D)).toInt64) ((jI (watZ X D)).toInt64) ((nI D).toInt64) (L 61 5) (L 61 6)) 61) 5 ((jI (gT X (kn X) D)).toInt64)), wQQ q)) 2 rfl ?_
    refine tv_hL lkL_w_f5 ?_
    refine tv_b (pc' := 154) (ls' := [some (.ref 60), some (.int (nI D))]) (st' := [.int (nI D), .ref 13, .int 6, .ref 61]) (h' := (n, sl, wKK kk, (lkI I (nI D)), (lkL L (jL (tot X D)) (jL (mom X D (pS X D).2)) ((jI (pS X D).2).toInt64) 0 ((jI (wsZ X D)).toInt64) ((jI (watZ X D)).toInt64) ((nI D).toInt64) ((jI (gT X (kn X) D)).toInt64) (L 61 6)), wQQ q)) 6 rfl ?_
    refine tv_cvE [.int (nI D)] [.int 6, .ref 61] rfl rfl (by omega) rfl (Nat.le_of_ble_eq_true rfl) (Nat.le_of_ble_eq_true rfl) (Or.inr (Or.inr rfl)) (ev_drawnZ (X := X) (by omega) (⟨hr.1, hr.2.1, hr.2.2.1, fun c hc => by rw [lkL_n (by omega) (by omega)]; exact hr.2.2.2 c hc⟩)) ?_
    refine tv_b (pc' := 159) (ls' := [some (.ref 60), some (.int (nI D))]) (st' := []) (h' := (n, sl, wKK kk, (lkI I (nI D)), va_up (lkL L (jL (tot X D)) (jL (mom X D (pS X D).2)) ((jI (pS X D).2).toInt64) 0 ((jI (wsZ X D)).toInt64) ((jI (watZ X D)).toInt64) ((nI D).toInt64) ((jI (gT X (kn X) D)).toInt64) (L 61 6)) 61 (vp_updL ((lkL L (jL (tot X D)) (jL (mom X D (pS X D).2)) ((jI (pS X D).2).toInt64) 0 ((jI (wsZ X D)).toInt64) ((jI (watZ X D)).toInt64) ((nI D).toInt64) ((jI (gT X (kn X) D)).toInt64) (L 61 6)) 61) 6 ((jI (drZ X D)).toInt64)), wQQ q)) 2 rfl ?_
    refine tv_hL lkL_w_f6 ?_
    refine tv_hL (L' := (lkL L (jL (tot X D)) (jL (mom X D (pS X D).2)) (jL (fcZ X D 0)) (jL (fcZ X D 1)) (jL (fcZ X D 2)) (jL (fcZ X D 3)) (jL (fcZ X D 4)) (jL (fcZ X D 5)) (jL (fcZ X D 6)))) ?_ (tv_rv rfl ⟨rfl, rfl⟩)
    rw [nI_j, jI_64 (z := (pS X D).2) ⟨by omega, by omega⟩, jI_64 (z := wsZ X D) ⟨by omega, by omega⟩, jI_64 (z := watZ X D) ⟨by omega, by omega⟩, jI_64 (z := (D : Int)) ⟨by omega, by omega⟩, jI_64 (z := gT X (kn X) D) ⟨by omega, by omega⟩, jI_64 (z := drZ X D) ⟨by omega, by omega⟩]
    have e1 : fcZ X D 1 = 0 := by unfold fcZ; rw [if_neg (by decide), if_pos rfl, if_neg (by omega)]
    rw [e1]
    rfl
  · refine tv_b (pc' := 66) (ls' := [some (.ref 60), some (.int (nI D))]) (st' := [.int (nI D), .ref 13, .int 1, .ref 61]) (h' := (n, sl, wKK kk, (lkI I (nI D)), (lkL L (jL (tot X D)) (jL (mom X D (pS X D).2)) ((jI (pS X D).2).toInt64) (L 61 1) (L 61 2) (L 61 3) (L 61 4) (L 61 5) (L 61 6)), wQQ q)) 3 rfl ?_
    refine tv_cvE [.int (nI D)] [.int 1, .ref 61] rfl rfl (by omega) rfl (Nat.le_of_ble_eq_true rfl) (Nat.le_of_ble_eq_true rfl) (Or.inr (Or.inr rfl)) (ev_leanZ (X := X) (by omega) (⟨hr.1, hr.2.1, hr.2.2.1, fun c hc => by rw [lkL_n (by omega) (by omega)]; exact hr.2.2.2 c hc⟩)) ?_
    refine tv_b (pc' := 76) (ls' := [some (.ref 60), some (.int (nI D))]) (st' := [.int 1, .int (nI D), .ref 13, .long ((jI (pS X D).2).toInt64), .int 1, .ref 61]) (h' := (n, sl, wKK kk, (lkI I (nI D)), (lkL L (jL (tot X D)) (jL (mom X D (pS X D).2)) ((jI (pS X D).2).toInt64) (L 61 1) (L 61 2) (L 61 3) (L 61 4) (L 61 5) (L 61 6)), wQQ q)) 5 rfl ?_
    refine tv_b (pc' := 77) (ls' := [some (.ref 60), some (.int (nI D))]) (st' := [.int ((nI D) - 1), .ref 13, .long ((jI (pS X D).2).toInt64), .int 1, .ref 61]) (h' := (n, sl, wKK kk, (lkI I (nI D)), (lkL L (jL (tot X D)) (jL (mom X D (pS X D).2)) ((jI (pS X D).2).toInt64) (L 61 1) (L 61 2) (L 61 3) (L 61 4) (L 61 5) (L 61 6)), wQQ q)) 1 rfl ?_
    refine tv_top (show (nI D) - 1 = nI (D - 1) from nI_sub (a := D) (b := 1) (by omega)) ?_
    refine tv_cvE [.int (nI (D - 1))] [.long ((jI (pS X D).2).toInt64), .int 1, .ref 61] rfl rfl (by omega) rfl (Nat.le_of_ble_eq_true rfl) (Nat.le_of_ble_eq_true rfl) (Or.inr (Or.inr rfl)) (ev_leanZ (X := X) (D := D - 1) (by omega) (⟨(hr1 (by omega)).1, (hr1 (by omega)).2.1, (hr1 (by omega)).2.2.1, fun c hc => by rw [lkL_n (by omega) (by omega)]; exact (hr1 (by omega)).2.2.2 c hc⟩)) ?_
    refine tv_b (pc' := 87) (ls' := [some (.ref 60), some (.int (nI D))]) (st' := []) (h' := (n, sl, wKK kk, (lkI I (nI D)), va_up (lkL L (jL (tot X D)) (jL (mom X D (pS X D).2)) ((jI (pS X D).2).toInt64) (L 61 1) (L 61 2) (L 61 3) (L 61 4) (L 61 5) (L 61 6)) 61 (vp_updL ((lkL L (jL (tot X D)) (jL (mom X D (pS X D).2)) ((jI (pS X D).2).toInt64) (L 61 1) (L 61 2) (L 61 3) (L 61 4) (L 61 5) (L 61 6)) 61) 1 (((jI (pS X D).2).toInt64) - ((jI (pS X (D - 1)).2).toInt64))), wQQ q)) 4 rfl ?_
    refine tv_hL lkL_w_f1 ?_
    refine tv_b (pc' := 97) (ls' := [some (.ref 60), some (.int (nI D))]) (st' := [.int (nI D), .ref 13, .int 2, .ref 61]) (h' := (n, sl, wKK kk, (lkI I (nI D)), (lkL L (jL (tot X D)) (jL (mom X D (pS X D).2)) ((jI (pS X D).2).toInt64) (((jI (pS X D).2).toInt64) - ((jI (pS X (D - 1)).2).toInt64)) (L 61 2) (L 61 3) (L 61 4) (L 61 5) (L 61 6)), wQQ q)) 6 rfl ?_
    refine tv_cvE [.int (nI D)] [.int 2, .ref 61] rfl rfl (by omega) rfl (Nat.le_of_ble_eq_true rfl) (Nat.le_of_ble_eq_true rfl) (Or.inr (Or.inr rfl)) (ev_worstZ (X := X) (by omega) (⟨hr.1, hr.2.1, hr.2.2.1, fun c hc => by rw [lkL_n (by omega) (by omega)]; exact hr.2.2.2 c hc⟩)) ?_
    refine tv_b (pc' := 102) (ls' := [some (.ref 60), some (.int (nI D))]) (st' := []) (h' := (n, sl, wKK kk, (lkI I (nI D)), va_up (lkL L (jL (tot X D)) (jL (mom X D (pS X D).2)) ((jI (pS X D).2).toInt64) (((jI (pS X D).2).toInt64) - ((jI (pS X (D - 1)).2).toInt64)) (L 61 2) (L 61 3) (L 61 4) (L 61 5) (L 61 6)) 61 (vp_updL ((lkL L (jL (tot X D)) (jL (mom X D (pS X D).2)) ((jI (pS X D).2).toInt64) (((jI (pS X D).2).toInt64) - ((jI (pS X (D - 1)).2).toInt64)) (L 61 2) (L 61 3) (L 61 4) (L 61 5) (L 61 6)) 61) 2 ((jI (wsZ X D)).toInt64)), wQQ q)) 2 rfl ?_
    refine tv_hL lkL_w_f2 ?_
    refine tv_b (pc' := 112) (ls' := [some (.ref 60), some (.int (nI D))]) (st' := [.int (nI D), .ref 1, .int 3, .ref 61]) (h' := (n, sl, wKK kk, (lkI I (nI D)), (lkL L (jL (tot X D)) (jL (mom X D (pS X D).2)) ((jI (pS X D).2).toInt64) (((jI (pS X D).2).toInt64) - ((jI (pS X (D - 1)).2).toInt64)) ((jI (wsZ X D)).toInt64) (L 61 3) (L 61 4) (L 61 5) (L 61 6)), wQQ q)) 6 rfl ?_
    refine tv_cvE [.int (nI D)] [.int 3, .ref 61] rfl rfl (by omega) rfl (Nat.le_of_ble_eq_true rfl) (Nat.le_of_ble_eq_true rfl) (Or.inr (Or.inr rfl)) (ev_wetZ (X := X) hD hw) ?_
    refine tv_b (pc' := 117) (ls' := [some (.ref 60), some (.int (nI D))]) (st' := []) (h' := (n, sl, wKK kk, (lkI I (nI D)), va_up (lkL L (jL (tot X D)) (jL (mom X D (pS X D).2)) ((jI (pS X D).2).toInt64) (((jI (pS X D).2).toInt64) - ((jI (pS X (D - 1)).2).toInt64)) ((jI (wsZ X D)).toInt64) (L 61 3) (L 61 4) (L 61 5) (L 61 6)) 61 (vp_updL ((lkL L (jL (tot X D)) (jL (mom X D (pS X D).2)) ((jI (pS X D).2).toInt64) (((jI (pS X D).2).toInt64) - ((jI (pS X (D - 1)).2).toInt64)) ((jI (wsZ X D)).toInt64) (L 61 3) (L 61 4) (L 61 5) (L 61 6)) 61) 3 ((jI (watZ X D)).toInt64)), wQQ q)) 2 rfl ?_
    refine tv_hL lkL_w_f3 ?_
    refine tv_b (pc' := 128) (ls' := [some (.ref 60), some (.int (nI D))]) (st' := []) (h' := (n, sl, wKK kk, (lkI I (nI D)), va_up (lkL L (jL (tot X D)) (jL (mom X D (pS X D).2)) ((jI (pS X D).2).toInt64) (((jI (pS X D).2).toInt64) - ((jI (pS X (D - 1)).2).toInt64)) ((jI (wsZ X D)).toInt64) ((jI (watZ X D)).toInt64) (L 61 4) (L 61 5) (L 61 6)) 61 (vp_updL ((lkL L (jL (tot X D)) (jL (mom X D (pS X D).2)) ((jI (pS X D).2).toInt64) (((jI (pS X D).2).toInt64) - ((jI (pS X (D - 1)).2).toInt64)) ((jI (wsZ X D)).toInt64) ((jI (watZ X D)).toInt64) (L 61 4) (L 61 5) (L 61 6)) 61) 4 ((nI D).toInt64)), wQQ q)) 7 rfl ?_
    refine tv_hL lkL_w_f4 ?_
    refine tv_b (pc' := 138) (ls' := [some (.ref 60), some (.int (nI D))]) (st' := [.int (nI D), .ref 13, .int 5, .ref 61]) (h' := (n, sl, wKK kk, (lkI I (nI D)), (lkL L (jL (tot X D)) (jL (mom X D (pS X D).2)) ((jI (pS X D).2).toInt64) (((jI (pS X D).2).toInt64) - ((jI (pS X (D - 1)).2).toInt64)) ((jI (wsZ X D)).toInt64) ((jI (watZ X D)).toInt64) ((nI D).toInt64) (L 61 5) (L 61 6)), wQQ q)) 6 rfl ?_
    refine tv_cvE [.int (nI D)] [.int 5, .ref 61] rfl rfl (by omega) rfl (Nat.le_of_ble_eq_true rfl) (Nat.le_of_ble_eq_true rfl) (Or.inr (Or.inr rfl)) (ev_leadZ (X := X) hD (fun dd hdd => ⟨(hs dd hdd).1, (hs dd hdd).2.1, (hs dd hdd).2.2.1, fun c hc => by rw [lkI_n (by omega)]; exact (hs dd hdd).2.2.2 c hc⟩)) ?_
    refine tv_b (pc' := 143) (ls' := [some (.ref 60), some (.int (nI D))]) (st' := []) (h' := (n, sl, wKK kk, (lkI I (nI D)), va_up (lkL L (jL (tot X D)) (jL (mom X D (pS X D).2)) ((jI (pS X D).2).toInt64) (((jI (pS X D).2).toInt64) - ((jI (pS X (D - 1)).2).toInt64)) ((jI (wsZ X D)).toInt64) ((jI (watZ X D)).toInt64) ((nI D).toInt64) (L 61 5) (L 61 6)) 61 (vp_updL ((lkL L (jL (tot X D)) (jL (mom X D (pS X D).2)) ((jI (pS X D).2).toInt64) (((jI (pS X D).2).toInt64) - ((jI (pS X (D - 1)).2).toInt64)) ((jI (wsZ X D)).toInt64) ((jI (watZ X D)).toInt64) ((nI D).toInt64) (L 61 5) (L 61 6)) 61) 5 ((jI (gT X (kn X) D)).toInt64)), wQQ q)) 2 rfl ?_
    refine tv_hL lkL_w_f5 ?_
    refine tv_b (pc' := 154) (ls' := [some (.ref 60), some (.int (nI D))]) (st' := [.int (nI D), .ref 13, .int 6, .ref 61]) (h' := (n, sl, wKK kk, (lkI I (nI D)), (lkL L (jL (tot X D)) (jL (mom X D (pS X D).2)) ((jI (pS X D).2).toInt64) (((jI (pS X D).2).toInt64) - ((jI (pS X (D - 1)).2).toInt64)) ((jI (wsZ X D)).toInt64) ((jI (watZ X D)).toInt64) ((nI D).toInt64) ((jI (gT X (kn X) D)).toInt64) (L 61 6)), wQQ q)) 6 rfl ?_
    refine tv_cvE [.int (nI D)] [.int 6, .ref 61] rfl rfl (by omega) rfl (Nat.le_of_ble_eq_true rfl) (Nat.le_of_ble_eq_true rfl) (Or.inr (Or.inr rfl)) (ev_drawnZ (X := X) (by omega) (⟨hr.1, hr.2.1, hr.2.2.1, fun c hc => by rw [lkL_n (by omega) (by omega)]; exact hr.2.2.2 c hc⟩)) ?_
    refine tv_b (pc' := 159) (ls' := [some (.ref 60), some (.int (nI D))]) (st' := []) (h' := (n, sl, wKK kk, (lkI I (nI D)), va_up (lkL L (jL (tot X D)) (jL (mom X D (pS X D).2)) ((jI (pS X D).2).toInt64) (((jI (pS X D).2).toInt64) - ((jI (pS X (D - 1)).2).toInt64)) ((jI (wsZ X D)).toInt64) ((jI (watZ X D)).toInt64) ((nI D).toInt64) ((jI (gT X (kn X) D)).toInt64) (L 61 6)) 61 (vp_updL ((lkL L (jL (tot X D)) (jL (mom X D (pS X D).2)) ((jI (pS X D).2).toInt64) (((jI (pS X D).2).toInt64) - ((jI (pS X (D - 1)).2).toInt64)) ((jI (wsZ X D)).toInt64) ((jI (watZ X D)).toInt64) ((nI D).toInt64) ((jI (gT X (kn X) D)).toInt64) (L 61 6)) 61) 6 ((jI (drZ X D)).toInt64)), wQQ q)) 2 rfl ?_
    refine tv_hL lkL_w_f6 ?_
    have hb1 := (pS_b hT hB (D - 1) (by omega)).2
    refine tv_hL (L' := (lkL L (jL (tot X D)) (jL (mom X D (pS X D).2)) (jL (fcZ X D 0)) (jL (fcZ X D 1)) (jL (fcZ X D 2)) (jL (fcZ X D 3)) (jL (fcZ X D 4)) (jL (fcZ X D 5)) (jL (fcZ X D 6)))) ?_ (tv_rv rfl ⟨rfl, rfl⟩)
    rw [nI_j, jI_64 (z := (pS X D).2) ⟨by omega, by omega⟩, jI_64 (z := wsZ X D) ⟨by omega, by omega⟩, jI_64 (z := watZ X D) ⟨by omega, by omega⟩, jI_64 (z := (D : Int)) ⟨by omega, by omega⟩, jI_64 (z := gT X (kn X) D) ⟨by omega, by omega⟩, jI_64 (z := drZ X D) ⟨by omega, by omega⟩, jI_64 (z := (pS X (D - 1)).2) ⟨by omega, by omega⟩, jL_sub]
    have e1 : fcZ X D 1 = (pS X D).2 - (pS X (D - 1)).2 := by unfold fcZ; rw [if_neg (by decide), if_pos rfl, if_pos (by omega)]
    rw [e1]
    rfl
