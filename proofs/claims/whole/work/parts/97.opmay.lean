/-! MAY: both sides answer alike -/
/-- the rows that any call but the judge's leaves -/
def oFv (n' : Nat) (kk kk' : Nat → Nat × Nat) (I I' : Nat → Nat → Int32) (L L' : Nat → Nat → Int64) : Prop := (∀ j, 57 ≤ j → j < 80 → j ≠ 60 → I' j = I j) ∧ (∀ k, k ≠ 4 → I' 60 k = I 60 k) ∧ (∀ j, j < 13 → I' j = I j) ∧ (∀ j, (j = 81 ∨ (94 ≤ j ∧ j ≤ 106) ∨ 119 ≤ j) → j < 127 → I' j = I j) ∧ (∀ k, k ≠ 45 → k ≠ 46 → I' 80 k = I 80 k) ∧ (∀ j, 57 ≤ j → j < 80 → j ≠ 60 → j ≠ 61 → j ≠ 62 → L' j = L j) ∧ (∀ j, n' ≤ j → I' j = I j ∧ kk' j = kk j)
theorem oFw_v {n' : Nat} {kk kk' : Nat → Nat × Nat} {I I' : Nat → Nat → Int32} {L L' : Nat → Nat → Int64} (h : oFw n' kk kk' I I' L L') : oFv n' kk kk' I I' L L' := ⟨fun j j1 j2 _ => h.1 j j1 j2, fun k _ => by rw [h.1 60 (by decide) (by decide)], h.2.1, h.2.2.1, h.2.2.2.1, fun j j1 j2 _ _ _ => h.2.2.2.2.1 j j1 j2, h.2.2.2.2.2⟩
theorem oFv_t {n' : Nat} {kk : Nat → Nat × Nat} {I I' J : Nat → Nat → Int32} {L L' K : Nat → Nat → Int64} (a : oFv n' kk kk I I' L L') (b : oFv n' kk kk I' J L' K) : oFv n' kk kk I J L K := ⟨fun j j1 j2 j3 => (b.1 j j1 j2 j3).trans (a.1 j j1 j2 j3), fun k hk => (b.2.1 k hk).trans (a.2.1 k hk), fun j j1 => (b.2.2.1 j j1).trans (a.2.2.1 j j1), fun j j1 j2 => (b.2.2.2.1 j j1 j2).trans (a.2.2.2.1 j j1 j2), fun k k1 k2 => (b.2.2.2.2.1 k k1 k2).trans (a.2.2.2.2.1 k k1 k2), fun j j1 j2 j3 j4 j5 => (b.2.2.2.2.2.1 j j1 j2 j3 j4 j5).trans (a.2.2.2.2.2.1 j j1 j2 j3 j4 j5), fun j j1 => ⟨(b.2.2.2.2.2.2 j j1).1.trans (a.2.2.2.2.2.2 j j1).1, rfl⟩⟩
def ojV (n sl : Nat) (kk : Nat → Nat × Nat) (I : Nat → Nat → Int32) (L : Nat → Nat → Int64) (C : Nat) (M : Nat → List (Nat × Nat × List Nat)) (h2 : am_H) : Prop := ∃ n' sl' kk' I' L' q' C' ah', h2 = (n', sl', wKK kk', I', L', wQQ q') ∧ gInv n' kk' q' I' L' C' ah' M ∧ oFv n' kk kk' I I' L L' ∧ cntF I I' C' ∧ (n ≤ n' ∧ n' ≤ n + 2 ∧ sl' ≤ sl + 820) ∧ C ≤ C'
theorem ojW_v {n sl C : Nat} {kk : Nat → Nat × Nat} {I : Nat → Nat → Int32} {L : Nat → Nat → Int64} {M : Nat → List (Nat × Nat × List Nat)} {h2 : am_H} (h : ojW n sl kk I L C M h2) : ojV n sl kk I L C M h2 := by
  obtain ⟨n', sl', kk', I', L', q', C', ah', e, g, f, r⟩ := h
  exact ⟨n', sl', kk', I', L', q', C', ah', e, g, oFw_v f, r⟩
theorem ev_x_mayO {d n sl : Nat} {kk : Nat → Nat × Nat} {I : Nat → Nat → Int32} {L : Nat → Nat → Int64} {q : Nat → Nat → Option Nat} {w y x : Int32} (hx : sp_isWithin w.toInt64 0 2 = 0 ∨ sp_isWithin y.toInt64 0 1000 = 0 ∨ sp_isDay x = 0) : am_Ev (d + 1) 130 0 (am_ent 4 [.ref 0, .int w, .int y, .int x]) [] (n, sl, wKK kk, I, L, wQQ q) (some (.int (-1)), (n, sl, wKK kk, I, L, wQQ q)) := by
  refine tv_ev ?_
  show am_T _ _ 0 [some (.ref 0), some (.int w), some (.int y), some (.int x)] _ _ _
  refine tv_b (pc' := 6) (ls' := [some (.ref 0), some (.int w), some (.int y), some (.int x)]) (st' := [.long 2, .long 0, .long w.toInt64]) (h' := (n, sl, wKK kk, I, L, wQQ q)) 4 rfl ?_
  refine tv_csE [.long w.toInt64, .long 0, .long 2] [] rfl rfl (by omega) rfl (Nat.le_of_ble_eq_true rfl) (Nat.le_of_ble_eq_true rfl) (ev_isWithin) ?_
  refine tv_b (pc' := (if (sp_isWithin w.toInt64 0 2) = 0 then 31 else 12)) (ls' := [some (.ref 0), some (.int w), some (.int y), some (.int x)]) (st' := []) (h' := (n, sl, wKK kk, I, L, wQQ q)) 1 rfl ?_
  refine tv_if (fun c9 => ?_) (fun c9 => ?_)
  · refine tv_b (pc' := 32) (ls' := [some (.ref 0), some (.int w), some (.int y), some (.int x)]) (st' := [.int (-1)]) (h' := (n, sl, wKK kk, I, L, wQQ q)) 1 rfl ?_
    exact tv_ri rfl ⟨rfl, rfl⟩
  · refine tv_b (pc' := 18) (ls' := [some (.ref 0), some (.int w), some (.int y), some (.int x)]) (st' := [.long 1000, .long 0, .long y.toInt64]) (h' := (n, sl, wKK kk, I, L, wQQ q)) 4 rfl ?_
    refine tv_csE [.long y.toInt64, .long 0, .long 1000] [] rfl rfl (by omega) rfl (Nat.le_of_ble_eq_true rfl) (Nat.le_of_ble_eq_true rfl) (ev_isWithin) ?_
    refine tv_b (pc' := (if (sp_isWithin y.toInt64 0 1000) = 0 then 31 else 24)) (ls' := [some (.ref 0), some (.int w), some (.int y), some (.int x)]) (st' := []) (h' := (n, sl, wKK kk, I, L, wQQ q)) 1 rfl ?_
    refine tv_if (fun c21 => ?_) (fun c21 => ?_)
    · refine tv_b (pc' := 32) (ls' := [some (.ref 0), some (.int w), some (.int y), some (.int x)]) (st' := [.int (-1)]) (h' := (n, sl, wKK kk, I, L, wQQ q)) 1 rfl ?_
      exact tv_ri rfl ⟨rfl, rfl⟩
    · refine tv_b (pc' := 25) (ls' := [some (.ref 0), some (.int w), some (.int y), some (.int x)]) (st' := [.int x]) (h' := (n, sl, wKK kk, I, L, wQQ q)) 1 rfl ?_
      refine tv_csE [.int x] [] rfl rfl (by omega) rfl (Nat.le_of_ble_eq_true rfl) (Nat.le_of_ble_eq_true rfl) (ev_isDay) ?_
      refine tv_b (pc' := (if (sp_isDay x) = 0 then 31 else 33)) (ls' := [some (.ref 0), some (.int w), some (.int y), some (.int x)]) (st' := []) (h' := (n, sl, wKK kk, I, L, wQQ q)) 1 rfl ?_
      refine tv_if (fun c28 => ?_) (fun c28 => ?_)
      · refine tv_b (pc' := 32) (ls' := [some (.ref 0), some (.int w), some (.int y), some (.int x)]) (st' := [.int (-1)]) (h' := (n, sl, wKK kk, I, L, wQQ q)) 1 rfl ?_
        exact tv_ri rfl ⟨rfl, rfl⟩
      · exact absurd hx (fun z => z.elim c9 (fun z => z.elim c21 c28))
theorem tv_x_may {d n sl : Nat} {kk : Nat → Nat × Nat} {I : Nat → Nat → Int32} {L : Nat → Nat → Int64} {q : Nat → Nat → Option Nat} {w y x : Int32} {I1 : Nat → Nat → Int32} {L1 : Nat → Nat → Int64} {P : Option Value → am_H → Prop} (h1 : ¬ sp_isWithin w.toInt64 0 2 = 0) (h2 : ¬ sp_isWithin y.toInt64 0 1000 = 0) (h3 : ¬ sp_isDay x = 0) (hr : am_Ev (d + 6) 27 0 (am_ent 3 [.ref 13, .int x]) [] (n, sl, wKK kk, I, L, wQQ q) (none, (n, sl, wKK kk, I1, L1, wQQ q))) (hP : ∀ rv h1, P rv h1 → ∃ z, rv = some (.int z)) (h : am_T (d + 6) 49 0 (am_ent 14 [.ref 60, .int w, .int y, .int x]) [] (n, sl, wKK kk, I1, L1, wQQ q) P) : am_T (d + 7) 130 0 (am_ent 4 [.ref 0, .int w, .int y, .int x]) [] (n, sl, wKK kk, I, L, wQQ q) P := by
  show am_T _ _ 0 [some (.ref 0), some (.int w), some (.int y), some (.int x)] _ _ _
  refine tv_b (pc' := 6) (ls' := [some (.ref 0), some (.int w), some (.int y), some (.int x)]) (st' := [.long 2, .long 0, .long w.toInt64]) (h' := (n, sl, wKK kk, I, L, wQQ q)) 4 rfl ?_
  refine tv_csE [.long w.toInt64, .long 0, .long 2] [] rfl rfl (by omega) rfl (Nat.le_of_ble_eq_true rfl) (Nat.le_of_ble_eq_true rfl) (ev_isWithin) ?_
  refine tv_b (pc' := (if (sp_isWithin w.toInt64 0 2) = 0 then 31 else 12)) (ls' := [some (.ref 0), some (.int w), some (.int y), some (.int x)]) (st' := []) (h' := (n, sl, wKK kk, I, L, wQQ q)) 1 rfl ?_
  refine tv_f (h1) ?_
  refine tv_b (pc' := 18) (ls' := [some (.ref 0), some (.int w), some (.int y), some (.int x)]) (st' := [.long 1000, .long 0, .long y.toInt64]) (h' := (n, sl, wKK kk, I, L, wQQ q)) 4 rfl ?_
  refine tv_csE [.long y.toInt64, .long 0, .long 1000] [] rfl rfl (by omega) rfl (Nat.le_of_ble_eq_true rfl) (Nat.le_of_ble_eq_true rfl) (ev_isWithin) ?_
  refine tv_b (pc' := (if (sp_isWithin y.toInt64 0 1000) = 0 then 31 else 24)) (ls' := [some (.ref 0), some (.int w), some (.int y), some (.int x)]) (st' := []) (h' := (n, sl, wKK kk, I, L, wQQ q)) 1 rfl ?_
  refine tv_f (h2) ?_
  refine tv_b (pc' := 25) (ls' := [some (.ref 0), some (.int w), some (.int y), some (.int x)]) (st' := [.int x]) (h' := (n, sl, wKK kk, I, L, wQQ q)) 1 rfl ?_
  refine tv_csE [.int x] [] rfl rfl (by omega) rfl (Nat.le_of_ble_eq_true rfl) (Nat.le_of_ble_eq_true rfl) (ev_isDay) ?_
  refine tv_b (pc' := (if (sp_isDay x) = 0 then 31 else 33)) (ls' := [some (.ref 0), some (.int w), some (.int y), some (.int x)]) (st' := []) (h' := (n, sl, wKK kk, I, L, wQQ q)) 1 rfl ?_
  refine tv_f (h3) ?_
  refine tv_b (pc' := 38) (ls' := [some (.ref 0), some (.int w), some (.int y), some (.int x)]) (st' := [.int x, .ref 13]) (h' := (n, sl, wKK kk, I, L, wQQ q)) 3 rfl ?_
  refine tv_cvE [.int x] [] rfl rfl (by omega) rfl (Nat.le_of_ble_eq_true rfl) (Nat.le_of_ble_eq_true rfl) (Or.inr (Or.inr rfl)) (hr) ?_
  refine tv_b (pc' := 48) (ls' := [some (.ref 0), some (.int w), some (.int y), some (.int x)]) (st' := [.int x, .int y, .int w, .ref 60]) (h' := (n, sl, wKK kk, I1, L1, wQQ q)) 5 rfl ?_
  refine tv_cv [.int w, .int y, .int x] [] rfl rfl (by omega) rfl (Nat.le_of_ble_eq_true rfl) (Nat.le_of_ble_eq_true rfl) (Or.inr (Or.inr rfl)) (h) ?_
  intro rv9 h9 hp
  obtain ⟨z, rfl⟩ := hP _ _ hp
  exact tv_ri rfl hp
theorem ev_m_mayO {d n sl : Nat} {kk : Nat → Nat × Nat} {I : Nat → Nat → Int32} {L : Nat → Nat → Int64} {q : Nat → Nat → Option Nat} {w y x : Int32} (hx : sp_m_is w 0 2 = 0 ∨ sp_m_is y 0 1000 = 0 ∨ sp_m_isDay x = 0) : am_Ev (d + 2) 221 0 (am_ent 4 [.ref 80, .int w, .int y, .int x]) [] (n, sl, wKK kk, I, L, wQQ q) (some (.int (-1)), (n, sl, wKK kk, I, L, wQQ q)) := by
  refine tv_ev ?_
  show am_T _ _ 0 [some (.ref 80), some (.int w), some (.int y), some (.int x)] _ _ _
  refine tv_b (pc' := 3) (ls' := [some (.ref 80), some (.int w), some (.int y), some (.int x)]) (st' := [.int 2, .int 0, .int w]) (h' := (n, sl, wKK kk, I, L, wQQ q)) 3 rfl ?_
  refine tv_csE [.int w, .int 0, .int 2] [] rfl rfl (by omega) rfl (Nat.le_of_ble_eq_true rfl) (Nat.le_of_ble_eq_true rfl) (ev_m_is) ?_
  refine tv_b (pc' := (if (sp_m_is w 0 2) = 0 then 27 else 9)) (ls' := [some (.ref 80), some (.int w), some (.int y), some (.int x)]) (st' := []) (h' := (n, sl, wKK kk, I, L, wQQ q)) 1 rfl ?_
  refine tv_if (fun c6 => ?_) (fun c6 => ?_)
  · refine tv_b (pc' := 28) (ls' := [some (.ref 80), some (.int w), some (.int y), some (.int x)]) (st' := [.int (-1)]) (h' := (n, sl, wKK kk, I, L, wQQ q)) 1 rfl ?_
    exact tv_ri rfl ⟨rfl, rfl⟩
  · refine tv_b (pc' := 14) (ls' := [some (.ref 80), some (.int w), some (.int y), some (.int x)]) (st' := [.int 1000, .int 0, .int y]) (h' := (n, sl, wKK kk, I, L, wQQ q)) 3 rfl ?_
    refine tv_csE [.int y, .int 0, .int 1000] [] rfl rfl (by omega) rfl (Nat.le_of_ble_eq_true rfl) (Nat.le_of_ble_eq_true rfl) (ev_m_is) ?_
    refine tv_b (pc' := (if (sp_m_is y 0 1000) = 0 then 27 else 20)) (ls' := [some (.ref 80), some (.int w), some (.int y), some (.int x)]) (st' := []) (h' := (n, sl, wKK kk, I, L, wQQ q)) 1 rfl ?_
    refine tv_if (fun c17 => ?_) (fun c17 => ?_)
    · refine tv_b (pc' := 28) (ls' := [some (.ref 80), some (.int w), some (.int y), some (.int x)]) (st' := [.int (-1)]) (h' := (n, sl, wKK kk, I, L, wQQ q)) 1 rfl ?_
      exact tv_ri rfl ⟨rfl, rfl⟩
    · refine tv_b (pc' := 21) (ls' := [some (.ref 80), some (.int w), some (.int y), some (.int x)]) (st' := [.int x]) (h' := (n, sl, wKK kk, I, L, wQQ q)) 1 rfl ?_
      refine tv_csE [.int x] [] rfl rfl (by omega) rfl (Nat.le_of_ble_eq_true rfl) (Nat.le_of_ble_eq_true rfl) (ev_m_isDay) ?_
      refine tv_b (pc' := (if (sp_m_isDay x) = 0 then 27 else 29)) (ls' := [some (.ref 80), some (.int w), some (.int y), some (.int x)]) (st' := []) (h' := (n, sl, wKK kk, I, L, wQQ q)) 1 rfl ?_
      refine tv_if (fun c24 => ?_) (fun c24 => ?_)
      · refine tv_b (pc' := 28) (ls' := [some (.ref 80), some (.int w), some (.int y), some (.int x)]) (st' := [.int (-1)]) (h' := (n, sl, wKK kk, I, L, wQQ q)) 1 rfl ?_
        exact tv_ri rfl ⟨rfl, rfl⟩
      · exact absurd hx (fun z => z.elim c6 (fun z => z.elim c17 c24))
theorem tv_m_may {d n sl : Nat} {kk : Nat → Nat × Nat} {I : Nat → Nat → Int32} {L : Nat → Nat → Int64} {q : Nat → Nat → Option Nat} {w y x : Int32} {I1 : Nat → Nat → Int32} {L1 : Nat → Nat → Int64} {P : Option Value → am_H → Prop} (h1 : ¬ sp_m_is w 0 2 = 0) (h2 : ¬ sp_m_is y 0 1000 = 0) (h3 : ¬ sp_m_isDay x = 0) (hr : am_Ev (d + 6) 208 0 (am_ent 2 [.ref 80]) [] (n, sl, wKK kk, I, L, wQQ q) (none, (n, sl, wKK kk, I1, L1, wQQ q))) (hP : ∀ rv h1, P rv h1 → ∃ z, rv = some (.int z)) (h : am_T (d + 6) 220 0 (am_ent 9 [.ref 80, .int w, .int y, .int x]) [] (n, sl, wKK kk, I1, L1, wQQ q) P) : am_T (d + 7) 221 0 (am_ent 4 [.ref 80, .int w, .int y, .int x]) [] (n, sl, wKK kk, I, L, wQQ q) P := by
  show am_T _ _ 0 [some (.ref 80), some (.int w), some (.int y), some (.int x)] _ _ _
  refine tv_b (pc' := 3) (ls' := [some (.ref 80), some (.int w), some (.int y), some (.int x)]) (st' := [.int 2, .int 0, .int w]) (h' := (n, sl, wKK kk, I, L, wQQ q)) 3 rfl ?_
  refine tv_csE [.int w, .int 0, .int 2] [] rfl rfl (by omega) rfl (Nat.le_of_ble_eq_true rfl) (Nat.le_of_ble_eq_true rfl) (ev_m_is) ?_
  refine tv_b (pc' := (if (sp_m_is w 0 2) = 0 then 27 else 9)) (ls' := [some (.ref 80), some (.int w), some (.int y), some (.int x)]) (st' := []) (h' := (n, sl, wKK kk, I, L, wQQ q)) 1 rfl ?_
  refine tv_f (h1) ?_
  refine tv_b (pc' := 14) (ls' := [some (.ref 80), some (.int w), some (.int y), some (.int x)]) (st' := [.int 1000, .int 0, .int y]) (h' := (n, sl, wKK kk, I, L, wQQ q)) 3 rfl ?_
  refine tv_csE [.int y, .int 0, .int 1000] [] rfl rfl (by omega) rfl (Nat.le_of_ble_eq_true rfl) (Nat.le_of_ble_eq_true rfl) (ev_m_is) ?_
  refine tv_b (pc' := (if (sp_m_is y 0 1000) = 0 then 27 else 20)) (ls' := [some (.ref 80), some (.int w), some (.int y), some (.int x)]) (st' := []) (h' := (n, sl, wKK kk, I, L, wQQ q)) 1 rfl ?_
  refine tv_f (h2) ?_
  refine tv_b (pc' := 21) (ls' := [some (.ref 80), some (.int w), some (.int y), some (.int x)]) (st' := [.int x]) (h' := (n, sl, wKK kk, I, L, wQQ q)) 1 rfl ?_
  refine tv_csE [.int x] [] rfl rfl (by omega) rfl (Nat.le_of_ble_eq_true rfl) (Nat.le_of_ble_eq_true rfl) (ev_m_isDay) ?_
  refine tv_b (pc' := (if (sp_m_isDay x) = 0 then 27 else 29)) (ls' := [some (.ref 80), some (.int w), some (.int y), some (.int x)]) (st' := []) (h' := (n, sl, wKK kk, I, L, wQQ q)) 1 rfl ?_
  refine tv_f (h3) ?_
  refine tv_b (pc' := 30) (ls' := [some (.ref 80), some (.int w), some (.int y), some (.int x)]) (st' := [.ref 80]) (h' := (n, sl, wKK kk, I, L, wQQ q)) 1 rfl ?_
  refine tv_cvE [] [] rfl rfl (by omega) rfl (Nat.le_of_ble_eq_true rfl) (Nat.le_of_ble_eq_true rfl) (Or.inr (Or.inr rfl)) (hr) ?_
  refine tv_b (pc' := 37) (ls' := [some (.ref 80), some (.int w), some (.int y), some (.int x)]) (st' := [.int x, .int y, .int w, .ref 80]) (h' := (n, sl, wKK kk, I1, L1, wQQ q)) 4 rfl ?_
  refine tv_cv [.int w, .int y, .int x] [] rfl rfl (by omega) rfl (Nat.le_of_ble_eq_true rfl) (Nat.le_of_ble_eq_true rfl) (Or.inr (Or.inr rfl)) (h) ?_
  intro rv9 h9 hp
  obtain ⟨z, rfl⟩ := hP _ _ hp
  exact tv_ri rfl hp
theorem oj_may {d n sl C : Nat} {kk : Nat → Nat × Nat} {q : Nat → Nat → Option Nat} {I : Nat → Nat → Int32} {L : Nat → Nat → Int64} {ah : Nat → Nat} {M : Nat → List (Nat × Nat × List Nat)} (g : gInv n kk q I L C ah M) {w y x : Int32} : am_T (d + 7) 130 0 (am_ent 4 [.ref 0, .int w, .int y, .int x]) [] (n, sl, wKK kk, I, L, wQQ q) (ojQ (d + 7) 221 (am_ent 4 [.ref 80, .int w, .int y, .int x]) (ojV n sl kk I L C M)) := by
  have gB := g.2.1
  have a1 : sp_isWithin w.toInt64 0 2 = 0 ↔ ¬ (0 ≤ w.toInt ∧ w.toInt ≤ 2) := ar_wi2 (a := 0) (b := 2) rfl rfl ⟨by decide, by decide⟩ ⟨by decide, by decide⟩
  have b1 : sp_m_is w 0 2 = 0 ↔ ¬ (0 ≤ w.toInt ∧ w.toInt ≤ 2) := ar_mi2 (a := 0) (b := 2) rfl rfl ⟨by decide, by decide⟩ ⟨by decide, by decide⟩
  have a2 : sp_isWithin y.toInt64 0 1000 = 0 ↔ ¬ (0 ≤ y.toInt ∧ y.toInt ≤ 1000) := ar_wi2 (a := 0) (b := 1000) rfl rfl ⟨by decide, by decide⟩ ⟨by decide, by decide⟩
  have b2 : sp_m_is y 0 1000 = 0 ↔ ¬ (0 ≤ y.toInt ∧ y.toInt ≤ 1000) := ar_mi2 (a := 0) (b := 1000) rfl rfl ⟨by decide, by decide⟩ ⟨by decide, by decide⟩
  by_cases h : sp_isWithin w.toInt64 0 2 = 0 ∨ sp_isWithin y.toInt64 0 1000 = 0 ∨ sp_isDay x = 0
  · have h' : sp_m_is w 0 2 = 0 ∨ sp_m_is y 0 1000 = 0 ∨ sp_m_isDay x = 0 := h.elim (fun z => Or.inl (b1.mpr (a1.mp z))) (fun z => z.elim (fun z => Or.inr (Or.inl (b2.mpr (a2.mp z)))) (fun z => Or.inr (Or.inr (ar_mday.mpr (ar_day.mp z)))))
    exact tv_e (ev_x_mayO (d := d + 6) h) ⟨_, rfl, tv_e (ev_m_mayO (d := d + 5) h') ⟨rfl, ojW_v (ojR_w (ojR_same g))⟩⟩
  · have n1 : ¬ sp_isWithin w.toInt64 0 2 = 0 := fun z => h (Or.inl z)
    have n2 : ¬ sp_isWithin y.toInt64 0 1000 = 0 := fun z => h (Or.inr (Or.inl z))
    have n3 : ¬ sp_isDay x = 0 := fun z => h (Or.inr (Or.inr z))
    have m1 : ¬ sp_m_is w 0 2 = 0 := fun z => n1 (a1.mpr (b1.mp z))
    have m2 : ¬ sp_m_is y 0 1000 = 0 := fun z => n2 (a2.mpr (b2.mp z))
    have m3 : ¬ sp_m_isDay x = 0 := fun z => n3 (ar_day.mpr (ar_mday.mp z))
    have rw_ := (nn_iff a1).mp n1
    have rx := (nn_iff ar_day).mp n3
    have ew := x_nI rw_.1
    have ex := x_nI rx.1
    have hW : w.toInt.toNat < 3 := by omega
    have hD : x.toInt.toNat < 400 := by omega
    generalize w.toInt.toNat = W at ew hW
    generalize x.toInt.toNat = D at ex hD
    subst ew
    subst ex
    obtain ⟨g1, r1, f1, r80, r55, r13, ⟨k1, k2⟩, hp1, h14⟩ := reach_g g (D := D) (by omega)
    have er := ev_d_reach (d := d + 1) (n := n) (sl := sl) (k := kk) (q := q) (L := L) (D := D) (by omega) k1 k2 h14
    generalize sI_d_reach D I L = J at g1 r1 f1 r80 r55 r13 hp1 er
    generalize sL_d_reach D I L = K at g1 r1 f1 er
    obtain ⟨gT1, gB1, gG1, gc1, gm1, gn1⟩ := g1
    have hv := tv_j_verdict (d := d) (sl := sl) (much := y) hW hD gT1 gB1 gG1.1 gG1.2.1 gG1.2.2.1 gG1.2.2.2.1 (r1 D (Nat.le_refl _)) (fun z => r1 (D - 1) (by omega)) gc1
    refine tv_w (tv_x_may n1 n2 n3 er (fun rv h1 ho => ⟨_, ho.1⟩) hv) (fun rv h1 ho => ?_)
    obtain ⟨rfl, I', L', rfl, j1, j2, j3⟩ := ho
    refine ⟨_, rfl, ?_⟩
    have hrE : rE I' J := ⟨fun j i1 i2 => j1 j (by omega), by rw [j1 80 (by decide)], by rw [j1 80 (by decide)]⟩
    have g2 : gInv n kk q I' L' C ah M := ⟨wfT_c hrE gT1, wfB_c hrE gB1, cGr_m (Nat.le_refl _) (fun _ _ => rfl) rfl (fun j hj => j1 j (by omega)) (fun j i1 i2 => j1 j (by omega)) (fun j hj => j3 j (by omega) (by omega) (by omega)) (cGr_X hrE gG1), cCode_m (Nat.le_refl _) (fun _ _ => rfl) (fun _ _ => rfl) (fun j i1 i2 _ => j1 j (by omega)) (fun i hi => by rw [j1 107 (by decide)]) gc1, fun r r1 r2 r3 => by
      rw [j1 107 (by decide)] at r3
      rw [(kn_c hrE).1] at r2
      rw [j1 82 (by decide), j1 83 (by decide), j1 84 (by decide), j1 85 (by decide), j1 86 (by decide), j1 87 (by decide)]
      exact gm1 r r1 r2 r3, gn1⟩
    have f2 : oFv n kk kk J I' K L' := ⟨fun j i1 i2 i3 => j1 j i3, j2, fun j i1 => j1 j (by omega), fun j i1 i2 => j1 j (by omega), fun k _ _ => by rw [j1 80 (by decide)], fun j i1 i2 i3 i4 i5 => j3 j i3 i4 i5, fun j i1 => ⟨j1 j (by omega), rfl⟩⟩
    have gB2 := g2.2.1
    obtain ⟨hn1, hn2⟩ := now_N (L := L') gB2
    have hC2 := gB2.1.2
    obtain ⟨g3, hP, f3, p3, hp3⟩ := play_g g2
    have ep := ev_m_play (d := d + 2) (n := n) (sl := sl) (k := kk) (q := q) (I := I') (L := L') (by rw [now_cl gB2]; exact hn1) (by rw [now_cl gB2]; omega) (gx_ok gB2) (gl_ok gB2)
    generalize sI_m_play I' L' = J3 at g3 hP f3 p3 hp3 ep
    generalize sL_m_play I' L' = K3 at g3 hP f3 ep
    obtain ⟨gT3, gB3, gG3, gc3, gm3, gn3⟩ := g3
    have hm := tv_m_mayDo (d := d) (n := n) (sl := sl) (kk := kk) (q := q) (much := y) hW hD gT3 gB3 hP gm3
    refine tv_w (tv_m_may m1 m2 m3 ep (fun rv h1 ho => ⟨_, ho.1⟩) hm) (fun rv h1 ho => ?_)
    obtain ⟨rfl, L4, rfl, q1, q2⟩ := ho
    have hE3 : rE J3 J := ⟨fun j i1 i2 => by rw [p3 j (by omega) (by omega), j1 j (by omega)], by rw [p3 80 (by decide) (by decide), j1 80 (by decide)], by rw [p3 80 (by decide) (by decide), j1 80 (by decide)]⟩
    have hk : ∀ i, kn J3 (i + 1) = kn I (i + 1) := fun i => by
      unfold kn nNow nC vdN
      rw [p3 80 (by decide) (by decide), p3 112 (by decide) (by decide), j1 80 (by decide), j1 112 (by decide), r80 80 (by decide), r80 112 (by decide)]
    have g4 : gInv n kk q J3 L4 C ah M := ⟨gT3, gB3, cGr_m (Nat.le_refl _) (fun _ _ => rfl) rfl (fun _ _ => rfl) (fun _ _ _ => rfl) (fun j hj => q1 j (by omega) (by omega) (by omega)) gG3, gc3, gm3, gn3⟩
    have f4 : oFv n kk kk J3 J3 K3 L4 := ⟨fun _ _ _ _ => rfl, fun _ _ => rfl, fun _ _ => rfl, fun _ _ _ => rfl, fun _ _ _ => rfl, fun j i1 i2 _ _ _ => q1 j (by omega) (by omega) (by omega), fun _ _ => ⟨rfl, rfl⟩⟩
    refine ⟨by rw [vdZ_c hE3], n, sl, kk, _, _, q, C, ah, rfl, g4, oFv_t (oFw_v f1) (oFv_t f2 (oFv_t (oFw_v f3) f4)), ⟨0, 0, Nat.le_refl _, by omega, ?_, ?_, fun _ i _ => hk i, fun i _ _ => ?_⟩, ⟨Nat.le_refl _, by omega, by omega⟩, Nat.le_refl _⟩
    · rw [p3 55 (by decide) (by decide), j1 55 (by decide), r55]; exact (Int32.add_zero _).symm
    · rw [p3 13 (by decide) (by decide), j1 13 (by decide), r13]; exact (Int32.add_zero _).symm
    · rw [p3 107 (by decide) (by decide), p3 108 (by decide) (by decide), p3 109 (by decide) (by decide), p3 110 (by decide) (by decide), p3 111 (by decide) (by decide), j1 107 (by decide), j1 108 (by decide), j1 109 (by decide), j1 110 (by decide), j1 111 (by decide), r80 107 (by decide), r80 108 (by decide), r80 109 (by decide), r80 110 (by decide), r80 111 (by decide)]; exact ⟨rfl, rfl, rfl, rfl, rfl⟩
