/-! STATICS AND SMALL PARTS: what each answers, by program out of the code; then its reckoning -/
def sp_isWithin (x : Int64) (a : Int64) (b : Int64) : Int32 := (if (lg_cmp x a) < 0 then 0 else (if 0 < (lg_cmp x b) then 0 else 1))
theorem ev_isWithin {d : Nat} {h : am_H} {x : Int64} {a : Int64} {b : Int64} : am_Ev (d) 146 0 (am_ent 6 [.long x, .long a, .long b]) [] h (some (.int (sp_isWithin x a b)), h) := by
  show am_Ev _ _ 0 [some (.long x), none, some (.long a), none, some (.long b), none] _ _ (some (.int (if (lg_cmp x a) < 0 then 0 else (if 0 < (lg_cmp x b) then 0 else 1))), h)
  refine ev_b (pc' := (if (lg_cmp x a) < 0 then 17 else 6)) (ls' := [some (.long x), none, some (.long a), none, some (.long b), none]) (st' := []) (h' := h) 4 rfl ?_
  refine ev_ifIs (fun c3 => ?_) (fun c3 => ?_)
  · refine ev_b (pc' := 18) (ls' := [some (.long x), none, some (.long a), none, some (.long b), none]) (st' := [.int 0]) (h' := h) 1 rfl ?_
    exact ev_rz rfl (Or.inl rfl) rfl rfl
  · refine ev_b (pc' := (if 0 < (lg_cmp x b) then 17 else 13)) (ls' := [some (.long x), none, some (.long a), none, some (.long b), none]) (st' := []) (h' := h) 4 rfl ?_
    refine ev_ifIs (fun c10 => ?_) (fun c10 => ?_)
    · refine ev_b (pc' := 18) (ls' := [some (.long x), none, some (.long a), none, some (.long b), none]) (st' := [.int 0]) (h' := h) 1 rfl ?_
      exact ev_rz rfl (Or.inl rfl) rfl rfl
    · refine ev_b (pc' := 18) (ls' := [some (.long x), none, some (.long a), none, some (.long b), none]) (st' := [.int 1]) (h' := h) 2 rfl ?_
      exact ev_rz rfl (Or.inr rfl) rfl rfl
def sp_isDay (x : Int32) : Int32 := (if x < 0 then 0 else (if 400 ≤ x then 0 else 1))
theorem ev_isDay {d : Nat} {h : am_H} {x : Int32} : am_Ev (d) 147 0 (am_ent 1 [.int x]) [] h (some (.int (sp_isDay x)), h) := by
  show am_Ev _ _ 0 [some (.int x)] _ _ (some (.int (if x < 0 then 0 else (if 400 ≤ x then 0 else 1))), h)
  refine ev_b (pc' := (if x < 0 then 15 else 4)) (ls' := [some (.int x)]) (st' := []) (h' := h) 2 rfl ?_
  refine ev_ifIs (fun c1 => ?_) (fun c1 => ?_)
  · refine ev_b (pc' := 16) (ls' := [some (.int x)]) (st' := [.int 0]) (h' := h) 1 rfl ?_
    exact ev_rz rfl (Or.inl rfl) rfl rfl
  · refine ev_b (pc' := (if 400 ≤ x then 15 else 11)) (ls' := [some (.int x)]) (st' := []) (h' := h) 3 rfl ?_
    refine ev_ifIs (fun c8 => ?_) (fun c8 => ?_)
    · refine ev_b (pc' := 16) (ls' := [some (.int x)]) (st' := [.int 0]) (h' := h) 1 rfl ?_
      exact ev_rz rfl (Or.inl rfl) rfl rfl
    · refine ev_b (pc' := 16) (ls' := [some (.int x)]) (st' := [.int 1]) (h' := h) 2 rfl ?_
      exact ev_rz rfl (Or.inr rfl) rfl rfl
def sp_isColumn (x : Int32) : Int32 := (if x < 0 then 0 else (if 16 ≤ x then 0 else 1))
theorem ev_isColumn {d : Nat} {h : am_H} {x : Int32} : am_Ev (d) 149 0 (am_ent 1 [.int x]) [] h (some (.int (sp_isColumn x)), h) := by
  show am_Ev _ _ 0 [some (.int x)] _ _ (some (.int (if x < 0 then 0 else (if 16 ≤ x then 0 else 1))), h)
  refine ev_b (pc' := (if x < 0 then 14 else 4)) (ls' := [some (.int x)]) (st' := []) (h' := h) 2 rfl ?_
  refine ev_ifIs (fun c1 => ?_) (fun c1 => ?_)
  · refine ev_b (pc' := 15) (ls' := [some (.int x)]) (st' := [.int 0]) (h' := h) 1 rfl ?_
    exact ev_rz rfl (Or.inl rfl) rfl rfl
  · refine ev_b (pc' := (if 16 ≤ x then 14 else 10)) (ls' := [some (.int x)]) (st' := []) (h' := h) 3 rfl ?_
    refine ev_ifIs (fun c7 => ?_) (fun c7 => ?_)
    · refine ev_b (pc' := 15) (ls' := [some (.int x)]) (st' := [.int 0]) (h' := h) 1 rfl ?_
      exact ev_rz rfl (Or.inl rfl) rfl rfl
    · refine ev_b (pc' := 15) (ls' := [some (.int x)]) (st' := [.int 1]) (h' := h) 2 rfl ?_
      exact ev_rz rfl (Or.inr rfl) rfl rfl
def sp_isRing (x : Int32) : Int32 := (if x < 0 then 0 else (if 8 ≤ x then 0 else 1))
theorem ev_isRing {d : Nat} {h : am_H} {x : Int32} : am_Ev (d) 150 0 (am_ent 1 [.int x]) [] h (some (.int (sp_isRing x)), h) := by
  show am_Ev _ _ 0 [some (.int x)] _ _ (some (.int (if x < 0 then 0 else (if 8 ≤ x then 0 else 1))), h)
  refine ev_b (pc' := (if x < 0 then 14 else 4)) (ls' := [some (.int x)]) (st' := []) (h' := h) 2 rfl ?_
  refine ev_ifIs (fun c1 => ?_) (fun c1 => ?_)
  · refine ev_b (pc' := 15) (ls' := [some (.int x)]) (st' := [.int 0]) (h' := h) 1 rfl ?_
    exact ev_rz rfl (Or.inl rfl) rfl rfl
  · refine ev_b (pc' := (if 8 ≤ x then 14 else 10)) (ls' := [some (.int x)]) (st' := []) (h' := h) 3 rfl ?_
    refine ev_ifIs (fun c7 => ?_) (fun c7 => ?_)
    · refine ev_b (pc' := 15) (ls' := [some (.int x)]) (st' := [.int 0]) (h' := h) 1 rfl ?_
      exact ev_rz rfl (Or.inl rfl) rfl rfl
    · refine ev_b (pc' := 15) (ls' := [some (.int x)]) (st' := [.int 1]) (h' := h) 2 rfl ?_
      exact ev_rz rfl (Or.inr rfl) rfl rfl
def sp_isGauge (x : Int32) : Int32 := (if x < 0 then 0 else (if 4 ≤ x then 0 else 1))
theorem ev_isGauge {d : Nat} {h : am_H} {x : Int32} : am_Ev (d) 151 0 (am_ent 1 [.int x]) [] h (some (.int (sp_isGauge x)), h) := by
  show am_Ev _ _ 0 [some (.int x)] _ _ (some (.int (if x < 0 then 0 else (if 4 ≤ x then 0 else 1))), h)
  refine ev_b (pc' := (if x < 0 then 13 else 4)) (ls' := [some (.int x)]) (st' := []) (h' := h) 2 rfl ?_
  refine ev_ifIs (fun c1 => ?_) (fun c1 => ?_)
  · refine ev_b (pc' := 14) (ls' := [some (.int x)]) (st' := [.int 0]) (h' := h) 1 rfl ?_
    exact ev_rz rfl (Or.inl rfl) rfl rfl
  · refine ev_b (pc' := (if 4 ≤ x then 13 else 9)) (ls' := [some (.int x)]) (st' := []) (h' := h) 3 rfl ?_
    refine ev_ifIs (fun c6 => ?_) (fun c6 => ?_)
    · refine ev_b (pc' := 14) (ls' := [some (.int x)]) (st' := [.int 0]) (h' := h) 1 rfl ?_
      exact ev_rz rfl (Or.inl rfl) rfl rfl
    · refine ev_b (pc' := 14) (ls' := [some (.int x)]) (st' := [.int 1]) (h' := h) 2 rfl ?_
      exact ev_rz rfl (Or.inr rfl) rfl rfl
def sp_southOf (x : Int32) : Int32 := (2 * x) - 15
theorem ev_southOf {d : Nat} {h : am_H} {x : Int32} : am_Ev (d) 152 0 (am_ent 1 [.int x]) [] h (some (.int (sp_southOf x)), h) := by
  show am_Ev _ _ 0 [some (.int x)] _ _ (some (.int ((2 * x) - 15)), h)
  refine ev_b (pc' := 6) (ls' := [some (.int x)]) (st' := [.int ((2 * x) - 15)]) (h' := h) 5 rfl ?_
  exact ev_ri rfl rfl rfl
def sp_areDays (x : Int32) (y : Int32) : Int32 := (if x < 0 then 0 else (if y < x then 0 else (if 400 ≤ y then 0 else 1)))
theorem ev_areDays {d : Nat} {h : am_H} {x : Int32} {y : Int32} : am_Ev (d) 148 0 (am_ent 2 [.int x, .int y]) [] h (some (.int (sp_areDays x y)), h) := by
  show am_Ev _ _ 0 [some (.int x), some (.int y)] _ _ (some (.int (if x < 0 then 0 else (if y < x then 0 else (if 400 ≤ y then 0 else 1)))), h)
  refine ev_b (pc' := (if x < 0 then 20 else 4)) (ls' := [some (.int x), some (.int y)]) (st' := []) (h' := h) 2 rfl ?_
  refine ev_ifIs (fun c1 => ?_) (fun c1 => ?_)
  · refine ev_b (pc' := 21) (ls' := [some (.int x), some (.int y)]) (st' := [.int 0]) (h' := h) 1 rfl ?_
    exact ev_rz rfl (Or.inl rfl) rfl rfl
  · refine ev_b (pc' := (if y < x then 20 else 9)) (ls' := [some (.int x), some (.int y)]) (st' := []) (h' := h) 3 rfl ?_
    refine ev_ifIs (fun c6 => ?_) (fun c6 => ?_)
    · refine ev_b (pc' := 21) (ls' := [some (.int x), some (.int y)]) (st' := [.int 0]) (h' := h) 1 rfl ?_
      exact ev_rz rfl (Or.inl rfl) rfl rfl
    · refine ev_b (pc' := (if 400 ≤ y then 20 else 16)) (ls' := [some (.int x), some (.int y)]) (st' := []) (h' := h) 3 rfl ?_
      refine ev_ifIs (fun c13 => ?_) (fun c13 => ?_)
      · refine ev_b (pc' := 21) (ls' := [some (.int x), some (.int y)]) (st' := [.int 0]) (h' := h) 1 rfl ?_
        exact ev_rz rfl (Or.inl rfl) rfl rfl
      · refine ev_b (pc' := 21) (ls' := [some (.int x), some (.int y)]) (st' := [.int 1]) (h' := h) 2 rfl ?_
        exact ev_rz rfl (Or.inr rfl) rfl rfl
def sp_m_is (v : Int32) (a : Int32) (b : Int32) : Int32 := (if v < a then 0 else (if b < v then 0 else 1))
theorem ev_m_is {d : Nat} {h : am_H} {v : Int32} {a : Int32} {b : Int32} : am_Ev (d) 155 0 (am_ent 3 [.int v, .int a, .int b]) [] h (some (.int (sp_m_is v a b)), h) := by
  show am_Ev _ _ 0 [some (.int v), some (.int a), some (.int b)] _ _ (some (.int (if v < a then 0 else (if b < v then 0 else 1))), h)
  refine ev_b (pc' := (if v < a then 14 else 5)) (ls' := [some (.int v), some (.int a), some (.int b)]) (st' := []) (h' := h) 3 rfl ?_
  refine ev_ifIs (fun c2 => ?_) (fun c2 => ?_)
  · refine ev_b (pc' := 15) (ls' := [some (.int v), some (.int a), some (.int b)]) (st' := [.int 0]) (h' := h) 1 rfl ?_
    exact ev_rz rfl (Or.inl rfl) rfl rfl
  · refine ev_b (pc' := (if b < v then 14 else 10)) (ls' := [some (.int v), some (.int a), some (.int b)]) (st' := []) (h' := h) 3 rfl ?_
    refine ev_ifIs (fun c7 => ?_) (fun c7 => ?_)
    · refine ev_b (pc' := 15) (ls' := [some (.int v), some (.int a), some (.int b)]) (st' := [.int 0]) (h' := h) 1 rfl ?_
      exact ev_rz rfl (Or.inl rfl) rfl rfl
    · refine ev_b (pc' := 15) (ls' := [some (.int v), some (.int a), some (.int b)]) (st' := [.int 1]) (h' := h) 2 rfl ?_
      exact ev_rz rfl (Or.inr rfl) rfl rfl
def sp_m_isLetter (x : Int32) : Int32 := (if x < 97 then 0 else (if 122 < x then 0 else 1))
theorem ev_m_isLetter {d : Nat} {h : am_H} {x : Int32} : am_Ev (d) 160 0 (am_ent 1 [.int x]) [] h (some (.int (sp_m_isLetter x)), h) := by
  show am_Ev _ _ 0 [some (.int x)] _ _ (some (.int (if x < 97 then 0 else (if 122 < x then 0 else 1))), h)
  refine ev_b (pc' := (if x < 97 then 16 else 6)) (ls' := [some (.int x)]) (st' := []) (h' := h) 3 rfl ?_
  refine ev_ifIs (fun c3 => ?_) (fun c3 => ?_)
  · refine ev_b (pc' := 17) (ls' := [some (.int x)]) (st' := [.int 0]) (h' := h) 1 rfl ?_
    exact ev_rz rfl (Or.inl rfl) rfl rfl
  · refine ev_b (pc' := (if 122 < x then 16 else 12)) (ls' := [some (.int x)]) (st' := []) (h' := h) 3 rfl ?_
    refine ev_ifIs (fun c9 => ?_) (fun c9 => ?_)
    · refine ev_b (pc' := 17) (ls' := [some (.int x)]) (st' := [.int 0]) (h' := h) 1 rfl ?_
      exact ev_rz rfl (Or.inl rfl) rfl rfl
    · refine ev_b (pc' := 17) (ls' := [some (.int x)]) (st' := [.int 1]) (h' := h) 2 rfl ?_
      exact ev_rz rfl (Or.inr rfl) rfl rfl
def sp_m_isDigit (x : Int32) : Int32 := (if x < 48 then 0 else (if 57 < x then 0 else 1))
theorem ev_m_isDigit {d : Nat} {h : am_H} {x : Int32} : am_Ev (d) 161 0 (am_ent 1 [.int x]) [] h (some (.int (sp_m_isDigit x)), h) := by
  show am_Ev _ _ 0 [some (.int x)] _ _ (some (.int (if x < 48 then 0 else (if 57 < x then 0 else 1))), h)
  refine ev_b (pc' := (if x < 48 then 16 else 6)) (ls' := [some (.int x)]) (st' := []) (h' := h) 3 rfl ?_
  refine ev_ifIs (fun c3 => ?_) (fun c3 => ?_)
  · refine ev_b (pc' := 17) (ls' := [some (.int x)]) (st' := [.int 0]) (h' := h) 1 rfl ?_
    exact ev_rz rfl (Or.inl rfl) rfl rfl
  · refine ev_b (pc' := (if 57 < x then 16 else 12)) (ls' := [some (.int x)]) (st' := []) (h' := h) 3 rfl ?_
    refine ev_ifIs (fun c9 => ?_) (fun c9 => ?_)
    · refine ev_b (pc' := 17) (ls' := [some (.int x)]) (st' := [.int 0]) (h' := h) 1 rfl ?_
      exact ev_rz rfl (Or.inl rfl) rfl rfl
    · refine ev_b (pc' := 17) (ls' := [some (.int x)]) (st' := [.int 1]) (h' := h) 2 rfl ?_
      exact ev_rz rfl (Or.inr rfl) rfl rfl
def sp_m_rank (x : Int32) : Int32 := (if x = 25 then 1 else (if x = 24 then 2 else (if x = 26 then 3 else (if x = 21 then 4 else (if x = 22 then 4 else (if x = 23 then 4 else (if x = 15 then 5 else (if x = 16 then 5 else 6))))))))
theorem ev_m_rank {d : Nat} {h : am_H} {x : Int32} : am_Ev (d) 168 0 (am_ent 1 [.int x]) [] h (some (.int (sp_m_rank x)), h) := by
  show am_Ev _ _ 0 [some (.int x)] _ _ (some (.int (if x = 25 then 1 else (if x = 24 then 2 else (if x = 26 then 3 else (if x = 21 then 4 else (if x = 22 then 4 else (if x = 23 then 4 else (if x = 15 then 5 else (if x = 16 then 5 else 6))))))))), h)
  refine ev_b (pc' := (if x = 25 then 6 else 10)) (ls' := [some (.int x)]) (st' := []) (h' := h) 3 rfl ?_
  refine ev_ifIs (fun c3 => ?_) (fun c3 => ?_)
  · refine ev_b (pc' := 70) (ls' := [some (.int x)]) (st' := [.int 1]) (h' := h) 2 rfl ?_
    exact ev_ri rfl rfl rfl
  · refine ev_b (pc' := (if x = 24 then 16 else 20)) (ls' := [some (.int x)]) (st' := []) (h' := h) 3 rfl ?_
    refine ev_ifIs (fun c13 => ?_) (fun c13 => ?_)
    · refine ev_b (pc' := 70) (ls' := [some (.int x)]) (st' := [.int 2]) (h' := h) 2 rfl ?_
      exact ev_ri rfl rfl rfl
    · refine ev_b (pc' := (if x = 26 then 26 else 30)) (ls' := [some (.int x)]) (st' := []) (h' := h) 3 rfl ?_
      refine ev_ifIs (fun c23 => ?_) (fun c23 => ?_)
      · refine ev_b (pc' := 70) (ls' := [some (.int x)]) (st' := [.int 3]) (h' := h) 2 rfl ?_
        exact ev_ri rfl rfl rfl
      · refine ev_b (pc' := (if x = 21 then 48 else 36)) (ls' := [some (.int x)]) (st' := []) (h' := h) 3 rfl ?_
        refine ev_ifIs (fun c33 => ?_) (fun c33 => ?_)
        · refine ev_b (pc' := 70) (ls' := [some (.int x)]) (st' := [.int 4]) (h' := h) 2 rfl ?_
          exact ev_ri rfl rfl rfl
        · refine ev_b (pc' := (if x = 22 then 48 else 42)) (ls' := [some (.int x)]) (st' := []) (h' := h) 3 rfl ?_
          refine ev_ifIs (fun c39 => ?_) (fun c39 => ?_)
          · refine ev_b (pc' := 70) (ls' := [some (.int x)]) (st' := [.int 4]) (h' := h) 2 rfl ?_
            exact ev_ri rfl rfl rfl
          · refine ev_b (pc' := (if x = 23 then 48 else 52)) (ls' := [some (.int x)]) (st' := []) (h' := h) 3 rfl ?_
            refine ev_ifIs (fun c45 => ?_) (fun c45 => ?_)
            · refine ev_b (pc' := 70) (ls' := [some (.int x)]) (st' := [.int 4]) (h' := h) 2 rfl ?_
              exact ev_ri rfl rfl rfl
            · refine ev_b (pc' := (if x = 15 then 64 else 58)) (ls' := [some (.int x)]) (st' := []) (h' := h) 3 rfl ?_
              refine ev_ifIs (fun c55 => ?_) (fun c55 => ?_)
              · refine ev_b (pc' := 70) (ls' := [some (.int x)]) (st' := [.int 5]) (h' := h) 2 rfl ?_
                exact ev_ri rfl rfl rfl
              · refine ev_b (pc' := (if x = 16 then 64 else 68)) (ls' := [some (.int x)]) (st' := []) (h' := h) 3 rfl ?_
                refine ev_ifIs (fun c61 => ?_) (fun c61 => ?_)
                · refine ev_b (pc' := 70) (ls' := [some (.int x)]) (st' := [.int 5]) (h' := h) 2 rfl ?_
                  exact ev_ri rfl rfl rfl
                · refine ev_b (pc' := 70) (ls' := [some (.int x)]) (st' := [.int 6]) (h' := h) 1 rfl ?_
                  exact ev_ri rfl rfl rfl
def sp_m_isTest (x : Int32) : Int32 := (if x = 1 then 1 else (if x = 5 then 1 else 0))
theorem ev_m_isTest {d : Nat} {h : am_H} {x : Int32} : am_Ev (d) 173 0 (am_ent 1 [.int x]) [] h (some (.int (sp_m_isTest x)), h) := by
  show am_Ev _ _ 0 [some (.int x)] _ _ (some (.int (if x = 1 then 1 else (if x = 5 then 1 else 0))), h)
  refine ev_b (pc' := (if x = 1 then 10 else 5)) (ls' := [some (.int x)]) (st' := []) (h' := h) 3 rfl ?_
  refine ev_ifIs (fun c2 => ?_) (fun c2 => ?_)
  · refine ev_b (pc' := 15) (ls' := [some (.int x)]) (st' := [.int 1]) (h' := h) 2 rfl ?_
    exact ev_rz rfl (Or.inr rfl) rfl rfl
  · refine ev_b (pc' := (if x = 5 then 10 else 14)) (ls' := [some (.int x)]) (st' := []) (h' := h) 3 rfl ?_
    refine ev_ifIs (fun c7 => ?_) (fun c7 => ?_)
    · refine ev_b (pc' := 15) (ls' := [some (.int x)]) (st' := [.int 1]) (h' := h) 2 rfl ?_
      exact ev_rz rfl (Or.inr rfl) rfl rfl
    · refine ev_b (pc' := 15) (ls' := [some (.int x)]) (st' := [.int 0]) (h' := h) 1 rfl ?_
      exact ev_rz rfl (Or.inl rfl) rfl rfl
def sp_m_isDay (x : Int32) : Int32 := sp_m_is x 0 399
theorem ev_m_isDay {d : Nat} {h : am_H} {x : Int32} : am_Ev (d + 1) 181 0 (am_ent 1 [.int x]) [] h (some (.int (sp_m_isDay x)), h) := by
  show am_Ev _ _ 0 [some (.int x)] _ _ (some (.int (sp_m_is x 0 399)), h)
  refine ev_b (pc' := 5) (ls' := [some (.int x)]) (st' := [.int 399, .int 0, .int x]) (h' := h) 3 rfl ?_
  refine ev_cs [.int x, .int 0, .int 399] [] rfl rfl (by omega) rfl (Nat.le_of_ble_eq_true rfl) (Nat.le_of_ble_eq_true rfl) (ev_m_is) ?_
  exact ev_rz rfl (by (repeat (first | exact Or.inl rfl | exact Or.inr rfl | apply am_01))) rfl rfl
def sp_m_isColumn (x : Int32) : Int32 := sp_m_is x 0 15
theorem ev_m_isColumn {d : Nat} {h : am_H} {x : Int32} : am_Ev (d + 1) 182 0 (am_ent 1 [.int x]) [] h (some (.int (sp_m_isColumn x)), h) := by
  show am_Ev _ _ 0 [some (.int x)] _ _ (some (.int (sp_m_is x 0 15)), h)
  refine ev_b (pc' := 4) (ls' := [some (.int x)]) (st' := [.int 15, .int 0, .int x]) (h' := h) 3 rfl ?_
  refine ev_cs [.int x, .int 0, .int 15] [] rfl rfl (by omega) rfl (Nat.le_of_ble_eq_true rfl) (Nat.le_of_ble_eq_true rfl) (ev_m_is) ?_
  exact ev_rz rfl (by (repeat (first | exact Or.inl rfl | exact Or.inr rfl | apply am_01))) rfl rfl
def sp_m_isLurch (x : Int32) : Int32 := sp_m_is x (-1000000) 1000000
theorem ev_m_isLurch {d : Nat} {h : am_H} {x : Int32} : am_Ev (d + 1) 241 0 (am_ent 1 [.int x]) [] h (some (.int (sp_m_isLurch x)), h) := by
  show am_Ev _ _ 0 [some (.int x)] _ _ (some (.int (sp_m_is x (-1000000) 1000000)), h)
  refine ev_b (pc' := 6) (ls' := [some (.int x)]) (st' := [.int 1000000, .int (-1000000), .int x]) (h' := h) 3 rfl ?_
  refine ev_cs [.int x, .int (-1000000), .int 1000000] [] rfl rfl (by omega) rfl (Nat.le_of_ble_eq_true rfl) (Nat.le_of_ble_eq_true rfl) (ev_m_is) ?_
  exact ev_rz rfl (by (repeat (first | exact Or.inl rfl | exact Or.inr rfl | apply am_01))) rfl rfl
def sp_m_areDays (x : Int32) (y : Int32) : Int32 := (if (sp_m_isDay x) = 0 then 0 else (if (sp_m_isDay y) = 0 then 0 else (if y < x then 0 else 1)))
theorem ev_m_areDays {d : Nat} {h : am_H} {x : Int32} {y : Int32} : am_Ev (d + 2) 228 0 (am_ent 2 [.int x, .int y]) [] h (some (.int (sp_m_areDays x y)), h) := by
  show am_Ev _ _ 0 [some (.int x), some (.int y)] _ _ (some (.int (if (sp_m_isDay x) = 0 then 0 else (if (sp_m_isDay y) = 0 then 0 else (if y < x then 0 else 1)))), h)
  refine ev_b (pc' := 1) (ls' := [some (.int x), some (.int y)]) (st' := [.int x]) (h' := h) 1 rfl ?_
  refine ev_cs [.int x] [] rfl rfl (by omega) rfl (Nat.le_of_ble_eq_true rfl) (Nat.le_of_ble_eq_true rfl) (ev_m_isDay) ?_
  refine ev_b (pc' := (if (sp_m_isDay x) = 0 then 23 else 7)) (ls' := [some (.int x), some (.int y)]) (st' := []) (h' := h) 1 rfl ?_
  refine ev_ifIs (fun c4 => ?_) (fun c4 => ?_)
  · refine ev_b (pc' := 24) (ls' := [some (.int x), some (.int y)]) (st' := [.int 0]) (h' := h) 1 rfl ?_
    exact ev_rz rfl (Or.inl rfl) rfl rfl
  · refine ev_b (pc' := 8) (ls' := [some (.int x), some (.int y)]) (st' := [.int y]) (h' := h) 1 rfl ?_
    refine ev_cs [.int y] [] rfl rfl (by omega) rfl (Nat.le_of_ble_eq_true rfl) (Nat.le_of_ble_eq_true rfl) (ev_m_isDay) ?_
    refine ev_b (pc' := (if (sp_m_isDay y) = 0 then 23 else 14)) (ls' := [some (.int x), some (.int y)]) (st' := []) (h' := h) 1 rfl ?_
    refine ev_ifIs (fun c11 => ?_) (fun c11 => ?_)
    · refine ev_b (pc' := 24) (ls' := [some (.int x), some (.int y)]) (st' := [.int 0]) (h' := h) 1 rfl ?_
      exact ev_rz rfl (Or.inl rfl) rfl rfl
    · refine ev_b (pc' := (if y < x then 23 else 19)) (ls' := [some (.int x), some (.int y)]) (st' := []) (h' := h) 3 rfl ?_
      refine ev_ifIs (fun c16 => ?_) (fun c16 => ?_)
      · refine ev_b (pc' := 24) (ls' := [some (.int x), some (.int y)]) (st' := [.int 0]) (h' := h) 1 rfl ?_
        exact ev_rz rfl (Or.inl rfl) rfl rfl
      · refine ev_b (pc' := 24) (ls' := [some (.int x), some (.int y)]) (st' := [.int 1]) (h' := h) 2 rfl ?_
        exact ev_rz rfl (Or.inr rfl) rfl rfl
def sp_m_held (v : Int64) : Int64 := (if (lg_cmp v 1000000000000) ≤ 0 then (if 0 ≤ (lg_cmp v (-1000000000000)) then v else (-1000000000000)) else 1000000000000)
theorem ev_m_held {d : Nat} {h : am_H} {v : Int64} : am_Ev (d) 216 0 (am_ent 2 [.long v]) [] h (some (.long (sp_m_held v)), h) := by
  show am_Ev _ _ 0 [some (.long v), none] _ _ (some (.long (if (lg_cmp v 1000000000000) ≤ 0 then (if 0 ≤ (lg_cmp v (-1000000000000)) then v else (-1000000000000)) else 1000000000000)), h)
  refine ev_b (pc' := (if (lg_cmp v 1000000000000) ≤ 0 then 14 else 8)) (ls' := [some (.long v), none]) (st' := []) (h' := h) 4 rfl ?_
  refine ev_ifJs (fun c5 => ?_) (fun c5 => ?_)
  · refine ev_b (pc' := (if 0 ≤ (lg_cmp v (-1000000000000)) then 28 else 22)) (ls' := [some (.long v), none]) (st' := []) (h' := h) 4 rfl ?_
    refine ev_ifJs (fun c19 => ?_) (fun c19 => ?_)
    · refine ev_b (pc' := 29) (ls' := [some (.long v), none]) (st' := [.long v]) (h' := h) 1 rfl ?_
      exact ev_rl rfl rfl rfl
    · refine ev_b (pc' := 29) (ls' := [some (.long v), none]) (st' := [.long (-1000000000000)]) (h' := h) 2 rfl ?_
      exact ev_rl rfl rfl rfl
  · refine ev_b (pc' := 29) (ls' := [some (.long v), none]) (st' := [.long 1000000000000]) (h' := h) 2 rfl ?_
    exact ev_rl rfl rfl rfl
def sp_maxI (a : Int32) (b : Int32) : Int32 := (if a < b then b else a)
theorem ev_maxI {d : Nat} {h : am_H} {a : Int32} {b : Int32} : am_Ev (d) 249 0 (am_ent 2 [.int a, .int b]) [] h (some (.int (sp_maxI a b)), h) := by
  show am_Ev _ _ 0 [some (.int a), some (.int b)] _ _ (some (.int (if a < b then b else a)), h)
  refine ev_b (pc' := (if a < b then 9 else 5)) (ls' := [some (.int a), some (.int b)]) (st' := []) (h' := h) 3 rfl ?_
  refine ev_ifIs (fun c2 => ?_) (fun c2 => ?_)
  · refine ev_b (pc' := 10) (ls' := [some (.int a), some (.int b)]) (st' := [.int b]) (h' := h) 1 rfl ?_
    exact ev_ri rfl rfl rfl
  · refine ev_b (pc' := 10) (ls' := [some (.int a), some (.int b)]) (st' := [.int a]) (h' := h) 2 rfl ?_
    exact ev_ri rfl rfl rfl
def sp_minI (a : Int32) (b : Int32) : Int32 := (if b < a then b else a)
theorem ev_minI {d : Nat} {h : am_H} {a : Int32} {b : Int32} : am_Ev (d) 251 0 (am_ent 2 [.int a, .int b]) [] h (some (.int (sp_minI a b)), h) := by
  show am_Ev _ _ 0 [some (.int a), some (.int b)] _ _ (some (.int (if b < a then b else a)), h)
  refine ev_b (pc' := (if b < a then 9 else 5)) (ls' := [some (.int a), some (.int b)]) (st' := []) (h' := h) 3 rfl ?_
  refine ev_ifIs (fun c2 => ?_) (fun c2 => ?_)
  · refine ev_b (pc' := 10) (ls' := [some (.int a), some (.int b)]) (st' := [.int b]) (h' := h) 1 rfl ?_
    exact ev_ri rfl rfl rfl
  · refine ev_b (pc' := 10) (ls' := [some (.int a), some (.int b)]) (st' := [.int a]) (h' := h) 2 rfl ?_
    exact ev_ri rfl rfl rfl
def sp_maxL (a : Int64) (b : Int64) : Int64 := (if (lg_cmp a b) < 0 then b else a)
theorem ev_maxL {d : Nat} {h : am_H} {a : Int64} {b : Int64} : am_Ev (d) 250 0 (am_ent 4 [.long a, .long b]) [] h (some (.long (sp_maxL a b)), h) := by
  show am_Ev _ _ 0 [some (.long a), none, some (.long b), none] _ _ (some (.long (if (lg_cmp a b) < 0 then b else a)), h)
  refine ev_b (pc' := (if (lg_cmp a b) < 0 then 10 else 6)) (ls' := [some (.long a), none, some (.long b), none]) (st' := []) (h' := h) 4 rfl ?_
  refine ev_ifJs (fun c3 => ?_) (fun c3 => ?_)
  · refine ev_b (pc' := 11) (ls' := [some (.long a), none, some (.long b), none]) (st' := [.long b]) (h' := h) 1 rfl ?_
    exact ev_rl rfl rfl rfl
  · refine ev_b (pc' := 11) (ls' := [some (.long a), none, some (.long b), none]) (st' := [.long a]) (h' := h) 2 rfl ?_
    exact ev_rl rfl rfl rfl
def sp_minL (a : Int64) (b : Int64) : Int64 := (if 0 < (lg_cmp a b) then b else a)
theorem ev_minL {d : Nat} {h : am_H} {a : Int64} {b : Int64} : am_Ev (d) 252 0 (am_ent 4 [.long a, .long b]) [] h (some (.long (sp_minL a b)), h) := by
  show am_Ev _ _ 0 [some (.long a), none, some (.long b), none] _ _ (some (.long (if 0 < (lg_cmp a b) then b else a)), h)
  refine ev_b (pc' := (if 0 < (lg_cmp a b) then 10 else 6)) (ls' := [some (.long a), none, some (.long b), none]) (st' := []) (h' := h) 4 rfl ?_
  refine ev_ifJs (fun c3 => ?_) (fun c3 => ?_)
  · refine ev_b (pc' := 11) (ls' := [some (.long a), none, some (.long b), none]) (st' := [.long b]) (h' := h) 1 rfl ?_
    exact ev_rl rfl rfl rfl
  · refine ev_b (pc' := 11) (ls' := [some (.long a), none, some (.long b), none]) (st' := [.long a]) (h' := h) 2 rfl ?_
    exact ev_rl rfl rfl rfl
def sp_absL (a : Int64) : Int64 := (if 0 ≤ (lg_cmp a 0) then a else -a)
theorem ev_absL {d : Nat} {h : am_H} {a : Int64} : am_Ev (d) 248 0 (am_ent 2 [.long a]) [] h (some (.long (sp_absL a)), h) := by
  show am_Ev _ _ 0 [some (.long a), none] _ _ (some (.long (if 0 ≤ (lg_cmp a 0) then a else -a)), h)
  refine ev_b (pc' := (if 0 ≤ (lg_cmp a 0) then 11 else 6)) (ls' := [some (.long a), none]) (st' := []) (h' := h) 4 rfl ?_
  refine ev_ifJs (fun c3 => ?_) (fun c3 => ?_)
  · refine ev_b (pc' := 12) (ls' := [some (.long a), none]) (st' := [.long a]) (h' := h) 1 rfl ?_
    exact ev_rl rfl rfl rfl
  · refine ev_b (pc' := 12) (ls' := [some (.long a), none]) (st' := [.long (-a)]) (h' := h) 3 rfl ?_
    exact ev_rl rfl rfl rfl
def sp_j_isJoin (x : Int32) : Int32 := (if x = 8 then 1 else (if x = 7 then 1 else (if x = 19 then 1 else (if x = 20 then 1 else 0))))
theorem ev_j_isJoin {d : Nat} {h : am_H} {x : Int32} : am_Ev (d) 55 0 (am_ent 1 [.int x]) [] h (some (.int (sp_j_isJoin x)), h) := by
  show am_Ev _ _ 0 [some (.int x)] _ _ (some (.int (if x = 8 then 1 else (if x = 7 then 1 else (if x = 19 then 1 else (if x = 20 then 1 else 0))))), h)
  refine ev_b (pc' := (if x = 8 then 24 else 6)) (ls' := [some (.int x)]) (st' := []) (h' := h) 3 rfl ?_
  refine ev_ifIs (fun c3 => ?_) (fun c3 => ?_)
  · refine ev_b (pc' := 29) (ls' := [some (.int x)]) (st' := [.int 1]) (h' := h) 2 rfl ?_
    exact ev_rz rfl (Or.inr rfl) rfl rfl
  · refine ev_b (pc' := (if x = 7 then 24 else 12)) (ls' := [some (.int x)]) (st' := []) (h' := h) 3 rfl ?_
    refine ev_ifIs (fun c9 => ?_) (fun c9 => ?_)
    · refine ev_b (pc' := 29) (ls' := [some (.int x)]) (st' := [.int 1]) (h' := h) 2 rfl ?_
      exact ev_rz rfl (Or.inr rfl) rfl rfl
    · refine ev_b (pc' := (if x = 19 then 24 else 18)) (ls' := [some (.int x)]) (st' := []) (h' := h) 3 rfl ?_
      refine ev_ifIs (fun c15 => ?_) (fun c15 => ?_)
      · refine ev_b (pc' := 29) (ls' := [some (.int x)]) (st' := [.int 1]) (h' := h) 2 rfl ?_
        exact ev_rz rfl (Or.inr rfl) rfl rfl
      · refine ev_b (pc' := (if x = 20 then 24 else 28)) (ls' := [some (.int x)]) (st' := []) (h' := h) 3 rfl ?_
        refine ev_ifIs (fun c21 => ?_) (fun c21 => ?_)
        · refine ev_b (pc' := 29) (ls' := [some (.int x)]) (st' := [.int 1]) (h' := h) 2 rfl ?_
          exact ev_rz rfl (Or.inr rfl) rfl rfl
        · refine ev_b (pc' := 29) (ls' := [some (.int x)]) (st' := [.int 0]) (h' := h) 1 rfl ?_
          exact ev_rz rfl (Or.inl rfl) rfl rfl
def sp_j_bounded (x : Int64) : Int64 := sp_maxL (-1000000000000) (sp_minL 1000000000000 x)
theorem ev_j_bounded {d : Nat} {h : am_H} {x : Int64} : am_Ev (d + 1) 59 0 (am_ent 2 [.long x]) [] h (some (.long (sp_j_bounded x)), h) := by
  show am_Ev _ _ 0 [some (.long x), none] _ _ (some (.long (sp_maxL (-1000000000000) (sp_minL 1000000000000 x))), h)
  refine ev_b (pc' := 7) (ls' := [some (.long x), none]) (st' := [.long x, .long 1000000000000, .long (-1000000000000)]) (h' := h) 3 rfl ?_
  refine ev_cs [.long 1000000000000, .long x] [.long (-1000000000000)] rfl rfl (by omega) rfl (Nat.le_of_ble_eq_true rfl) (Nat.le_of_ble_eq_true rfl) (ev_minL) ?_
  refine ev_cs [.long (-1000000000000), .long (sp_minL 1000000000000 x)] [] rfl rfl (by omega) rfl (Nat.le_of_ble_eq_true rfl) (Nat.le_of_ble_eq_true rfl) (ev_maxL) ?_
  exact ev_rl rfl rfl rfl
def sp_c_size  (I : Nat → Nat → Int32) (L : Nat → Nat → Int64) : Int32 := I 77 2
theorem ev_c_size {d : Nat} {n sl : Nat} {k : Nat → Nat × Nat} {I : Nat → Nat → Int32} {L : Nat → Nat → Int64} {q : Nat → Nat → Option Nat} : am_Ev (d) 16 0 (am_ent 1 [.ref 77]) [] (n, sl, wKK k, I, L, wQQ q) (some (.int (sp_c_size I L)), (n, sl, wKK k, I, L, wQQ q)) := by
  show am_Ev _ _ 0 [some (.ref 77)] _ _ (some (.int (I 77 2)), (n, sl, wKK k, I, L, wQQ q))
  refine ev_b (pc' := 4) (ls' := [some (.ref 77)]) (st' := [.int (I 77 2)]) (h' := (n, sl, wKK k, I, L, wQQ q)) 2 rfl ?_
  exact ev_ri rfl rfl rfl
def sp_c_clear  (I : Nat → Nat → Int32) (L : Nat → Nat → Int64) : Int32 := I 77 2
def sI_c_clear  (I : Nat → Nat → Int32) (L : Nat → Nat → Int64) : Nat → Nat → Int32 := (va_up I 77 (upd (I 77) 2 0))
def sL_c_clear  (I : Nat → Nat → Int32) (L : Nat → Nat → Int64) : Nat → Nat → Int64 := L
theorem ev_c_clear {d : Nat} {n sl : Nat} {k : Nat → Nat × Nat} {I : Nat → Nat → Int32} {L : Nat → Nat → Int64} {q : Nat → Nat → Option Nat} : am_Ev (d) 18 0 (am_ent 2 [.ref 77]) [] (n, sl, wKK k, I, L, wQQ q) (some (.int (sp_c_clear I L)), (n, sl, wKK k, sI_c_clear I L, sL_c_clear I L, wQQ q)) := by
  show am_Ev _ _ 0 [some (.ref 77), none] _ _ (some (.int (I 77 2)), (n, sl, wKK k, (va_up I 77 (upd (I 77) 2 0)), L, wQQ q))
  refine ev_b (pc' := 11) (ls' := [some (.ref 77), some (.int (I 77 2))]) (st' := [.int (I 77 2)]) (h' := (n, sl, wKK k, va_up I 77 (upd (I 77) 2 0), L, wQQ q)) 7 rfl ?_
  exact ev_ri rfl rfl rfl
theorem sLe_c_clear  (I : Nat → Nat → Int32) (L : Nat → Nat → Int64) : sL_c_clear I L = L := by
  unfold sL_c_clear
  try (repeat' split) <;> rfl
def sp_c_setCount  (I : Nat → Nat → Int32) (L : Nat → Nat → Int64) : Int32 := I 77 3
theorem ev_c_setCount {d : Nat} {n sl : Nat} {k : Nat → Nat × Nat} {I : Nat → Nat → Int32} {L : Nat → Nat → Int64} {q : Nat → Nat → Option Nat} : am_Ev (d) 20 0 (am_ent 1 [.ref 77]) [] (n, sl, wKK k, I, L, wQQ q) (some (.int (sp_c_setCount I L)), (n, sl, wKK k, I, L, wQQ q)) := by
  show am_Ev _ _ 0 [some (.ref 77)] _ _ (some (.int (I 77 3)), (n, sl, wKK k, I, L, wQQ q))
  refine ev_b (pc' := 4) (ls' := [some (.ref 77)]) (st' := [.int (I 77 3)]) (h' := (n, sl, wKK k, I, L, wQQ q)) 2 rfl ?_
  exact ev_ri rfl rfl rfl
def sp_c_found (z : Int32) (I : Nat → Nat → Int32) (L : Nat → Nat → Int64) : Int32 := (if (I 77 3) = 0 then (-2) else (if z = 0 then I 77 5 else I 77 4))
theorem ev_c_found {d : Nat} {n sl : Nat} {k : Nat → Nat × Nat} {I : Nat → Nat → Int32} {L : Nat → Nat → Int64} {q : Nat → Nat → Option Nat} {z : Int32} : am_Ev (d) 21 0 (am_ent 2 [.ref 77, .int z]) [] (n, sl, wKK k, I, L, wQQ q) (some (.int (sp_c_found z I L)), (n, sl, wKK k, I, L, wQQ q)) := by
  show am_Ev _ _ 0 [some (.ref 77), some (.int z)] _ _ (some (.int (if (I 77 3) = 0 then (-2) else (if z = 0 then I 77 5 else I 77 4))), (n, sl, wKK k, I, L, wQQ q))
  refine ev_b (pc' := (if (I 77 3) = 0 then 7 else 10)) (ls' := [some (.ref 77), some (.int z)]) (st' := []) (h' := (n, sl, wKK k, I, L, wQQ q)) 3 rfl ?_
  refine ev_ifIs (fun c4 => ?_) (fun c4 => ?_)
  · refine ev_b (pc' := 9) (ls' := [some (.ref 77), some (.int z)]) (st' := [.int (-2)]) (h' := (n, sl, wKK k, I, L, wQQ q)) 1 rfl ?_
    exact ev_ri rfl rfl rfl
  · refine ev_b (pc' := (if z = 0 then 21 else 14)) (ls' := [some (.ref 77), some (.int z)]) (st' := []) (h' := (n, sl, wKK k, I, L, wQQ q)) 2 rfl ?_
    refine ev_ifIs (fun c11 => ?_) (fun c11 => ?_)
    · refine ev_b (pc' := 25) (ls' := [some (.ref 77), some (.int z)]) (st' := [.int (I 77 5)]) (h' := (n, sl, wKK k, I, L, wQQ q)) 2 rfl ?_
      exact ev_ri rfl rfl rfl
    · refine ev_b (pc' := 25) (ls' := [some (.ref 77), some (.int z)]) (st' := [.int (I 77 4)]) (h' := (n, sl, wKK k, I, L, wQQ q)) 3 rfl ?_
      exact ev_ri rfl rfl rfl
def sp_b_size  (I : Nat → Nat → Int32) (L : Nat → Nat → Int64) : Int32 := I 55 2
theorem ev_b_size {d : Nat} {n sl : Nat} {k : Nat → Nat × Nat} {I : Nat → Nat → Int32} {L : Nat → Nat → Int64} {q : Nat → Nat → Option Nat} : am_Ev (d) 5 0 (am_ent 1 [.ref 55]) [] (n, sl, wKK k, I, L, wQQ q) (some (.int (sp_b_size I L)), (n, sl, wKK k, I, L, wQQ q)) := by
  show am_Ev _ _ 0 [some (.ref 55)] _ _ (some (.int (I 55 2)), (n, sl, wKK k, I, L, wQQ q))
  refine ev_b (pc' := 4) (ls' := [some (.ref 55)]) (st' := [.int (I 55 2)]) (h' := (n, sl, wKK k, I, L, wQQ q)) 2 rfl ?_
  exact ev_ri rfl rfl rfl
def sp_b_isFull  (I : Nat → Nat → Int32) (L : Nat → Nat → Int64) : Int32 := (if (I 55 2) < 200 then 0 else 1)
theorem ev_b_isFull {d : Nat} {n sl : Nat} {k : Nat → Nat × Nat} {I : Nat → Nat → Int32} {L : Nat → Nat → Int64} {q : Nat → Nat → Option Nat} : am_Ev (d) 6 0 (am_ent 1 [.ref 55]) [] (n, sl, wKK k, I, L, wQQ q) (some (.int (sp_b_isFull I L)), (n, sl, wKK k, I, L, wQQ q)) := by
  show am_Ev _ _ 0 [some (.ref 55)] _ _ (some (.int (if (I 55 2) < 200 then 0 else 1)), (n, sl, wKK k, I, L, wQQ q))
  refine ev_b (pc' := (if (I 55 2) < 200 then 14 else 10)) (ls' := [some (.ref 55)]) (st' := []) (h' := (n, sl, wKK k, I, L, wQQ q)) 4 rfl ?_
  refine ev_ifIs (fun c7 => ?_) (fun c7 => ?_)
  · refine ev_b (pc' := 15) (ls' := [some (.ref 55)]) (st' := [.int 0]) (h' := (n, sl, wKK k, I, L, wQQ q)) 1 rfl ?_
    exact ev_rz rfl (Or.inl rfl) rfl rfl
  · refine ev_b (pc' := 15) (ls' := [some (.ref 55)]) (st' := [.int 1]) (h' := (n, sl, wKK k, I, L, wQQ q)) 2 rfl ?_
    exact ev_rz rfl (Or.inr rfl) rfl rfl
def sp_b_changeCount  (I : Nat → Nat → Int32) (L : Nat → Nat → Int64) : Int32 := I 55 4
theorem ev_b_changeCount {d : Nat} {n sl : Nat} {k : Nat → Nat × Nat} {I : Nat → Nat → Int32} {L : Nat → Nat → Int64} {q : Nat → Nat → Option Nat} : am_Ev (d) 7 0 (am_ent 1 [.ref 55]) [] (n, sl, wKK k, I, L, wQQ q) (some (.int (sp_b_changeCount I L)), (n, sl, wKK k, I, L, wQQ q)) := by
  show am_Ev _ _ 0 [some (.ref 55)] _ _ (some (.int (I 55 4)), (n, sl, wKK k, I, L, wQQ q))
  refine ev_b (pc' := 4) (ls' := [some (.ref 55)]) (st' := [.int (I 55 4)]) (h' := (n, sl, wKK k, I, L, wQQ q)) 2 rfl ?_
  exact ev_ri rfl rfl rfl
def sp_b_knownAt  (I : Nat → Nat → Int32) (L : Nat → Nat → Int64) : Int32 := (if (I 55 3) = (-1) then I 55 2 else I 55 3)
theorem ev_b_knownAt {d : Nat} {n sl : Nat} {k : Nat → Nat × Nat} {I : Nat → Nat → Int32} {L : Nat → Nat → Int64} {q : Nat → Nat → Option Nat} : am_Ev (d) 8 0 (am_ent 1 [.ref 55]) [] (n, sl, wKK k, I, L, wQQ q) (some (.int (sp_b_knownAt I L)), (n, sl, wKK k, I, L, wQQ q)) := by
  show am_Ev _ _ 0 [some (.ref 55)] _ _ (some (.int (if (I 55 3) = (-1) then I 55 2 else I 55 3)), (n, sl, wKK k, I, L, wQQ q))
  refine ev_b (pc' := (if (I 55 3) = (-1) then 8 else 15)) (ls' := [some (.ref 55)]) (st' := []) (h' := (n, sl, wKK k, I, L, wQQ q)) 4 rfl ?_
  refine ev_ifIs (fun c5 => ?_) (fun c5 => ?_)
  · refine ev_b (pc' := 19) (ls' := [some (.ref 55)]) (st' := [.int (I 55 2)]) (h' := (n, sl, wKK k, I, L, wQQ q)) 3 rfl ?_
    exact ev_ri rfl rfl rfl
  · refine ev_b (pc' := 19) (ls' := [some (.ref 55)]) (st' := [.int (I 55 3)]) (h' := (n, sl, wKK k, I, L, wQQ q)) 2 rfl ?_
    exact ev_ri rfl rfl rfl
def sp_d_changeCount  (I : Nat → Nat → Int32) (L : Nat → Nat → Int64) : Int32 := I 13 12
theorem ev_d_changeCount {d : Nat} {n sl : Nat} {k : Nat → Nat × Nat} {I : Nat → Nat → Int32} {L : Nat → Nat → Int64} {q : Nat → Nat → Option Nat} : am_Ev (d) 23 0 (am_ent 1 [.ref 13]) [] (n, sl, wKK k, I, L, wQQ q) (some (.int (sp_d_changeCount I L)), (n, sl, wKK k, I, L, wQQ q)) := by
  show am_Ev _ _ 0 [some (.ref 13)] _ _ (some (.int (I 13 12)), (n, sl, wKK k, I, L, wQQ q))
  refine ev_b (pc' := 4) (ls' := [some (.ref 13)]) (st' := [.int (I 13 12)]) (h' := (n, sl, wKK k, I, L, wQQ q)) 2 rfl ?_
  exact ev_ri rfl rfl rfl
def sI_d_spoil (x : Int32) (I : Nat → Nat → Int32) (L : Nat → Nat → Int64) : Nat → Nat → Int32 := (va_up (va_up I 13 (upd (I 13) 11 (sp_maxI 0 (sp_minI (I 13 11) x)))) 13 (upd ((va_up I 13 (upd (I 13) 11 (sp_maxI 0 (sp_minI (I 13 11) x)))) 13) 12 ((I 13 12) + 1)))
def sL_d_spoil (x : Int32) (I : Nat → Nat → Int32) (L : Nat → Nat → Int64) : Nat → Nat → Int64 := L
theorem ev_d_spoil {d : Nat} {n sl : Nat} {k : Nat → Nat × Nat} {I : Nat → Nat → Int32} {L : Nat → Nat → Int64} {q : Nat → Nat → Option Nat} {x : Int32} : am_Ev (d + 1) 25 0 (am_ent 2 [.ref 13, .int x]) [] (n, sl, wKK k, I, L, wQQ q) (none, (n, sl, wKK k, sI_d_spoil x I L, sL_d_spoil x I L, wQQ q)) := by
  show am_Ev _ _ 0 [some (.ref 13), some (.int x)] _ _ (none, (n, sl, wKK k, (va_up (va_up I 13 (upd (I 13) 11 (sp_maxI 0 (sp_minI (I 13 11) x)))) 13 (upd ((va_up I 13 (upd (I 13) 11 (sp_maxI 0 (sp_minI (I 13 11) x)))) 13) 12 ((I 13 12) + 1))), L, wQQ q))
  refine ev_b (pc' := 7) (ls' := [some (.ref 13), some (.int x)]) (st' := [.int x, .int (I 13 11), .int 0, .ref 13]) (h' := (n, sl, wKK k, I, L, wQQ q)) 5 rfl ?_
  refine ev_cs [.int (I 13 11), .int x] [.int 0, .ref 13] rfl rfl (by omega) rfl (Nat.le_of_ble_eq_true rfl) (Nat.le_of_ble_eq_true rfl) (ev_minI) ?_
  refine ev_cs [.int 0, .int (sp_minI (I 13 11) x)] [.ref 13] rfl rfl (by omega) rfl (Nat.le_of_ble_eq_true rfl) (Nat.le_of_ble_eq_true rfl) (ev_maxI) ?_
  refine ev_b (pc' := 26) (ls' := [some (.ref 13), some (.int x)]) (st' := []) (h' := (n, sl, wKK k, va_up (va_up I 13 (upd (I 13) 11 (sp_maxI 0 (sp_minI (I 13 11) x)))) 13 (upd ((va_up I 13 (upd (I 13) 11 (sp_maxI 0 (sp_minI (I 13 11) x)))) 13) 12 ((I 13 12) + 1)), L, wQQ q)) 7 rfl ?_
  exact ev_rv rfl rfl
theorem sLe_d_spoil (x : Int32) (I : Nat → Nat → Int32) (L : Nat → Nat → Int64) : sL_d_spoil x I L = L := by
  unfold sL_d_spoil
  try (repeat' split) <;> rfl
def sp_r_size  (I : Nat → Nat → Int32) (L : Nat → Nat → Int64) : Int32 := I 57 1
theorem ev_r_size {d : Nat} {n sl : Nat} {k : Nat → Nat × Nat} {I : Nat → Nat → Int32} {L : Nat → Nat → Int64} {q : Nat → Nat → Option Nat} : am_Ev (d) 62 0 (am_ent 1 [.ref 57]) [] (n, sl, wKK k, I, L, wQQ q) (some (.int (sp_r_size I L)), (n, sl, wKK k, I, L, wQQ q)) := by
  show am_Ev _ _ 0 [some (.ref 57)] _ _ (some (.int (I 57 1)), (n, sl, wKK k, I, L, wQQ q))
  refine ev_b (pc' := 4) (ls' := [some (.ref 57)]) (st' := [.int (I 57 1)]) (h' := (n, sl, wKK k, I, L, wQQ q)) 2 rfl ?_
  exact ev_ri rfl rfl rfl
def sp_r_hasRoom  (I : Nat → Nat → Int32) (L : Nat → Nat → Int64) : Int32 := (if 800 < ((I 57 1) + 20) then 0 else 1)
theorem ev_r_hasRoom {d : Nat} {n sl : Nat} {k : Nat → Nat × Nat} {I : Nat → Nat → Int32} {L : Nat → Nat → Int64} {q : Nat → Nat → Option Nat} : am_Ev (d) 63 0 (am_ent 1 [.ref 57]) [] (n, sl, wKK k, I, L, wQQ q) (some (.int (sp_r_hasRoom I L)), (n, sl, wKK k, I, L, wQQ q)) := by
  show am_Ev _ _ 0 [some (.ref 57)] _ _ (some (.int (if 800 < ((I 57 1) + 20) then 0 else 1)), (n, sl, wKK k, I, L, wQQ q))
  refine ev_b (pc' := (if 800 < ((I 57 1) + 20) then 17 else 13)) (ls' := [some (.ref 57)]) (st' := []) (h' := (n, sl, wKK k, I, L, wQQ q)) 6 rfl ?_
  refine ev_ifIs (fun c10 => ?_) (fun c10 => ?_)
  · refine ev_b (pc' := 18) (ls' := [some (.ref 57)]) (st' := [.int 0]) (h' := (n, sl, wKK k, I, L, wQQ q)) 1 rfl ?_
    exact ev_rz rfl (Or.inl rfl) rfl rfl
  · refine ev_b (pc' := 18) (ls' := [some (.ref 57)]) (st' := [.int 1]) (h' := (n, sl, wKK k, I, L, wQQ q)) 2 rfl ?_
    exact ev_rz rfl (Or.inr rfl) rfl rfl
def sp_r_cut (x : Int32) (I : Nat → Nat → Int32) (L : Nat → Nat → Int64) : Int32 := (if x < 0 then 0 else (if x ≤ (I 57 1) then 1 else 0))
def sI_r_cut (x : Int32) (I : Nat → Nat → Int32) (L : Nat → Nat → Int64) : Nat → Nat → Int32 := (if x < 0 then I else (if x ≤ (I 57 1) then (va_up I 57 (upd (I 57) 1 x)) else I))
def sL_r_cut (x : Int32) (I : Nat → Nat → Int32) (L : Nat → Nat → Int64) : Nat → Nat → Int64 := (if x < 0 then L else (if x ≤ (I 57 1) then L else L))
theorem ev_r_cut {d : Nat} {n sl : Nat} {k : Nat → Nat × Nat} {I : Nat → Nat → Int32} {L : Nat → Nat → Int64} {q : Nat → Nat → Option Nat} {x : Int32} : am_Ev (d) 65 0 (am_ent 2 [.ref 57, .int x]) [] (n, sl, wKK k, I, L, wQQ q) (some (.int (sp_r_cut x I L)), (n, sl, wKK k, sI_r_cut x I L, sL_r_cut x I L, wQQ q)) := by
  show am_Ev _ _ 0 [some (.ref 57), some (.int x)] _ _ (some (.int (if x < 0 then 0 else (if x ≤ (I 57 1) then 1 else 0))), (n, sl, wKK k, (if x < 0 then I else (if x ≤ (I 57 1) then (va_up I 57 (upd (I 57) 1 x)) else I)), (if x < 0 then L else (if x ≤ (I 57 1) then L else L)), wQQ q))
  refine ev_b (pc' := (if x < 0 then 12 else 4)) (ls' := [some (.ref 57), some (.int x)]) (st' := []) (h' := (n, sl, wKK k, I, L, wQQ q)) 2 rfl ?_
  refine ev_ifIw (fun c1 => ?_) (fun c1 => ?_)
  · refine ev_b (pc' := 13) (ls' := [some (.ref 57), some (.int x)]) (st' := [.int 0]) (h' := (n, sl, wKK k, I, L, wQQ q)) 1 rfl ?_
    exact ev_rz rfl (Or.inl rfl) rfl rfl
  · refine ev_b (pc' := (if x ≤ (I 57 1) then 14 else 12)) (ls' := [some (.ref 57), some (.int x)]) (st' := []) (h' := (n, sl, wKK k, I, L, wQQ q)) 4 rfl ?_
    refine ev_ifIw (fun c9 => ?_) (fun c9 => ?_)
    · refine ev_b (pc' := 20) (ls' := [some (.ref 57), some (.int x)]) (st' := [.int 1]) (h' := (n, sl, wKK k, va_up I 57 (upd (I 57) 1 x), L, wQQ q)) 4 rfl ?_
      exact ev_rz rfl (Or.inr rfl) rfl rfl
    · refine ev_b (pc' := 13) (ls' := [some (.ref 57), some (.int x)]) (st' := [.int 0]) (h' := (n, sl, wKK k, I, L, wQQ q)) 1 rfl ?_
      exact ev_rz rfl (Or.inl rfl) rfl rfl
theorem sLe_r_cut (x : Int32) (I : Nat → Nat → Int32) (L : Nat → Nat → Int64) : sL_r_cut x I L = L := by
  unfold sL_r_cut
  try (repeat' split) <;> rfl
def sI_r_drop  (I : Nat → Nat → Int32) (L : Nat → Nat → Int64) : Nat → Nat → Int32 := (va_up I 57 (upd (I 57) 1 0))
def sL_r_drop  (I : Nat → Nat → Int32) (L : Nat → Nat → Int64) : Nat → Nat → Int64 := L
theorem ev_r_drop {d : Nat} {n sl : Nat} {k : Nat → Nat × Nat} {I : Nat → Nat → Int32} {L : Nat → Nat → Int64} {q : Nat → Nat → Option Nat} : am_Ev (d) 66 0 (am_ent 1 [.ref 57]) [] (n, sl, wKK k, I, L, wQQ q) (none, (n, sl, wKK k, sI_r_drop I L, sL_r_drop I L, wQQ q)) := by
  show am_Ev _ _ 0 [some (.ref 57)] _ _ (none, (n, sl, wKK k, (va_up I 57 (upd (I 57) 1 0)), L, wQQ q))
  refine ev_b (pc' := 5) (ls' := [some (.ref 57)]) (st' := []) (h' := (n, sl, wKK k, va_up I 57 (upd (I 57) 1 0), L, wQQ q)) 3 rfl ?_
  exact ev_rv rfl rfl
theorem sLe_r_drop  (I : Nat → Nat → Int32) (L : Nat → Nat → Int64) : sL_r_drop I L = L := by
  unfold sL_r_drop
  try (repeat' split) <;> rfl
def sp_r_faultFound  (I : Nat → Nat → Int32) (L : Nat → Nat → Int64) : Int32 := I 57 12
theorem ev_r_faultFound {d : Nat} {n sl : Nat} {k : Nat → Nat × Nat} {I : Nat → Nat → Int32} {L : Nat → Nat → Int64} {q : Nat → Nat → Option Nat} : am_Ev (d) 67 0 (am_ent 1 [.ref 57]) [] (n, sl, wKK k, I, L, wQQ q) (some (.int (sp_r_faultFound I L)), (n, sl, wKK k, I, L, wQQ q)) := by
  show am_Ev _ _ 0 [some (.ref 57)] _ _ (some (.int (I 57 12)), (n, sl, wKK k, I, L, wQQ q))
  refine ev_b (pc' := 4) (ls' := [some (.ref 57)]) (st' := [.int (I 57 12)]) (h' := (n, sl, wKK k, I, L, wQQ q)) 2 rfl ?_
  exact ev_ri rfl rfl rfl
def sp_r_faultPlace  (I : Nat → Nat → Int32) (L : Nat → Nat → Int64) : Int32 := I 57 13
theorem ev_r_faultPlace {d : Nat} {n sl : Nat} {k : Nat → Nat × Nat} {I : Nat → Nat → Int32} {L : Nat → Nat → Int64} {q : Nat → Nat → Option Nat} : am_Ev (d) 68 0 (am_ent 1 [.ref 57]) [] (n, sl, wKK k, I, L, wQQ q) (some (.int (sp_r_faultPlace I L)), (n, sl, wKK k, I, L, wQQ q)) := by
  show am_Ev _ _ 0 [some (.ref 57)] _ _ (some (.int (I 57 13)), (n, sl, wKK k, I, L, wQQ q))
  refine ev_b (pc' := 4) (ls' := [some (.ref 57)]) (st' := [.int (I 57 13)]) (h' := (n, sl, wKK k, I, L, wQQ q)) 2 rfl ?_
  exact ev_ri rfl rfl rfl
def sI_r_fail (x : Int32) (y : Int32) (I : Nat → Nat → Int32) (L : Nat → Nat → Int64) : Nat → Nat → Int32 := (if (I 57 12) = 0 then (va_up (va_up (va_up I 57 (upd (I 57) 12 x)) 57 (upd ((va_up I 57 (upd (I 57) 12 x)) 57) 13 y)) 57 (upd ((va_up (va_up I 57 (upd (I 57) 12 x)) 57 (upd ((va_up I 57 (upd (I 57) 12 x)) 57) 13 y)) 57) 7 39)) else (va_up I 57 (upd (I 57) 7 39)))
def sL_r_fail (x : Int32) (y : Int32) (I : Nat → Nat → Int32) (L : Nat → Nat → Int64) : Nat → Nat → Int64 := (if (I 57 12) = 0 then L else L)
theorem ev_r_fail {d : Nat} {n sl : Nat} {k : Nat → Nat × Nat} {I : Nat → Nat → Int32} {L : Nat → Nat → Int64} {q : Nat → Nat → Option Nat} {x : Int32} {y : Int32} : am_Ev (d) 80 0 (am_ent 3 [.ref 57, .int x, .int y]) [] (n, sl, wKK k, I, L, wQQ q) (none, (n, sl, wKK k, sI_r_fail x y I L, sL_r_fail x y I L, wQQ q)) := by
  show am_Ev _ _ 0 [some (.ref 57), some (.int x), some (.int y)] _ _ (none, (n, sl, wKK k, (if (I 57 12) = 0 then (va_up (va_up (va_up I 57 (upd (I 57) 12 x)) 57 (upd ((va_up I 57 (upd (I 57) 12 x)) 57) 13 y)) 57 (upd ((va_up (va_up I 57 (upd (I 57) 12 x)) 57 (upd ((va_up I 57 (upd (I 57) 12 x)) 57) 13 y)) 57) 7 39)) else (va_up I 57 (upd (I 57) 7 39))), (if (I 57 12) = 0 then L else L), wQQ q))
  refine ev_b (pc' := (if (I 57 12) = 0 then 7 else 17)) (ls' := [some (.ref 57), some (.int x), some (.int y)]) (st' := []) (h' := (n, sl, wKK k, I, L, wQQ q)) 3 rfl ?_
  refine ev_ifVw (fun c4 => ?_) (fun c4 => ?_)
  · refine ev_b (pc' := 23) (ls' := [some (.ref 57), some (.int x), some (.int y)]) (st' := []) (h' := (n, sl, wKK k, va_up (va_up (va_up I 57 (upd (I 57) 12 x)) 57 (upd ((va_up I 57 (upd (I 57) 12 x)) 57) 13 y)) 57 (upd ((va_up (va_up I 57 (upd (I 57) 12 x)) 57 (upd ((va_up I 57 (upd (I 57) 12 x)) 57) 13 y)) 57) 7 39), L, wQQ q)) 9 rfl ?_
    exact ev_rv rfl rfl
  · refine ev_b (pc' := 23) (ls' := [some (.ref 57), some (.int x), some (.int y)]) (st' := []) (h' := (n, sl, wKK k, va_up I 57 (upd (I 57) 7 39), L, wQQ q)) 3 rfl ?_
    exact ev_rv rfl rfl
theorem sLe_r_fail (x : Int32) (y : Int32) (I : Nat → Nat → Int32) (L : Nat → Nat → Int64) : sL_r_fail x y I L = L := by
  unfold sL_r_fail
  try (repeat' split) <;> rfl
def sp_j_breachCount  (I : Nat → Nat → Int32) (L : Nat → Nat → Int64) : Int32 := I 60 9
theorem ev_j_breachCount {d : Nat} {n sl : Nat} {k : Nat → Nat × Nat} {I : Nat → Nat → Int32} {L : Nat → Nat → Int64} {q : Nat → Nat → Option Nat} : am_Ev (d) 51 0 (am_ent 1 [.ref 60]) [] (n, sl, wKK k, I, L, wQQ q) (some (.int (sp_j_breachCount I L)), (n, sl, wKK k, I, L, wQQ q)) := by
  show am_Ev _ _ 0 [some (.ref 60)] _ _ (some (.int (I 60 9)), (n, sl, wKK k, I, L, wQQ q))
  refine ev_b (pc' := 4) (ls' := [some (.ref 60)]) (st' := [.int (I 60 9)]) (h' := (n, sl, wKK k, I, L, wQQ q)) 2 rfl ?_
  exact ev_ri rfl rfl rfl
def sI_g_narrow (x : Int64) (y : Int64) (I : Nat → Nat → Int32) (L : Nat → Nat → Int64) : Nat → Nat → Int32 := I
def sL_g_narrow (x : Int64) (y : Int64) (I : Nat → Nat → Int32) (L : Nat → Nat → Int64) : Nat → Nat → Int64 := (va_up (va_up (va_up (va_up L 64 (vp_updL (L 64) 11 (sp_maxL (L 64 11) (sp_minL (L 64 10) x)))) 64 (vp_updL ((va_up L 64 (vp_updL (L 64) 11 (sp_maxL (L 64 11) (sp_minL (L 64 10) x)))) 64) 10 (sp_maxL (L 64 10) x))) 64 (vp_updL ((va_up (va_up L 64 (vp_updL (L 64) 11 (sp_maxL (L 64 11) (sp_minL (L 64 10) x)))) 64 (vp_updL ((va_up L 64 (vp_updL (L 64) 11 (sp_maxL (L 64 11) (sp_minL (L 64 10) x)))) 64) 10 (sp_maxL (L 64 10) x))) 64) 13 (sp_minL (L 64 13) (sp_maxL (L 64 12) y)))) 64 (vp_updL ((va_up (va_up (va_up L 64 (vp_updL (L 64) 11 (sp_maxL (L 64 11) (sp_minL (L 64 10) x)))) 64 (vp_updL ((va_up L 64 (vp_updL (L 64) 11 (sp_maxL (L 64 11) (sp_minL (L 64 10) x)))) 64) 10 (sp_maxL (L 64 10) x))) 64 (vp_updL ((va_up (va_up L 64 (vp_updL (L 64) 11 (sp_maxL (L 64 11) (sp_minL (L 64 10) x)))) 64 (vp_updL ((va_up L 64 (vp_updL (L 64) 11 (sp_maxL (L 64 11) (sp_minL (L 64 10) x)))) 64) 10 (sp_maxL (L 64 10) x))) 64) 13 (sp_minL (L 64 13) (sp_maxL (L 64 12) y)))) 64) 12 (sp_minL (L 64 12) y)))
theorem ev_g_narrow {d : Nat} {n sl : Nat} {k : Nat → Nat × Nat} {I : Nat → Nat → Int32} {L : Nat → Nat → Int64} {q : Nat → Nat → Option Nat} {x : Int64} {y : Int64} : am_Ev (d + 1) 44 0 (am_ent 5 [.ref 64, .long x, .long y]) [] (n, sl, wKK k, I, L, wQQ q) (none, (n, sl, wKK k, sI_g_narrow x y I L, sL_g_narrow x y I L, wQQ q)) := by
  show am_Ev _ _ 0 [some (.ref 64), some (.long x), none, some (.long y), none] _ _ (none, (n, sl, wKK k, I, (va_up (va_up (va_up (va_up L 64 (vp_updL (L 64) 11 (sp_maxL (L 64 11) (sp_minL (L 64 10) x)))) 64 (vp_updL ((va_up L 64 (vp_updL (L 64) 11 (sp_maxL (L 64 11) (sp_minL (L 64 10) x)))) 64) 10 (sp_maxL (L 64 10) x))) 64 (vp_updL ((va_up (va_up L 64 (vp_updL (L 64) 11 (sp_maxL (L 64 11) (sp_minL (L 64 10) x)))) 64 (vp_updL ((va_up L 64 (vp_updL (L 64) 11 (sp_maxL (L 64 11) (sp_minL (L 64 10) x)))) 64) 10 (sp_maxL (L 64 10) x))) 64) 13 (sp_minL (L 64 13) (sp_maxL (L 64 12) y)))) 64 (vp_updL ((va_up (va_up (va_up L 64 (vp_updL (L 64) 11 (sp_maxL (L 64 11) (sp_minL (L 64 10) x)))) 64 (vp_updL ((va_up L 64 (vp_updL (L 64) 11 (sp_maxL (L 64 11) (sp_minL (L 64 10) x)))) 64) 10 (sp_maxL (L 64 10) x))) 64 (vp_updL ((va_up (va_up L 64 (vp_updL (L 64) 11 (sp_maxL (L 64 11) (sp_minL (L 64 10) x)))) 64 (vp_updL ((va_up L 64 (vp_updL (L 64) 11 (sp_maxL (L 64 11) (sp_minL (L 64 10) x)))) 64) 10 (sp_maxL (L 64 10) x))) 64) 13 (sp_minL (L 64 13) (sp_maxL (L 64 12) y)))) 64) 12 (sp_minL (L 64 12) y))), wQQ q))
  refine ev_b (pc' := 10) (ls' := [some (.ref 64), some (.long x), none, some (.long y), none]) (st' := [.long x, .long (L 64 10), .long (L 64 11), .ref 64]) (h' := (n, sl, wKK k, I, L, wQQ q)) 6 rfl ?_
  refine ev_cs [.long (L 64 10), .long x] [.long (L 64 11), .ref 64] rfl rfl (by omega) rfl (Nat.le_of_ble_eq_true rfl) (Nat.le_of_ble_eq_true rfl) (ev_minL) ?_
  refine ev_cs [.long (L 64 11), .long (sp_minL (L 64 10) x)] [.ref 64] rfl rfl (by omega) rfl (Nat.le_of_ble_eq_true rfl) (Nat.le_of_ble_eq_true rfl) (ev_maxL) ?_
  refine ev_b (pc' := 25) (ls' := [some (.ref 64), some (.long x), none, some (.long y), none]) (st' := [.long x, .long (L 64 10), .ref 64]) (h' := (n, sl, wKK k, I, va_up L 64 (vp_updL (L 64) 11 (sp_maxL (L 64 11) (sp_minL (L 64 10) x))), wQQ q)) 5 rfl ?_
  refine ev_cs [.long (L 64 10), .long x] [.ref 64] rfl rfl (by omega) rfl (Nat.le_of_ble_eq_true rfl) (Nat.le_of_ble_eq_true rfl) (ev_maxL) ?_
  refine ev_b (pc' := 41) (ls' := [some (.ref 64), some (.long x), none, some (.long y), none]) (st' := [.long y, .long (L 64 12), .long (L 64 13), .ref 64]) (h' := (n, sl, wKK k, I, va_up (va_up L 64 (vp_updL (L 64) 11 (sp_maxL (L 64 11) (sp_minL (L 64 10) x)))) 64 (vp_updL ((va_up L 64 (vp_updL (L 64) 11 (sp_maxL (L 64 11) (sp_minL (L 64 10) x)))) 64) 10 (sp_maxL (L 64 10) x)), wQQ q)) 7 rfl ?_
  refine ev_cs [.long (L 64 12), .long y] [.long (L 64 13), .ref 64] rfl rfl (by omega) rfl (Nat.le_of_ble_eq_true rfl) (Nat.le_of_ble_eq_true rfl) (ev_maxL) ?_
  refine ev_cs [.long (L 64 13), .long (sp_maxL (L 64 12) y)] [.ref 64] rfl rfl (by omega) rfl (Nat.le_of_ble_eq_true rfl) (Nat.le_of_ble_eq_true rfl) (ev_minL) ?_
  refine ev_b (pc' := 56) (ls' := [some (.ref 64), some (.long x), none, some (.long y), none]) (st' := [.long y, .long (L 64 12), .ref 64]) (h' := (n, sl, wKK k, I, va_up (va_up (va_up L 64 (vp_updL (L 64) 11 (sp_maxL (L 64 11) (sp_minL (L 64 10) x)))) 64 (vp_updL ((va_up L 64 (vp_updL (L 64) 11 (sp_maxL (L 64 11) (sp_minL (L 64 10) x)))) 64) 10 (sp_maxL (L 64 10) x))) 64 (vp_updL ((va_up (va_up L 64 (vp_updL (L 64) 11 (sp_maxL (L 64 11) (sp_minL (L 64 10) x)))) 64 (vp_updL ((va_up L 64 (vp_updL (L 64) 11 (sp_maxL (L 64 11) (sp_minL (L 64 10) x)))) 64) 10 (sp_maxL (L 64 10) x))) 64) 13 (sp_minL (L 64 13) (sp_maxL (L 64 12) y))), wQQ q)) 5 rfl ?_
  refine ev_cs [.long (L 64 12), .long y] [.ref 64] rfl rfl (by omega) rfl (Nat.le_of_ble_eq_true rfl) (Nat.le_of_ble_eq_true rfl) (ev_minL) ?_
  refine ev_b (pc' := 62) (ls' := [some (.ref 64), some (.long x), none, some (.long y), none]) (st' := []) (h' := (n, sl, wKK k, I, va_up (va_up (va_up (va_up L 64 (vp_updL (L 64) 11 (sp_maxL (L 64 11) (sp_minL (L 64 10) x)))) 64 (vp_updL ((va_up L 64 (vp_updL (L 64) 11 (sp_maxL (L 64 11) (sp_minL (L 64 10) x)))) 64) 10 (sp_maxL (L 64 10) x))) 64 (vp_updL ((va_up (va_up L 64 (vp_updL (L 64) 11 (sp_maxL (L 64 11) (sp_minL (L 64 10) x)))) 64 (vp_updL ((va_up L 64 (vp_updL (L 64) 11 (sp_maxL (L 64 11) (sp_minL (L 64 10) x)))) 64) 10 (sp_maxL (L 64 10) x))) 64) 13 (sp_minL (L 64 13) (sp_maxL (L 64 12) y)))) 64 (vp_updL ((va_up (va_up (va_up L 64 (vp_updL (L 64) 11 (sp_maxL (L 64 11) (sp_minL (L 64 10) x)))) 64 (vp_updL ((va_up L 64 (vp_updL (L 64) 11 (sp_maxL (L 64 11) (sp_minL (L 64 10) x)))) 64) 10 (sp_maxL (L 64 10) x))) 64 (vp_updL ((va_up (va_up L 64 (vp_updL (L 64) 11 (sp_maxL (L 64 11) (sp_minL (L 64 10) x)))) 64 (vp_updL ((va_up L 64 (vp_updL (L 64) 11 (sp_maxL (L 64 11) (sp_minL (L 64 10) x)))) 64) 10 (sp_maxL (L 64 10) x))) 64) 13 (sp_minL (L 64 13) (sp_maxL (L 64 12) y)))) 64) 12 (sp_minL (L 64 12) y)), wQQ q)) 1 rfl ?_
  exact ev_rv rfl rfl
theorem sIe_g_narrow (x : Int64) (y : Int64) (I : Nat → Nat → Int32) (L : Nat → Nat → Int64) : sI_g_narrow x y I L = I := by
  unfold sI_g_narrow
  try (repeat' split) <;> rfl
def sp_g_bound (z : Int32) (I : Nat → Nat → Int32) (L : Nat → Nat → Int64) : Int64 := (if (I 64 9) = 0 then (-2000000001) else (if (lg_cmp (L 64 10) (L 64 12)) ≤ 0 then (if z = 0 then L 64 10 else L 64 12) else (-2000000002)))
theorem ev_g_bound {d : Nat} {n sl : Nat} {k : Nat → Nat × Nat} {I : Nat → Nat → Int32} {L : Nat → Nat → Int64} {q : Nat → Nat → Option Nat} {z : Int32} : am_Ev (d) 45 0 (am_ent 2 [.ref 64, .int z]) [] (n, sl, wKK k, I, L, wQQ q) (some (.long (sp_g_bound z I L)), (n, sl, wKK k, I, L, wQQ q)) := by
  show am_Ev _ _ 0 [some (.ref 64), some (.int z)] _ _ (some (.long (if (I 64 9) = 0 then (-2000000001) else (if (lg_cmp (L 64 10) (L 64 12)) ≤ 0 then (if z = 0 then L 64 10 else L 64 12) else (-2000000002)))), (n, sl, wKK k, I, L, wQQ q))
  refine ev_b (pc' := (if (I 64 9) = 0 then 7 else 11)) (ls' := [some (.ref 64), some (.int z)]) (st' := []) (h' := (n, sl, wKK k, I, L, wQQ q)) 3 rfl ?_
  refine ev_ifJs (fun c4 => ?_) (fun c4 => ?_)
  · refine ev_b (pc' := 10) (ls' := [some (.ref 64), some (.int z)]) (st' := [.long (-2000000001)]) (h' := (n, sl, wKK k, I, L, wQQ q)) 1 rfl ?_
    exact ev_rl rfl rfl rfl
  · refine ev_b (pc' := (if (lg_cmp (L 64 10) (L 64 12)) ≤ 0 then 27 else 23)) (ls' := [some (.ref 64), some (.int z)]) (st' := []) (h' := (n, sl, wKK k, I, L, wQQ q)) 6 rfl ?_
    refine ev_ifJs (fun c20 => ?_) (fun c20 => ?_)
    · refine ev_b (pc' := (if z = 0 then 38 else 31)) (ls' := [some (.ref 64), some (.int z)]) (st' := []) (h' := (n, sl, wKK k, I, L, wQQ q)) 2 rfl ?_
      refine ev_ifJs (fun c28 => ?_) (fun c28 => ?_)
      · refine ev_b (pc' := 42) (ls' := [some (.ref 64), some (.int z)]) (st' := [.long (L 64 10)]) (h' := (n, sl, wKK k, I, L, wQQ q)) 2 rfl ?_
        exact ev_rl rfl rfl rfl
      · refine ev_b (pc' := 42) (ls' := [some (.ref 64), some (.int z)]) (st' := [.long (L 64 12)]) (h' := (n, sl, wKK k, I, L, wQQ q)) 3 rfl ?_
        exact ev_rl rfl rfl rfl
    · refine ev_b (pc' := 26) (ls' := [some (.ref 64), some (.int z)]) (st' := [.long (-2000000002)]) (h' := (n, sl, wKK k, I, L, wQQ q)) 1 rfl ?_
      exact ev_rl rfl rfl rfl
def sp_m_end (x : Int32) (I : Nat → Nat → Int32) (L : Nat → Nat → Int64) : Int32 := (if x < 0 then 0 else (if x ≤ (I 80 1) then 1 else 0))
def sI_m_end (x : Int32) (I : Nat → Nat → Int32) (L : Nat → Nat → Int64) : Nat → Nat → Int32 := (if x < 0 then I else (if x ≤ (I 80 1) then (va_up I 80 (upd (I 80) 1 x)) else I))
def sL_m_end (x : Int32) (I : Nat → Nat → Int32) (L : Nat → Nat → Int64) : Nat → Nat → Int64 := (if x < 0 then L else (if x ≤ (I 80 1) then L else L))
theorem ev_m_end {d : Nat} {n sl : Nat} {k : Nat → Nat × Nat} {I : Nat → Nat → Int32} {L : Nat → Nat → Int64} {q : Nat → Nat → Option Nat} {x : Int32} : am_Ev (d) 158 0 (am_ent 2 [.ref 80, .int x]) [] (n, sl, wKK k, I, L, wQQ q) (some (.int (sp_m_end x I L)), (n, sl, wKK k, sI_m_end x I L, sL_m_end x I L, wQQ q)) := by
  show am_Ev _ _ 0 [some (.ref 80), some (.int x)] _ _ (some (.int (if x < 0 then 0 else (if x ≤ (I 80 1) then 1 else 0))), (n, sl, wKK k, (if x < 0 then I else (if x ≤ (I 80 1) then (va_up I 80 (upd (I 80) 1 x)) else I)), (if x < 0 then L else (if x ≤ (I 80 1) then L else L)), wQQ q))
  refine ev_b (pc' := (if x < 0 then 12 else 4)) (ls' := [some (.ref 80), some (.int x)]) (st' := []) (h' := (n, sl, wKK k, I, L, wQQ q)) 2 rfl ?_
  refine ev_ifIw (fun c1 => ?_) (fun c1 => ?_)
  · refine ev_b (pc' := 13) (ls' := [some (.ref 80), some (.int x)]) (st' := [.int 0]) (h' := (n, sl, wKK k, I, L, wQQ q)) 1 rfl ?_
    exact ev_rz rfl (Or.inl rfl) rfl rfl
  · refine ev_b (pc' := (if x ≤ (I 80 1) then 14 else 12)) (ls' := [some (.ref 80), some (.int x)]) (st' := []) (h' := (n, sl, wKK k, I, L, wQQ q)) 4 rfl ?_
    refine ev_ifIw (fun c9 => ?_) (fun c9 => ?_)
    · refine ev_b (pc' := 20) (ls' := [some (.ref 80), some (.int x)]) (st' := [.int 1]) (h' := (n, sl, wKK k, va_up I 80 (upd (I 80) 1 x), L, wQQ q)) 4 rfl ?_
      exact ev_rz rfl (Or.inr rfl) rfl rfl
    · refine ev_b (pc' := 13) (ls' := [some (.ref 80), some (.int x)]) (st' := [.int 0]) (h' := (n, sl, wKK k, I, L, wQQ q)) 1 rfl ?_
      exact ev_rz rfl (Or.inl rfl) rfl rfl
theorem sLe_m_end (x : Int32) (I : Nat → Nat → Int32) (L : Nat → Nat → Int64) : sL_m_end x I L = L := by
  unfold sL_m_end
  try (repeat' split) <;> rfl
def sI_m_blame (x : Int32) (y : Int32) (I : Nat → Nat → Int32) (L : Nat → Nat → Int64) : Nat → Nat → Int32 := (if (I 80 8) ≤ 0 then (va_up (va_up I 80 (upd (I 80) 8 x)) 80 (upd ((va_up I 80 (upd (I 80) 8 x)) 80) 9 y)) else I)
def sL_m_blame (x : Int32) (y : Int32) (I : Nat → Nat → Int32) (L : Nat → Nat → Int64) : Nat → Nat → Int64 := (if (I 80 8) ≤ 0 then L else L)
theorem ev_m_blame {d : Nat} {n sl : Nat} {k : Nat → Nat × Nat} {I : Nat → Nat → Int32} {L : Nat → Nat → Int64} {q : Nat → Nat → Option Nat} {x : Int32} {y : Int32} : am_Ev (d) 159 0 (am_ent 3 [.ref 80, .int x, .int y]) [] (n, sl, wKK k, I, L, wQQ q) (none, (n, sl, wKK k, sI_m_blame x y I L, sL_m_blame x y I L, wQQ q)) := by
  show am_Ev _ _ 0 [some (.ref 80), some (.int x), some (.int y)] _ _ (none, (n, sl, wKK k, (if (I 80 8) ≤ 0 then (va_up (va_up I 80 (upd (I 80) 8 x)) 80 (upd ((va_up I 80 (upd (I 80) 8 x)) 80) 9 y)) else I), (if (I 80 8) ≤ 0 then L else L), wQQ q))
  refine ev_b (pc' := (if (I 80 8) ≤ 0 then 8 else 7)) (ls' := [some (.ref 80), some (.int x), some (.int y)]) (st' := []) (h' := (n, sl, wKK k, I, L, wQQ q)) 3 rfl ?_
  refine ev_ifVw (fun c4 => ?_) (fun c4 => ?_)
  · refine ev_b (pc' := 18) (ls' := [some (.ref 80), some (.int x), some (.int y)]) (st' := []) (h' := (n, sl, wKK k, va_up (va_up I 80 (upd (I 80) 8 x)) 80 (upd ((va_up I 80 (upd (I 80) 8 x)) 80) 9 y), L, wQQ q)) 6 rfl ?_
    exact ev_rv rfl rfl
  · exact ev_rv rfl rfl
theorem sLe_m_blame (x : Int32) (y : Int32) (I : Nat → Nat → Int32) (L : Nat → Nat → Int64) : sL_m_blame x y I L = L := by
  unfold sL_m_blame
  try (repeat' split) <;> rfl
def sp_m_isSign (x : Int32) (I : Nat → Nat → Int32) (L : Nat → Nat → Int64) : Int32 := (if (I 80 3) = 3 then (if (I 80 6) = x then 1 else 0) else 0)
theorem ev_m_isSign {d : Nat} {n sl : Nat} {k : Nat → Nat × Nat} {I : Nat → Nat → Int32} {L : Nat → Nat → Int64} {q : Nat → Nat → Option Nat} {x : Int32} : am_Ev (d) 163 0 (am_ent 2 [.ref 80, .int x]) [] (n, sl, wKK k, I, L, wQQ q) (some (.int (sp_m_isSign x I L)), (n, sl, wKK k, I, L, wQQ q)) := by
  show am_Ev _ _ 0 [some (.ref 80), some (.int x)] _ _ (some (.int (if (I 80 3) = 3 then (if (I 80 6) = x then 1 else 0) else 0)), (n, sl, wKK k, I, L, wQQ q))
  refine ev_b (pc' := (if (I 80 3) = 3 then 8 else 20)) (ls' := [some (.ref 80), some (.int x)]) (st' := []) (h' := (n, sl, wKK k, I, L, wQQ q)) 4 rfl ?_
  refine ev_ifIs (fun c5 => ?_) (fun c5 => ?_)
  · refine ev_b (pc' := (if (I 80 6) = x then 16 else 20)) (ls' := [some (.ref 80), some (.int x)]) (st' := []) (h' := (n, sl, wKK k, I, L, wQQ q)) 4 rfl ?_
    refine ev_ifIs (fun c13 => ?_) (fun c13 => ?_)
    · refine ev_b (pc' := 21) (ls' := [some (.ref 80), some (.int x)]) (st' := [.int 1]) (h' := (n, sl, wKK k, I, L, wQQ q)) 2 rfl ?_
      exact ev_rz rfl (Or.inr rfl) rfl rfl
    · refine ev_b (pc' := 21) (ls' := [some (.ref 80), some (.int x)]) (st' := [.int 0]) (h' := (n, sl, wKK k, I, L, wQQ q)) 1 rfl ?_
      exact ev_rz rfl (Or.inl rfl) rfl rfl
  · refine ev_b (pc' := 21) (ls' := [some (.ref 80), some (.int x)]) (st' := [.int 0]) (h' := (n, sl, wKK k, I, L, wQQ q)) 1 rfl ?_
    exact ev_rz rfl (Or.inl rfl) rfl rfl
def sp_m_isWord (w : Int64) (I : Nat → Nat → Int32) (L : Nat → Nat → Int64) : Int32 := (if (I 80 3) = 1 then (if (lg_cmp (L 80 7) w) = 0 then 1 else 0) else 0)
theorem ev_m_isWord {d : Nat} {n sl : Nat} {k : Nat → Nat × Nat} {I : Nat → Nat → Int32} {L : Nat → Nat → Int64} {q : Nat → Nat → Option Nat} {w : Int64} : am_Ev (d) 164 0 (am_ent 3 [.ref 80, .long w]) [] (n, sl, wKK k, I, L, wQQ q) (some (.int (sp_m_isWord w I L)), (n, sl, wKK k, I, L, wQQ q)) := by
  show am_Ev _ _ 0 [some (.ref 80), some (.long w), none] _ _ (some (.int (if (I 80 3) = 1 then (if (lg_cmp (L 80 7) w) = 0 then 1 else 0) else 0)), (n, sl, wKK k, I, L, wQQ q))
  refine ev_b (pc' := (if (I 80 3) = 1 then 8 else 21)) (ls' := [some (.ref 80), some (.long w), none]) (st' := []) (h' := (n, sl, wKK k, I, L, wQQ q)) 4 rfl ?_
  refine ev_ifIs (fun c5 => ?_) (fun c5 => ?_)
  · refine ev_b (pc' := (if (lg_cmp (L 80 7) w) = 0 then 17 else 21)) (ls' := [some (.ref 80), some (.long w), none]) (st' := []) (h' := (n, sl, wKK k, I, L, wQQ q)) 5 rfl ?_
    refine ev_ifIs (fun c14 => ?_) (fun c14 => ?_)
    · refine ev_b (pc' := 22) (ls' := [some (.ref 80), some (.long w), none]) (st' := [.int 1]) (h' := (n, sl, wKK k, I, L, wQQ q)) 2 rfl ?_
      exact ev_rz rfl (Or.inr rfl) rfl rfl
    · refine ev_b (pc' := 22) (ls' := [some (.ref 80), some (.long w), none]) (st' := [.int 0]) (h' := (n, sl, wKK k, I, L, wQQ q)) 1 rfl ?_
      exact ev_rz rfl (Or.inl rfl) rfl rfl
  · refine ev_b (pc' := 22) (ls' := [some (.ref 80), some (.long w), none]) (st' := [.int 0]) (h' := (n, sl, wKK k, I, L, wQQ q)) 1 rfl ?_
    exact ev_rz rfl (Or.inl rfl) rfl rfl
def sp_m_fault (x : Int32) (I : Nat → Nat → Int32) (L : Nat → Nat → Int64) : Int32 := (if x = 0 then I 80 10 else (if x = 1 then I 80 11 else (-1)))
theorem ev_m_fault {d : Nat} {n sl : Nat} {k : Nat → Nat × Nat} {I : Nat → Nat → Int32} {L : Nat → Nat → Int64} {q : Nat → Nat → Option Nat} {x : Int32} : am_Ev (d) 180 0 (am_ent 2 [.ref 80, .int x]) [] (n, sl, wKK k, I, L, wQQ q) (some (.int (sp_m_fault x I L)), (n, sl, wKK k, I, L, wQQ q)) := by
  show am_Ev _ _ 0 [some (.ref 80), some (.int x)] _ _ (some (.int (if x = 0 then I 80 10 else (if x = 1 then I 80 11 else (-1)))), (n, sl, wKK k, I, L, wQQ q))
  refine ev_b (pc' := (if x = 0 then 4 else 11)) (ls' := [some (.ref 80), some (.int x)]) (st' := []) (h' := (n, sl, wKK k, I, L, wQQ q)) 2 rfl ?_
  refine ev_ifIs (fun c1 => ?_) (fun c1 => ?_)
  · refine ev_b (pc' := 24) (ls' := [some (.ref 80), some (.int x)]) (st' := [.int (I 80 10)]) (h' := (n, sl, wKK k, I, L, wQQ q)) 3 rfl ?_
    exact ev_ri rfl rfl rfl
  · refine ev_b (pc' := (if x = 1 then 16 else 23)) (ls' := [some (.ref 80), some (.int x)]) (st' := []) (h' := (n, sl, wKK k, I, L, wQQ q)) 3 rfl ?_
    refine ev_ifIs (fun c13 => ?_) (fun c13 => ?_)
    · refine ev_b (pc' := 24) (ls' := [some (.ref 80), some (.int x)]) (st' := [.int (I 80 11)]) (h' := (n, sl, wKK k, I, L, wQQ q)) 3 rfl ?_
      exact ev_ri rfl rfl rfl
    · refine ev_b (pc' := 24) (ls' := [some (.ref 80), some (.int x)]) (st' := [.int (-1)]) (h' := (n, sl, wKK k, I, L, wQQ q)) 1 rfl ?_
      exact ev_ri rfl rfl rfl
def sp_m_now  (I : Nat → Nat → Int32) (L : Nat → Nat → Int64) : Int32 := (if (I 80 46) = (-1) then I 80 45 else I 80 46)
theorem ev_m_now {d : Nat} {n sl : Nat} {k : Nat → Nat × Nat} {I : Nat → Nat → Int32} {L : Nat → Nat → Int64} {q : Nat → Nat → Option Nat} : am_Ev (d) 198 0 (am_ent 1 [.ref 80]) [] (n, sl, wKK k, I, L, wQQ q) (some (.int (sp_m_now I L)), (n, sl, wKK k, I, L, wQQ q)) := by
  show am_Ev _ _ 0 [some (.ref 80)] _ _ (some (.int (if (I 80 46) = (-1) then I 80 45 else I 80 46)), (n, sl, wKK k, I, L, wQQ q))
  refine ev_b (pc' := (if (I 80 46) = (-1) then 8 else 15)) (ls' := [some (.ref 80)]) (st' := []) (h' := (n, sl, wKK k, I, L, wQQ q)) 4 rfl ?_
  refine ev_ifIs (fun c5 => ?_) (fun c5 => ?_)
  · refine ev_b (pc' := 19) (ls' := [some (.ref 80)]) (st' := [.int (I 80 45)]) (h' := (n, sl, wKK k, I, L, wQQ q)) 3 rfl ?_
    exact ev_ri rfl rfl rfl
  · refine ev_b (pc' := 19) (ls' := [some (.ref 80)]) (st' := [.int (I 80 46)]) (h' := (n, sl, wKK k, I, L, wQQ q)) 2 rfl ?_
    exact ev_ri rfl rfl rfl
def sp_m_asks  (I : Nat → Nat → Int32) (L : Nat → Nat → Int64) : Int32 := (if (sp_m_isWord 1818583406 I L) = 0 then (if (sp_m_isWord 1918989413 I L) = 0 then (if (sp_m_isWord 512970879860 I L) = 0 then (if (sp_m_isWord 512736126322 I L) = 0 then (if (sp_m_isWord 6578553 I L) = 0 then (if (sp_m_isWord 1953459827 I L) = 0 then (if (sp_m_isWord 431415719790 I L) = 0 then 0 else 7) else 6) else 5) else 4) else 3) else 2) else 1)
theorem ev_m_asks {d : Nat} {n sl : Nat} {k : Nat → Nat × Nat} {I : Nat → Nat → Int32} {L : Nat → Nat → Int64} {q : Nat → Nat → Option Nat} : am_Ev (d + 1) 167 0 (am_ent 1 [.ref 80]) [] (n, sl, wKK k, I, L, wQQ q) (some (.int (sp_m_asks I L)), (n, sl, wKK k, I, L, wQQ q)) := by
  show am_Ev _ _ 0 [some (.ref 80)] _ _ (some (.int (if (sp_m_isWord 1818583406 I L) = 0 then (if (sp_m_isWord 1918989413 I L) = 0 then (if (sp_m_isWord 512970879860 I L) = 0 then (if (sp_m_isWord 512736126322 I L) = 0 then (if (sp_m_isWord 6578553 I L) = 0 then (if (sp_m_isWord 1953459827 I L) = 0 then (if (sp_m_isWord 431415719790 I L) = 0 then 0 else 7) else 6) else 5) else 4) else 3) else 2) else 1)), (n, sl, wKK k, I, L, wQQ q))
  refine ev_b (pc' := 4) (ls' := [some (.ref 80)]) (st' := [.long 1818583406, .ref 80]) (h' := (n, sl, wKK k, I, L, wQQ q)) 2 rfl ?_
  refine ev_cv [.long 1818583406] [] rfl rfl (by omega) rfl (Nat.le_of_ble_eq_true rfl) (Nat.le_of_ble_eq_true rfl) (Or.inr (Or.inr rfl)) (ev_m_isWord) ?_
  refine ev_b (pc' := (if (sp_m_isWord 1818583406 I L) = 0 then 12 else 10)) (ls' := [some (.ref 80)]) (st' := []) (h' := (n, sl, wKK k, I, L, wQQ q)) 1 rfl ?_
  refine ev_ifIs (fun c7 => ?_) (fun c7 => ?_)
  · refine ev_b (pc' := 16) (ls' := [some (.ref 80)]) (st' := [.long 1918989413, .ref 80]) (h' := (n, sl, wKK k, I, L, wQQ q)) 2 rfl ?_
    refine ev_cv [.long 1918989413] [] rfl rfl (by omega) rfl (Nat.le_of_ble_eq_true rfl) (Nat.le_of_ble_eq_true rfl) (Or.inr (Or.inr rfl)) (ev_m_isWord) ?_
    refine ev_b (pc' := (if (sp_m_isWord 1918989413 I L) = 0 then 24 else 22)) (ls' := [some (.ref 80)]) (st' := []) (h' := (n, sl, wKK k, I, L, wQQ q)) 1 rfl ?_
    refine ev_ifIs (fun c19 => ?_) (fun c19 => ?_)
    · refine ev_b (pc' := 28) (ls' := [some (.ref 80)]) (st' := [.long 512970879860, .ref 80]) (h' := (n, sl, wKK k, I, L, wQQ q)) 2 rfl ?_
      refine ev_cv [.long 512970879860] [] rfl rfl (by omega) rfl (Nat.le_of_ble_eq_true rfl) (Nat.le_of_ble_eq_true rfl) (Or.inr (Or.inr rfl)) (ev_m_isWord) ?_
      refine ev_b (pc' := (if (sp_m_isWord 512970879860 I L) = 0 then 36 else 34)) (ls' := [some (.ref 80)]) (st' := []) (h' := (n, sl, wKK k, I, L, wQQ q)) 1 rfl ?_
      refine ev_ifIs (fun c31 => ?_) (fun c31 => ?_)
      · refine ev_b (pc' := 40) (ls' := [some (.ref 80)]) (st' := [.long 512736126322, .ref 80]) (h' := (n, sl, wKK k, I, L, wQQ q)) 2 rfl ?_
        refine ev_cv [.long 512736126322] [] rfl rfl (by omega) rfl (Nat.le_of_ble_eq_true rfl) (Nat.le_of_ble_eq_true rfl) (Or.inr (Or.inr rfl)) (ev_m_isWord) ?_
        refine ev_b (pc' := (if (sp_m_isWord 512736126322 I L) = 0 then 48 else 46)) (ls' := [some (.ref 80)]) (st' := []) (h' := (n, sl, wKK k, I, L, wQQ q)) 1 rfl ?_
        refine ev_ifIs (fun c43 => ?_) (fun c43 => ?_)
        · refine ev_b (pc' := 52) (ls' := [some (.ref 80)]) (st' := [.long 6578553, .ref 80]) (h' := (n, sl, wKK k, I, L, wQQ q)) 2 rfl ?_
          refine ev_cv [.long 6578553] [] rfl rfl (by omega) rfl (Nat.le_of_ble_eq_true rfl) (Nat.le_of_ble_eq_true rfl) (Or.inr (Or.inr rfl)) (ev_m_isWord) ?_
          refine ev_b (pc' := (if (sp_m_isWord 6578553 I L) = 0 then 60 else 58)) (ls' := [some (.ref 80)]) (st' := []) (h' := (n, sl, wKK k, I, L, wQQ q)) 1 rfl ?_
          refine ev_ifIs (fun c55 => ?_) (fun c55 => ?_)
          · refine ev_b (pc' := 64) (ls' := [some (.ref 80)]) (st' := [.long 1953459827, .ref 80]) (h' := (n, sl, wKK k, I, L, wQQ q)) 2 rfl ?_
            refine ev_cv [.long 1953459827] [] rfl rfl (by omega) rfl (Nat.le_of_ble_eq_true rfl) (Nat.le_of_ble_eq_true rfl) (Or.inr (Or.inr rfl)) (ev_m_isWord) ?_
            refine ev_b (pc' := (if (sp_m_isWord 1953459827 I L) = 0 then 73 else 70)) (ls' := [some (.ref 80)]) (st' := []) (h' := (n, sl, wKK k, I, L, wQQ q)) 1 rfl ?_
            refine ev_ifIs (fun c67 => ?_) (fun c67 => ?_)
            · refine ev_b (pc' := 77) (ls' := [some (.ref 80)]) (st' := [.long 431415719790, .ref 80]) (h' := (n, sl, wKK k, I, L, wQQ q)) 2 rfl ?_
              refine ev_cv [.long 431415719790] [] rfl rfl (by omega) rfl (Nat.le_of_ble_eq_true rfl) (Nat.le_of_ble_eq_true rfl) (Or.inr (Or.inr rfl)) (ev_m_isWord) ?_
              refine ev_b (pc' := (if (sp_m_isWord 431415719790 I L) = 0 then 86 else 83)) (ls' := [some (.ref 80)]) (st' := []) (h' := (n, sl, wKK k, I, L, wQQ q)) 1 rfl ?_
              refine ev_ifIs (fun c80 => ?_) (fun c80 => ?_)
              · refine ev_b (pc' := 87) (ls' := [some (.ref 80)]) (st' := [.int 0]) (h' := (n, sl, wKK k, I, L, wQQ q)) 1 rfl ?_
                exact ev_ri rfl rfl rfl
              · refine ev_b (pc' := 85) (ls' := [some (.ref 80)]) (st' := [.int 7]) (h' := (n, sl, wKK k, I, L, wQQ q)) 1 rfl ?_
                exact ev_ri rfl rfl rfl
            · refine ev_b (pc' := 72) (ls' := [some (.ref 80)]) (st' := [.int 6]) (h' := (n, sl, wKK k, I, L, wQQ q)) 1 rfl ?_
              exact ev_ri rfl rfl rfl
          · refine ev_b (pc' := 59) (ls' := [some (.ref 80)]) (st' := [.int 5]) (h' := (n, sl, wKK k, I, L, wQQ q)) 1 rfl ?_
            exact ev_ri rfl rfl rfl
        · refine ev_b (pc' := 47) (ls' := [some (.ref 80)]) (st' := [.int 4]) (h' := (n, sl, wKK k, I, L, wQQ q)) 1 rfl ?_
          exact ev_ri rfl rfl rfl
      · refine ev_b (pc' := 35) (ls' := [some (.ref 80)]) (st' := [.int 3]) (h' := (n, sl, wKK k, I, L, wQQ q)) 1 rfl ?_
        exact ev_ri rfl rfl rfl
    · refine ev_b (pc' := 23) (ls' := [some (.ref 80)]) (st' := [.int 2]) (h' := (n, sl, wKK k, I, L, wQQ q)) 1 rfl ?_
      exact ev_ri rfl rfl rfl
  · refine ev_b (pc' := 11) (ls' := [some (.ref 80)]) (st' := [.int 1]) (h' := (n, sl, wKK k, I, L, wQQ q)) 1 rfl ?_
    exact ev_ri rfl rfl rfl
def sp_m_work  (I : Nat → Nat → Int32) (L : Nat → Nat → Int64) : Int32 := (if (sp_m_isWord 1818583396 I L) = 0 then (if (sp_m_isWord 1885958245 I L) = 0 then (if (sp_m_isWord 440006570868 I L) = 0 then (-1) else 2) else 1) else 0)
theorem ev_m_work {d : Nat} {n sl : Nat} {k : Nat → Nat × Nat} {I : Nat → Nat → Int32} {L : Nat → Nat → Int64} {q : Nat → Nat → Option Nat} : am_Ev (d + 1) 177 0 (am_ent 1 [.ref 80]) [] (n, sl, wKK k, I, L, wQQ q) (some (.int (sp_m_work I L)), (n, sl, wKK k, I, L, wQQ q)) := by
  show am_Ev _ _ 0 [some (.ref 80)] _ _ (some (.int (if (sp_m_isWord 1818583396 I L) = 0 then (if (sp_m_isWord 1885958245 I L) = 0 then (if (sp_m_isWord 440006570868 I L) = 0 then (-1) else 2) else 1) else 0)), (n, sl, wKK k, I, L, wQQ q))
  refine ev_b (pc' := 4) (ls' := [some (.ref 80)]) (st' := [.long 1818583396, .ref 80]) (h' := (n, sl, wKK k, I, L, wQQ q)) 2 rfl ?_
  refine ev_cv [.long 1818583396] [] rfl rfl (by omega) rfl (Nat.le_of_ble_eq_true rfl) (Nat.le_of_ble_eq_true rfl) (Or.inr (Or.inr rfl)) (ev_m_isWord) ?_
  refine ev_b (pc' := (if (sp_m_isWord 1818583396 I L) = 0 then 14 else 10)) (ls' := [some (.ref 80)]) (st' := []) (h' := (n, sl, wKK k, I, L, wQQ q)) 1 rfl ?_
  refine ev_ifIs (fun c7 => ?_) (fun c7 => ?_)
  · refine ev_b (pc' := 18) (ls' := [some (.ref 80)]) (st' := [.long 1885958245, .ref 80]) (h' := (n, sl, wKK k, I, L, wQQ q)) 2 rfl ?_
    refine ev_cv [.long 1885958245] [] rfl rfl (by omega) rfl (Nat.le_of_ble_eq_true rfl) (Nat.le_of_ble_eq_true rfl) (Or.inr (Or.inr rfl)) (ev_m_isWord) ?_
    refine ev_b (pc' := (if (sp_m_isWord 1885958245 I L) = 0 then 28 else 24)) (ls' := [some (.ref 80)]) (st' := []) (h' := (n, sl, wKK k, I, L, wQQ q)) 1 rfl ?_
    refine ev_ifIs (fun c21 => ?_) (fun c21 => ?_)
    · refine ev_b (pc' := 32) (ls' := [some (.ref 80)]) (st' := [.long 440006570868, .ref 80]) (h' := (n, sl, wKK k, I, L, wQQ q)) 2 rfl ?_
      refine ev_cv [.long 440006570868] [] rfl rfl (by omega) rfl (Nat.le_of_ble_eq_true rfl) (Nat.le_of_ble_eq_true rfl) (Or.inr (Or.inr rfl)) (ev_m_isWord) ?_
      refine ev_b (pc' := (if (sp_m_isWord 440006570868 I L) = 0 then 42 else 38)) (ls' := [some (.ref 80)]) (st' := []) (h' := (n, sl, wKK k, I, L, wQQ q)) 1 rfl ?_
      refine ev_ifIs (fun c35 => ?_) (fun c35 => ?_)
      · refine ev_b (pc' := 43) (ls' := [some (.ref 80)]) (st' := [.int (-1)]) (h' := (n, sl, wKK k, I, L, wQQ q)) 1 rfl ?_
        exact ev_ri rfl rfl rfl
      · refine ev_b (pc' := 43) (ls' := [some (.ref 80)]) (st' := [.int 2]) (h' := (n, sl, wKK k, I, L, wQQ q)) 2 rfl ?_
        exact ev_ri rfl rfl rfl
    · refine ev_b (pc' := 43) (ls' := [some (.ref 80)]) (st' := [.int 1]) (h' := (n, sl, wKK k, I, L, wQQ q)) 2 rfl ?_
      exact ev_ri rfl rfl rfl
  · refine ev_b (pc' := 43) (ls' := [some (.ref 80)]) (st' := [.int 0]) (h' := (n, sl, wKK k, I, L, wQQ q)) 2 rfl ?_
    exact ev_ri rfl rfl rfl
def sp_m_as (x : Int32) (I : Nat → Nat → Int32) (L : Nat → Nat → Int64) : Int32 := (if (sp_m_is x (-1) (I 80 45)) = 0 then 0 else 1)
def sI_m_as (x : Int32) (I : Nat → Nat → Int32) (L : Nat → Nat → Int64) : Nat → Nat → Int32 := (if (sp_m_is x (-1) (I 80 45)) = 0 then I else (va_up I 80 (upd (I 80) 46 x)))
def sL_m_as (x : Int32) (I : Nat → Nat → Int32) (L : Nat → Nat → Int64) : Nat → Nat → Int64 := (if (sp_m_is x (-1) (I 80 45)) = 0 then L else L)
theorem ev_m_as {d : Nat} {n sl : Nat} {k : Nat → Nat × Nat} {I : Nat → Nat → Int32} {L : Nat → Nat → Int64} {q : Nat → Nat → Option Nat} {x : Int32} : am_Ev (d + 1) 197 0 (am_ent 2 [.ref 80, .int x]) [] (n, sl, wKK k, I, L, wQQ q) (some (.int (sp_m_as x I L)), (n, sl, wKK k, sI_m_as x I L, sL_m_as x I L, wQQ q)) := by
  show am_Ev _ _ 0 [some (.ref 80), some (.int x)] _ _ (some (.int (if (sp_m_is x (-1) (I 80 45)) = 0 then 0 else 1)), (n, sl, wKK k, (if (sp_m_is x (-1) (I 80 45)) = 0 then I else (va_up I 80 (upd (I 80) 46 x))), (if (sp_m_is x (-1) (I 80 45)) = 0 then L else L), wQQ q))
  refine ev_b (pc' := 6) (ls' := [some (.ref 80), some (.int x)]) (st' := [.int (I 80 45), .int (-1), .int x]) (h' := (n, sl, wKK k, I, L, wQQ q)) 4 rfl ?_
  refine ev_cs [.int x, .int (-1), .int (I 80 45)] [] rfl rfl (by omega) rfl (Nat.le_of_ble_eq_true rfl) (Nat.le_of_ble_eq_true rfl) (ev_m_is) ?_
  refine ev_b (pc' := (if (sp_m_is x (-1) (I 80 45)) = 0 then 12 else 14)) (ls' := [some (.ref 80), some (.int x)]) (st' := []) (h' := (n, sl, wKK k, I, L, wQQ q)) 1 rfl ?_
  refine ev_ifIw (fun c9 => ?_) (fun c9 => ?_)
  · refine ev_b (pc' := 13) (ls' := [some (.ref 80), some (.int x)]) (st' := [.int 0]) (h' := (n, sl, wKK k, I, L, wQQ q)) 1 rfl ?_
    exact ev_rz rfl (Or.inl rfl) rfl rfl
  · refine ev_b (pc' := 20) (ls' := [some (.ref 80), some (.int x)]) (st' := [.int 1]) (h' := (n, sl, wKK k, va_up I 80 (upd (I 80) 46 x), L, wQQ q)) 4 rfl ?_
    exact ev_rz rfl (Or.inr rfl) rfl rfl
theorem sLe_m_as (x : Int32) (I : Nat → Nat → Int32) (L : Nat → Nat → Int64) : sL_m_as x I L = L := by
  unfold sL_m_as
  try (repeat' split) <;> rfl
def sp_m_forget  (I : Nat → Nat → Int32) (L : Nat → Nat → Int64) : Int32 := I 80 71
def sI_m_forget  (I : Nat → Nat → Int32) (L : Nat → Nat → Int64) : Nat → Nat → Int32 := (va_up I 80 (upd (I 80) 71 0))
def sL_m_forget  (I : Nat → Nat → Int32) (L : Nat → Nat → Int64) : Nat → Nat → Int64 := L
theorem ev_m_forget {d : Nat} {n sl : Nat} {k : Nat → Nat × Nat} {I : Nat → Nat → Int32} {L : Nat → Nat → Int64} {q : Nat → Nat → Option Nat} : am_Ev (d) 239 0 (am_ent 2 [.ref 80]) [] (n, sl, wKK k, I, L, wQQ q) (some (.int (sp_m_forget I L)), (n, sl, wKK k, sI_m_forget I L, sL_m_forget I L, wQQ q)) := by
  show am_Ev _ _ 0 [some (.ref 80), none] _ _ (some (.int (I 80 71)), (n, sl, wKK k, (va_up I 80 (upd (I 80) 71 0)), L, wQQ q))
  refine ev_b (pc' := 11) (ls' := [some (.ref 80), some (.int (I 80 71))]) (st' := [.int (I 80 71)]) (h' := (n, sl, wKK k, va_up I 80 (upd (I 80) 71 0), L, wQQ q)) 7 rfl ?_
  exact ev_ri rfl rfl rfl
theorem sLe_m_forget  (I : Nat → Nat → Int32) (L : Nat → Nat → Int64) : sL_m_forget I L = L := by
  unfold sL_m_forget
  try (repeat' split) <;> rfl
def sp_x_end (x : Int32) (I : Nat → Nat → Int32) (L : Nat → Nat → Int64) : Int32 := sp_r_cut x I L
def sI_x_end (x : Int32) (I : Nat → Nat → Int32) (L : Nat → Nat → Int64) : Nat → Nat → Int32 := (sI_r_cut x I L)
def sL_x_end (x : Int32) (I : Nat → Nat → Int32) (L : Nat → Nat → Int64) : Nat → Nat → Int64 := (sL_r_cut x I L)
theorem ev_x_end {d : Nat} {n sl : Nat} {k : Nat → Nat × Nat} {I : Nat → Nat → Int32} {L : Nat → Nat → Int64} {q : Nat → Nat → Option Nat} {x : Int32} : am_Ev (d + 1) 110 0 (am_ent 2 [.ref 0, .int x]) [] (n, sl, wKK k, I, L, wQQ q) (some (.int (sp_x_end x I L)), (n, sl, wKK k, sI_x_end x I L, sL_x_end x I L, wQQ q)) := by
  show am_Ev _ _ 0 [some (.ref 0), some (.int x)] _ _ (some (.int (sp_r_cut x I L)), (n, sl, wKK k, (sI_r_cut x I L), (sL_r_cut x I L), wQQ q))
  refine ev_b (pc' := 5) (ls' := [some (.ref 0), some (.int x)]) (st' := [.int x, .ref 57]) (h' := (n, sl, wKK k, I, L, wQQ q)) 3 rfl ?_
  refine ev_cv [.int x] [] rfl rfl (by omega) rfl (Nat.le_of_ble_eq_true rfl) (Nat.le_of_ble_eq_true rfl) (Or.inr (Or.inr rfl)) (ev_r_cut) ?_
  exact ev_rz rfl (by (repeat (first | exact Or.inl rfl | exact Or.inr rfl | apply am_01))) rfl rfl
def sp_x_fault (x : Int32) (I : Nat → Nat → Int32) (L : Nat → Nat → Int64) : Int32 := (if x = 0 then sp_r_faultFound I L else (if x = 1 then sp_r_faultPlace I L else (-1)))
theorem ev_x_fault {d : Nat} {n sl : Nat} {k : Nat → Nat × Nat} {I : Nat → Nat → Int32} {L : Nat → Nat → Int64} {q : Nat → Nat → Option Nat} {x : Int32} : am_Ev (d + 1) 122 0 (am_ent 2 [.ref 0, .int x]) [] (n, sl, wKK k, I, L, wQQ q) (some (.int (sp_x_fault x I L)), (n, sl, wKK k, I, L, wQQ q)) := by
  show am_Ev _ _ 0 [some (.ref 0), some (.int x)] _ _ (some (.int (if x = 0 then sp_r_faultFound I L else (if x = 1 then sp_r_faultPlace I L else (-1)))), (n, sl, wKK k, I, L, wQQ q))
  refine ev_b (pc' := (if x = 0 then 4 else 12)) (ls' := [some (.ref 0), some (.int x)]) (st' := []) (h' := (n, sl, wKK k, I, L, wQQ q)) 2 rfl ?_
  refine ev_ifIs (fun c1 => ?_) (fun c1 => ?_)
  · refine ev_b (pc' := 8) (ls' := [some (.ref 0), some (.int x)]) (st' := [.ref 57]) (h' := (n, sl, wKK k, I, L, wQQ q)) 2 rfl ?_
    refine ev_cv [] [] rfl rfl (by omega) rfl (Nat.le_of_ble_eq_true rfl) (Nat.le_of_ble_eq_true rfl) (Or.inr (Or.inr rfl)) (ev_r_faultFound) ?_
    exact ev_ri rfl rfl rfl
  · refine ev_b (pc' := (if x = 1 then 17 else 27)) (ls' := [some (.ref 0), some (.int x)]) (st' := []) (h' := (n, sl, wKK k, I, L, wQQ q)) 3 rfl ?_
    refine ev_ifIs (fun c14 => ?_) (fun c14 => ?_)
    · refine ev_b (pc' := 21) (ls' := [some (.ref 0), some (.int x)]) (st' := [.ref 57]) (h' := (n, sl, wKK k, I, L, wQQ q)) 2 rfl ?_
      refine ev_cv [] [] rfl rfl (by omega) rfl (Nat.le_of_ble_eq_true rfl) (Nat.le_of_ble_eq_true rfl) (Or.inr (Or.inr rfl)) (ev_r_faultPlace) ?_
      refine ev_b (pc' := 28) (ls' := [some (.ref 0), some (.int x)]) (st' := [.int (sp_r_faultPlace I L)]) (h' := (n, sl, wKK k, I, L, wQQ q)) 1 rfl ?_
      exact ev_ri rfl rfl rfl
    · refine ev_b (pc' := 28) (ls' := [some (.ref 0), some (.int x)]) (st' := [.int (-1)]) (h' := (n, sl, wKK k, I, L, wQQ q)) 1 rfl ?_
      exact ev_ri rfl rfl rfl
def sp_x_forget  (I : Nat → Nat → Int32) (L : Nat → Nat → Int64) : Int32 := sp_c_clear I L
def sI_x_forget  (I : Nat → Nat → Int32) (L : Nat → Nat → Int64) : Nat → Nat → Int32 := (sI_c_clear I L)
def sL_x_forget  (I : Nat → Nat → Int32) (L : Nat → Nat → Int64) : Nat → Nat → Int64 := (sL_c_clear I L)
theorem ev_x_forget {d : Nat} {n sl : Nat} {k : Nat → Nat × Nat} {I : Nat → Nat → Int32} {L : Nat → Nat → Int64} {q : Nat → Nat → Option Nat} : am_Ev (d + 1) 142 0 (am_ent 1 [.ref 0]) [] (n, sl, wKK k, I, L, wQQ q) (some (.int (sp_x_forget I L)), (n, sl, wKK k, sI_x_forget I L, sL_x_forget I L, wQQ q)) := by
  show am_Ev _ _ 0 [some (.ref 0)] _ _ (some (.int (sp_c_clear I L)), (n, sl, wKK k, (sI_c_clear I L), (sL_c_clear I L), wQQ q))
  refine ev_b (pc' := 4) (ls' := [some (.ref 0)]) (st' := [.ref 77]) (h' := (n, sl, wKK k, I, L, wQQ q)) 2 rfl ?_
  refine ev_cv [] [] rfl rfl (by omega) rfl (Nat.le_of_ble_eq_true rfl) (Nat.le_of_ble_eq_true rfl) (Or.inr (Or.inr rfl)) (ev_c_clear) ?_
  exact ev_ri rfl rfl rfl
