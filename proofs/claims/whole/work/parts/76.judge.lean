/-! THE JUDGE'S OPERATORS, of both sides -/
def sgnC (x y : Int64) : Int64 := if 0 ≤ lg_cmp x 0 then (if 0 ≤ lg_cmp y 0 then 1000000000000 else -1000000000000) else (if 0 ≤ lg_cmp y 0 then -1000000000000 else 1000000000000)
def prodC (x y : Int64) : Int64 := if lg_cmp y 0 = 0 then x * y else if 0 < lg_cmp (sp_absL x) (1000000000000 / sp_absL y) then sgnC x y else x * y
def timesR (x y : Int64) : Int64 := if lg_cmp (sp_absL x) 0 ≤ 0 then x * y else if lg_cmp (sp_absL y) (1000000000000 / sp_absL x) ≤ 0 then x * y else sgnC x y
def jnC (t : Nat) (x y : Int64) : Int64 := match t with
  | 8 => x &&& y
  | 7 => x ||| y
  | 19 => sp_minL x y
  | 20 => sp_maxL x y
  | 22 => sp_j_bounded (x + y)
  | 23 => sp_j_bounded (x - y)
  | 24 => prodC x y
  | 25 => if lg_cmp y 0 = 0 then 0 else sp_floorDivL x y
  | 26 => if 0 ≤ lg_cmp x y then 0 else 1
  | 27 => if lg_cmp x y ≤ 0 then 0 else 1
  | _ => if lg_cmp x y = 0 then 1 else 0
def twR (o : Nat) (x y : Int64) : Int64 := match o with
  | 15 => sp_m_held (x + y)
  | 16 => sp_m_held (x - y)
  | 17 => timesR x y
  | 18 => sp_m_over x y
  | 19 => if 0 ≤ lg_cmp x y then y else x
  | 20 => if lg_cmp x y ≤ 0 then y else x
  | 21 => if 0 ≤ lg_cmp x y then 0 else 1
  | 22 => if lg_cmp x y ≤ 0 then 0 else 1
  | 23 => if lg_cmp x y = 0 then 1 else 0
  | 24 => x * y
  | _ => if lg_cmp (x + y) 0 ≤ 0 then 0 else 1
theorem absL_ne {y : Int64} (h : ¬ lg_cmp y 0 = 0) : ¬ sp_absL y = 0 := by
  rw [lg_cmp0] at h
  unfold sp_absL
  by_cases c : 0 ≤ lg_cmp y 0
  · rw [if_pos c]; exact h
  · rw [if_neg c]
    intro e
    apply h
    rw [← Int64.neg_neg (a := y), e]
    rfl
theorem ev_j_product {d : Nat} {h : am_H} {x y : Int64} : am_Ev (d + 1) 60 0 (am_ent 4 [.long x, .long y]) [] h (some (.long (prodC x y)), h) := by
  refine tv_ev ?_
  show am_T _ _ 0 [some (.long x), none, some (.long y), none] _ _ _
  refine tv_b (pc' := (if (lg_cmp y 0) = 0 then 22 else 6)) (ls' := [some (.long x), none, some (.long y), none]) (st' := []) (h' := h) 4 rfl ?_
  refine tv_if (fun c3 => ?_) (fun c3 => ?_)
  · refine tv_b (pc' := 25) (ls' := [some (.long x), none, some (.long y), none]) (st' := [.long (x * y)]) (h' := h) 3 rfl ?_
    exact tv_rl rfl ⟨by rw [prodC, if_pos c3], rfl⟩
  · refine tv_b (pc' := 7) (ls' := [some (.long x), none, some (.long y), none]) (st' := [.long x]) (h' := h) 1 rfl ?_
    refine tv_csE [.long x] [] rfl rfl (by omega) rfl (Nat.le_of_ble_eq_true rfl) (Nat.le_of_ble_eq_true rfl) (ev_absL) ?_
    refine tv_b (pc' := 14) (ls' := [some (.long x), none, some (.long y), none]) (st' := [.long y, .long 1000000000000, .long (sp_absL x)]) (h' := h) 2 rfl ?_
    refine tv_csE [.long y] [.long 1000000000000, .long (sp_absL x)] rfl rfl (by omega) rfl (Nat.le_of_ble_eq_true rfl) (Nat.le_of_ble_eq_true rfl) (ev_absL) ?_
    refine tv_ldiv rfl (absL_ne c3) ?_
    refine tv_b (pc' := (if 0 < (lg_cmp (sp_absL x) (1000000000000 / (sp_absL y))) then 26 else 22)) (ls' := [some (.long x), none, some (.long y), none]) (st' := []) (h' := h) 2 rfl ?_
    refine tv_if (fun c19 => ?_) (fun c19 => ?_)
    · refine tv_b (pc' := (if 0 ≤ (lg_cmp x 0) then 36 else 32)) (ls' := [some (.long x), none, some (.long y), none]) (st' := []) (h' := h) 4 rfl ?_
      refine tv_if (fun c29 => ?_) (fun c29 => ?_)
      · refine tv_b (pc' := (if 0 ≤ (lg_cmp y 0) then 47 else 43)) (ls' := [some (.long x), none, some (.long y), none]) (st' := [.int 0]) (h' := h) 5 rfl ?_
        refine tv_if (fun c40 => ?_) (fun c40 => ?_)
        · refine tv_b (pc' := 60) (ls' := [some (.long x), none, some (.long y), none]) (st' := [.long 1000000000000]) (h' := h) 4 rfl ?_
          exact tv_rl rfl ⟨by rw [prodC, if_neg c3, if_pos c19, sgnC, if_pos c29, if_pos c40], rfl⟩
        · refine tv_b (pc' := 60) (ls' := [some (.long x), none, some (.long y), none]) (st' := [.long (-1000000000000)]) (h' := h) 4 rfl ?_
          exact tv_rl rfl ⟨by rw [prodC, if_neg c3, if_pos c19, sgnC, if_pos c29, if_neg c40], rfl⟩
      · refine tv_b (pc' := (if 0 ≤ (lg_cmp y 0) then 47 else 43)) (ls' := [some (.long x), none, some (.long y), none]) (st' := [.int 1]) (h' := h) 6 rfl ?_
        refine tv_if (fun c40 => ?_) (fun c40 => ?_)
        · refine tv_b (pc' := 60) (ls' := [some (.long x), none, some (.long y), none]) (st' := [.long (-1000000000000)]) (h' := h) 3 rfl ?_
          exact tv_rl rfl ⟨by rw [prodC, if_neg c3, if_pos c19, sgnC, if_neg c29, if_pos c40], rfl⟩
        · refine tv_b (pc' := 60) (ls' := [some (.long x), none, some (.long y), none]) (st' := [.long 1000000000000]) (h' := h) 5 rfl ?_
          exact tv_rl rfl ⟨by rw [prodC, if_neg c3, if_pos c19, sgnC, if_neg c29, if_neg c40], rfl⟩
    · refine tv_b (pc' := 25) (ls' := [some (.long x), none, some (.long y), none]) (st' := [.long (x * y)]) (h' := h) 3 rfl ?_
      exact tv_rl rfl ⟨by rw [prodC, if_neg c3, if_neg c19], rfl⟩
theorem ev_m_times {d : Nat} {h : am_H} {x y : Int64} : am_Ev d 217 0 (am_ent 8 [.long x, .long y]) [] h (some (.long (timesR x y)), h) := by
  refine tv_ev ?_
  show am_T _ _ 0 [some (.long x), none, some (.long y), none, none, none, none, none] _ _ _
  refine tv_b (pc' := (if 0 ≤ (lg_cmp x 0) then 11 else 6)) (ls' := [some (.long x), none, some (.long y), none, none, none, none, none]) (st' := []) (h' := h) 4 rfl ?_
  refine tv_if (fun c3 => ?_) (fun c3 => ?_)
  · refine tv_b (pc' := (if 0 ≤ (lg_cmp y 0) then 25 else 20)) (ls' := [some (.long x), none, some (.long y), none, some (.long x), none, none, none]) (st' := []) (h' := h) 6 rfl ?_
    refine tv_if (fun c17 => ?_) (fun c17 => ?_)
    · refine tv_b (pc' := (if (lg_cmp x 0) ≤ 0 then 82 else 35)) (ls' := [some (.long x), none, some (.long y), none, some (.long x), none, some (.long y), none]) (st' := []) (h' := h) 6 rfl ?_
      refine tv_if (fun c32 => ?_) (fun c32 => ?_)
      · refine tv_b (pc' := 85) (ls' := [some (.long x), none, some (.long y), none, some (.long x), none, some (.long y), none]) (st' := [.long (x * y)]) (h' := h) 3 rfl ?_
        exact tv_rl rfl ⟨by rw [timesR, (show sp_absL x = x from if_pos c3), (show sp_absL y = y from if_pos c17), if_pos c32], rfl⟩
      · refine tv_b (pc' := 42) (ls' := [some (.long x), none, some (.long y), none, some (.long x), none, some (.long y), none]) (st' := [.long x, .long 1000000000000, .long y]) (h' := h) 3 rfl ?_
        refine tv_ldiv rfl (fun e => c32 (by rw [e]; decide)) ?_
        refine tv_b (pc' := (if (lg_cmp y (1000000000000 / x)) ≤ 0 then 82 else 47)) (ls' := [some (.long x), none, some (.long y), none, some (.long x), none, some (.long y), none]) (st' := []) (h' := h) 2 rfl ?_
        refine tv_if (fun c44 => ?_) (fun c44 => ?_)
        · refine tv_b (pc' := 85) (ls' := [some (.long x), none, some (.long y), none, some (.long x), none, some (.long y), none]) (st' := [.long (x * y)]) (h' := h) 3 rfl ?_
          exact tv_rl rfl ⟨by rw [timesR, (show sp_absL x = x from if_pos c3), (show sp_absL y = y from if_pos c17), if_neg c32, if_pos c44], rfl⟩
        · refine tv_b (pc' := (if 0 ≤ (lg_cmp x 0) then 57 else 53)) (ls' := [some (.long x), none, some (.long y), none, some (.long x), none, some (.long y), none]) (st' := []) (h' := h) 4 rfl ?_
          refine tv_if (fun c50 => ?_) (fun c50 => ?_)
          · refine tv_b (pc' := (if 0 ≤ (lg_cmp y 0) then 68 else 64)) (ls' := [some (.long x), none, some (.long y), none, some (.long x), none, some (.long y), none]) (st' := [.int 0]) (h' := h) 5 rfl ?_
            refine tv_if (fun c61 => ?_) (fun c61 => ?_)
            · refine tv_b (pc' := 81) (ls' := [some (.long x), none, some (.long y), none, some (.long x), none, some (.long y), none]) (st' := [.long 1000000000000]) (h' := h) 4 rfl ?_
              exact tv_rl rfl ⟨by rw [timesR, (show sp_absL x = x from if_pos c3), (show sp_absL y = y from if_pos c17), if_neg c32, if_neg c44, sgnC, if_pos c50, if_pos c61], rfl⟩
            · refine tv_b (pc' := 81) (ls' := [some (.long x), none, some (.long y), none, some (.long x), none, some (.long y), none]) (st' := [.long (-1000000000000)]) (h' := h) 4 rfl ?_
              exact tv_rl rfl ⟨by rw [timesR, (show sp_absL x = x from if_pos c3), (show sp_absL y = y from if_pos c17), if_neg c32, if_neg c44, sgnC, if_pos c50, if_neg c61], rfl⟩
          · refine tv_b (pc' := (if 0 ≤ (lg_cmp y 0) then 68 else 64)) (ls' := [some (.long x), none, some (.long y), none, some (.long x), none, some (.long y), none]) (st' := [.int 1]) (h' := h) 6 rfl ?_
            refine tv_if (fun c61 => ?_) (fun c61 => ?_)
            · refine tv_b (pc' := 81) (ls' := [some (.long x), none, some (.long y), none, some (.long x), none, some (.long y), none]) (st' := [.long (-1000000000000)]) (h' := h) 3 rfl ?_
              exact tv_rl rfl ⟨by rw [timesR, (show sp_absL x = x from if_pos c3), (show sp_absL y = y from if_pos c17), if_neg c32, if_neg c44, sgnC, if_neg c50, if_pos c61], rfl⟩
            · refine tv_b (pc' := 81) (ls' := [some (.long x), none, some (.long y), none, some (.long x), none, some (.long y), none]) (st' := [.long 1000000000000]) (h' := h) 5 rfl ?_
              exact tv_rl rfl ⟨by rw [timesR, (show sp_absL x = x from if_pos c3), (show sp_absL y = y from if_pos c17), if_neg c32, if_neg c44, sgnC, if_neg c50, if_neg c61], rfl⟩
    · refine tv_b (pc' := (if (lg_cmp x 0) ≤ 0 then 82 else 35)) (ls' := [some (.long x), none, some (.long y), none, some (.long x), none, some (.long (-y)), none]) (st' := []) (h' := h) 8 rfl ?_
      refine tv_if (fun c32 => ?_) (fun c32 => ?_)
      · refine tv_b (pc' := 85) (ls' := [some (.long x), none, some (.long y), none, some (.long x), none, some (.long (-y)), none]) (st' := [.long (x * y)]) (h' := h) 3 rfl ?_
        exact tv_rl rfl ⟨by rw [timesR, (show sp_absL x = x from if_pos c3), (show sp_absL y = -y from if_neg c17), if_pos c32], rfl⟩
      · refine tv_b (pc' := 42) (ls' := [some (.long x), none, some (.long y), none, some (.long x), none, some (.long (-y)), none]) (st' := [.long x, .long 1000000000000, .long (-y)]) (h' := h) 3 rfl ?_
        refine tv_ldiv rfl (fun e => c32 (by rw [e]; decide)) ?_
        refine tv_b (pc' := (if (lg_cmp (-y) (1000000000000 / x)) ≤ 0 then 82 else 47)) (ls' := [some (.long x), none, some (.long y), none, some (.long x), none, some (.long (-y)), none]) (st' := []) (h' := h) 2 rfl ?_
        refine tv_if (fun c44 => ?_) (fun c44 => ?_)
        · refine tv_b (pc' := 85) (ls' := [some (.long x), none, some (.long y), none, some (.long x), none, some (.long (-y)), none]) (st' := [.long (x * y)]) (h' := h) 3 rfl ?_
          exact tv_rl rfl ⟨by rw [timesR, (show sp_absL x = x from if_pos c3), (show sp_absL y = -y from if_neg c17), if_neg c32, if_pos c44], rfl⟩
        · refine tv_b (pc' := (if 0 ≤ (lg_cmp x 0) then 57 else 53)) (ls' := [some (.long x), none, some (.long y), none, some (.long x), none, some (.long (-y)), none]) (st' := []) (h' := h) 4 rfl ?_
          refine tv_if (fun c50 => ?_) (fun c50 => ?_)
          · refine tv_b (pc' := (if 0 ≤ (lg_cmp y 0) then 68 else 64)) (ls' := [some (.long x), none, some (.long y), none, some (.long x), none, some (.long (-y)), none]) (st' := [.int 0]) (h' := h) 5 rfl ?_
            refine tv_if (fun c61 => ?_) (fun c61 => ?_)
            · refine tv_b (pc' := 81) (ls' := [some (.long x), none, some (.long y), none, some (.long x), none, some (.long (-y)), none]) (st' := [.long 1000000000000]) (h' := h) 4 rfl ?_
              exact tv_rl rfl ⟨by rw [timesR, (show sp_absL x = x from if_pos c3), (show sp_absL y = -y from if_neg c17), if_neg c32, if_neg c44, sgnC, if_pos c50, if_pos c61], rfl⟩
            · refine tv_b (pc' := 81) (ls' := [some (.long x), none, some (.long y), none, some (.long x), none, some (.long (-y)), none]) (st' := [.long (-1000000000000)]) (h' := h) 4 rfl ?_
              exact tv_rl rfl ⟨by rw [timesR, (show sp_absL x = x from if_pos c3), (show sp_absL y = -y from if_neg c17), if_neg c32, if_neg c44, sgnC, if_pos c50, if_neg c61], rfl⟩
          · refine tv_b (pc' := (if 0 ≤ (lg_cmp y 0) then 68 else 64)) (ls' := [some (.long x), none, some (.long y), none, some (.long x), none, some (.long (-y)), none]) (st' := [.int 1]) (h' := h) 6 rfl ?_
            refine tv_if (fun c61 => ?_) (fun c61 => ?_)
            · refine tv_b (pc' := 81) (ls' := [some (.long x), none, some (.long y), none, some (.long x), none, some (.long (-y)), none]) (st' := [.long (-1000000000000)]) (h' := h) 3 rfl ?_
              exact tv_rl rfl ⟨by rw [timesR, (show sp_absL x = x from if_pos c3), (show sp_absL y = -y from if_neg c17), if_neg c32, if_neg c44, sgnC, if_neg c50, if_pos c61], rfl⟩
            · refine tv_b (pc' := 81) (ls' := [some (.long x), none, some (.long y), none, some (.long x), none, some (.long (-y)), none]) (st' := [.long 1000000000000]) (h' := h) 5 rfl ?_
              exact tv_rl rfl ⟨by rw [timesR, (show sp_absL x = x from if_pos c3), (show sp_absL y = -y from if_neg c17), if_neg c32, if_neg c44, sgnC, if_neg c50, if_neg c61], rfl⟩
  · refine tv_b (pc' := (if 0 ≤ (lg_cmp y 0) then 25 else 20)) (ls' := [some (.long x), none, some (.long y), none, some (.long (-x)), none, none, none]) (st' := []) (h' := h) 8 rfl ?_
    refine tv_if (fun c17 => ?_) (fun c17 => ?_)
    · refine tv_b (pc' := (if (lg_cmp (-x) 0) ≤ 0 then 82 else 35)) (ls' := [some (.long x), none, some (.long y), none, some (.long (-x)), none, some (.long y), none]) (st' := []) (h' := h) 6 rfl ?_
      refine tv_if (fun c32 => ?_) (fun c32 => ?_)
      · refine tv_b (pc' := 85) (ls' := [some (.long x), none, some (.long y), none, some (.long (-x)), none, some (.long y), none]) (st' := [.long (x * y)]) (h' := h) 3 rfl ?_
        exact tv_rl rfl ⟨by rw [timesR, (show sp_absL x = -x from if_neg c3), (show sp_absL y = y from if_pos c17), if_pos c32], rfl⟩
      · refine tv_b (pc' := 42) (ls' := [some (.long x), none, some (.long y), none, some (.long (-x)), none, some (.long y), none]) (st' := [.long (-x), .long 1000000000000, .long y]) (h' := h) 3 rfl ?_
        refine tv_ldiv rfl (fun e => c32 (by rw [e]; decide)) ?_
        refine tv_b (pc' := (if (lg_cmp y (1000000000000 / (-x))) ≤ 0 then 82 else 47)) (ls' := [some (.long x), none, some (.long y), none, some (.long (-x)), none, some (.long y), none]) (st' := []) (h' := h) 2 rfl ?_
        refine tv_if (fun c44 => ?_) (fun c44 => ?_)
        · refine tv_b (pc' := 85) (ls' := [some (.long x), none, some (.long y), none, some (.long (-x)), none, some (.long y), none]) (st' := [.long (x * y)]) (h' := h) 3 rfl ?_
          exact tv_rl rfl ⟨by rw [timesR, (show sp_absL x = -x from if_neg c3), (show sp_absL y = y from if_pos c17), if_neg c32, if_pos c44], rfl⟩
        · refine tv_b (pc' := (if 0 ≤ (lg_cmp x 0) then 57 else 53)) (ls' := [some (.long x), none, some (.long y), none, some (.long (-x)), none, some (.long y), none]) (st' := []) (h' := h) 4 rfl ?_
          refine tv_if (fun c50 => ?_) (fun c50 => ?_)
          · refine tv_b (pc' := (if 0 ≤ (lg_cmp y 0) then 68 else 64)) (ls' := [some (.long x), none, some (.long y), none, some (.long (-x)), none, some (.long y), none]) (st' := [.int 0]) (h' := h) 5 rfl ?_
            refine tv_if (fun c61 => ?_) (fun c61 => ?_)
            · refine tv_b (pc' := 81) (ls' := [some (.long x), none, some (.long y), none, some (.long (-x)), none, some (.long y), none]) (st' := [.long 1000000000000]) (h' := h) 4 rfl ?_
              exact tv_rl rfl ⟨by rw [timesR, (show sp_absL x = -x from if_neg c3), (show sp_absL y = y from if_pos c17), if_neg c32, if_neg c44, sgnC, if_pos c50, if_pos c61], rfl⟩
            · refine tv_b (pc' := 81) (ls' := [some (.long x), none, some (.long y), none, some (.long (-x)), none, some (.long y), none]) (st' := [.long (-1000000000000)]) (h' := h) 4 rfl ?_
              exact tv_rl rfl ⟨by rw [timesR, (show sp_absL x = -x from if_neg c3), (show sp_absL y = y from if_pos c17), if_neg c32, if_neg c44, sgnC, if_pos c50, if_neg c61], rfl⟩
          · refine tv_b (pc' := (if 0 ≤ (lg_cmp y 0) then 68 else 64)) (ls' := [some (.long x), none, some (.long y), none, some (.long (-x)), none, some (.long y), none]) (st' := [.int 1]) (h' := h) 6 rfl ?_
            refine tv_if (fun c61 => ?_) (fun c61 => ?_)
            · refine tv_b (pc' := 81) (ls' := [some (.long x), none, some (.long y), none, some (.long (-x)), none, some (.long y), none]) (st' := [.long (-1000000000000)]) (h' := h) 3 rfl ?_
              exact tv_rl rfl ⟨by rw [timesR, (show sp_absL x = -x from if_neg c3), (show sp_absL y = y from if_pos c17), if_neg c32, if_neg c44, sgnC, if_neg c50, if_pos c61], rfl⟩
            · refine tv_b (pc' := 81) (ls' := [some (.long x), none, some (.long y), none, some (.long (-x)), none, some (.long y), none]) (st' := [.long 1000000000000]) (h' := h) 5 rfl ?_
              exact tv_rl rfl ⟨by rw [timesR, (show sp_absL x = -x from if_neg c3), (show sp_absL y = y from if_pos c17), if_neg c32, if_neg c44, sgnC, if_neg c50, if_neg c61], rfl⟩
    · refine tv_b (pc' := (if (lg_cmp (-x) 0) ≤ 0 then 82 else 35)) (ls' := [some (.long x), none, some (.long y), none, some (.long (-x)), none, some (.long (-y)), none]) (st' := []) (h' := h) 8 rfl ?_
      refine tv_if (fun c32 => ?_) (fun c32 => ?_)
      · refine tv_b (pc' := 85) (ls' := [some (.long x), none, some (.long y), none, some (.long (-x)), none, some (.long (-y)), none]) (st' := [.long (x * y)]) (h' := h) 3 rfl ?_
        exact tv_rl rfl ⟨by rw [timesR, (show sp_absL x = -x from if_neg c3), (show sp_absL y = -y from if_neg c17), if_pos c32], rfl⟩
      · refine tv_b (pc' := 42) (ls' := [some (.long x), none, some (.long y), none, some (.long (-x)), none, some (.long (-y)), none]) (st' := [.long (-x), .long 1000000000000, .long (-y)]) (h' := h) 3 rfl ?_
        refine tv_ldiv rfl (fun e => c32 (by rw [e]; decide)) ?_
        refine tv_b (pc' := (if (lg_cmp (-y) (1000000000000 / (-x))) ≤ 0 then 82 else 47)) (ls' := [some (.long x), none, some (.long y), none, some (.long (-x)), none, some (.long (-y)), none]) (st' := []) (h' := h) 2 rfl ?_
        refine tv_if (fun c44 => ?_) (fun c44 => ?_)
        · refine tv_b (pc' := 85) (ls' := [some (.long x), none, some (.long y), none, some (.long (-x)), none, some (.long (-y)), none]) (st' := [.long (x * y)]) (h' := h) 3 rfl ?_
          exact tv_rl rfl ⟨by rw [timesR, (show sp_absL x = -x from if_neg c3), (show sp_absL y = -y from if_neg c17), if_neg c32, if_pos c44], rfl⟩
        · refine tv_b (pc' := (if 0 ≤ (lg_cmp x 0) then 57 else 53)) (ls' := [some (.long x), none, some (.long y), none, some (.long (-x)), none, some (.long (-y)), none]) (st' := []) (h' := h) 4 rfl ?_
          refine tv_if (fun c50 => ?_) (fun c50 => ?_)
          · refine tv_b (pc' := (if 0 ≤ (lg_cmp y 0) then 68 else 64)) (ls' := [some (.long x), none, some (.long y), none, some (.long (-x)), none, some (.long (-y)), none]) (st' := [.int 0]) (h' := h) 5 rfl ?_
            refine tv_if (fun c61 => ?_) (fun c61 => ?_)
            · refine tv_b (pc' := 81) (ls' := [some (.long x), none, some (.long y), none, some (.long (-x)), none, some (.long (-y)), none]) (st' := [.long 1000000000000]) (h' := h) 4 rfl ?_
              exact tv_rl rfl ⟨by rw [timesR, (show sp_absL x = -x from if_neg c3), (show sp_absL y = -y from if_neg c17), if_neg c32, if_neg c44, sgnC, if_pos c50, if_pos c61], rfl⟩
            · refine tv_b (pc' := 81) (ls' := [some (.long x), none, some (.long y), none, some (.long (-x)), none, some (.long (-y)), none]) (st' := [.long (-1000000000000)]) (h' := h) 4 rfl ?_
              exact tv_rl rfl ⟨by rw [timesR, (show sp_absL x = -x from if_neg c3), (show sp_absL y = -y from if_neg c17), if_neg c32, if_neg c44, sgnC, if_pos c50, if_neg c61], rfl⟩
          · refine tv_b (pc' := (if 0 ≤ (lg_cmp y 0) then 68 else 64)) (ls' := [some (.long x), none, some (.long y), none, some (.long (-x)), none, some (.long (-y)), none]) (st' := [.int 1]) (h' := h) 6 rfl ?_
            refine tv_if (fun c61 => ?_) (fun c61 => ?_)
            · refine tv_b (pc' := 81) (ls' := [some (.long x), none, some (.long y), none, some (.long (-x)), none, some (.long (-y)), none]) (st' := [.long (-1000000000000)]) (h' := h) 3 rfl ?_
              exact tv_rl rfl ⟨by rw [timesR, (show sp_absL x = -x from if_neg c3), (show sp_absL y = -y from if_neg c17), if_neg c32, if_neg c44, sgnC, if_neg c50, if_pos c61], rfl⟩
            · refine tv_b (pc' := 81) (ls' := [some (.long x), none, some (.long y), none, some (.long (-x)), none, some (.long (-y)), none]) (st' := [.long 1000000000000]) (h' := h) 5 rfl ?_
              exact tv_rl rfl ⟨by rw [timesR, (show sp_absL x = -x from if_neg c3), (show sp_absL y = -y from if_neg c17), if_neg c32, if_neg c44, sgnC, if_neg c50, if_neg c61], rfl⟩
theorem ev_j_joined {d : Nat} {h : am_H} {x y : Int64} {t : Nat} (ht : t = 7 ∨ t = 8 ∨ t = 19 ∨ t = 20 ∨ t = 22 ∨ t = 23 ∨ t = 24 ∨ t = 25 ∨ t = 26 ∨ t = 27 ∨ t = 28 ∨ t = 29 ∨ t = 30 ∨ t = 31) : am_Ev (d + 2) 58 0 (am_ent 5 [.int (nI t), .long x, .long y]) [] h (some (.long (jnC t x y)), h) := by
  refine tv_ev ?_
  rcases ht with rfl | rfl | rfl | rfl | rfl | rfl | rfl | rfl | rfl | rfl | rfl | rfl | rfl | rfl
  · show am_T _ _ 0 [some (.int 7), some (.long x), none, some (.long y), none] _ _ _
    refine tv_b (pc' := 107) (ls' := [some (.int 7), some (.long x), none, some (.long y), none]) (st' := [.long (x ||| y)]) (h' := h) 5 rfl ?_
    exact tv_rl rfl ⟨rfl, rfl⟩
  · show am_T _ _ 0 [some (.int 8), some (.long x), none, some (.long y), none] _ _ _
    refine tv_b (pc' := 103) (ls' := [some (.int 8), some (.long x), none, some (.long y), none]) (st' := [.long (x &&& y)]) (h' := h) 5 rfl ?_
    exact tv_rl rfl ⟨rfl, rfl⟩
  · show am_T _ _ 0 [some (.int 19), some (.long x), none, some (.long y), none] _ _ _
    refine tv_b (pc' := 110) (ls' := [some (.int 19), some (.long x), none, some (.long y), none]) (st' := [.long y, .long x]) (h' := h) 4 rfl ?_
    refine tv_csE [.long x, .long y] [] rfl rfl (by omega) rfl (Nat.le_of_ble_eq_true rfl) (Nat.le_of_ble_eq_true rfl) (ev_minL) ?_
    exact tv_rl rfl ⟨rfl, rfl⟩
  · show am_T _ _ 0 [some (.int 20), some (.long x), none, some (.long y), none] _ _ _
    refine tv_b (pc' := 116) (ls' := [some (.int 20), some (.long x), none, some (.long y), none]) (st' := [.long y, .long x]) (h' := h) 4 rfl ?_
    refine tv_csE [.long x, .long y] [] rfl rfl (by omega) rfl (Nat.le_of_ble_eq_true rfl) (Nat.le_of_ble_eq_true rfl) (ev_maxL) ?_
    exact tv_rl rfl ⟨rfl, rfl⟩
  · show am_T _ _ 0 [some (.int 22), some (.long x), none, some (.long y), none] _ _ _
    refine tv_b (pc' := 123) (ls' := [some (.int 22), some (.long x), none, some (.long y), none]) (st' := [.long (x + y)]) (h' := h) 5 rfl ?_
    refine tv_csE [.long (x + y)] [] rfl rfl (by omega) rfl (Nat.le_of_ble_eq_true rfl) (Nat.le_of_ble_eq_true rfl) (ev_j_bounded) ?_
    exact tv_rl rfl ⟨rfl, rfl⟩
  · show am_T _ _ 0 [some (.int 23), some (.long x), none, some (.long y), none] _ _ _
    refine tv_b (pc' := 130) (ls' := [some (.int 23), some (.long x), none, some (.long y), none]) (st' := [.long (x - y)]) (h' := h) 5 rfl ?_
    refine tv_csE [.long (x - y)] [] rfl rfl (by omega) rfl (Nat.le_of_ble_eq_true rfl) (Nat.le_of_ble_eq_true rfl) (ev_j_bounded) ?_
    exact tv_rl rfl ⟨rfl, rfl⟩
  · show am_T _ _ 0 [some (.int 24), some (.long x), none, some (.long y), none] _ _ _
    refine tv_b (pc' := 136) (ls' := [some (.int 24), some (.long x), none, some (.long y), none]) (st' := [.long y, .long x]) (h' := h) 4 rfl ?_
    refine tv_csE [.long x, .long y] [] rfl rfl (by omega) rfl (Nat.le_of_ble_eq_true rfl) (Nat.le_of_ble_eq_true rfl) (ev_j_product) ?_
    exact tv_rl rfl ⟨rfl, rfl⟩
  · show am_T _ _ 0 [some (.int 25), some (.long x), none, some (.long y), none] _ _ _
    refine tv_b (pc' := (if (lg_cmp y 0) = 0 then 146 else 150)) (ls' := [some (.int 25), some (.long x), none, some (.long y), none]) (st' := []) (h' := h) 6 rfl ?_
    refine tv_if (fun c143 => ?_) (fun c143 => ?_)
    · refine tv_b (pc' := 155) (ls' := [some (.int 25), some (.long x), none, some (.long y), none]) (st' := [.long 0]) (h' := h) 2 rfl ?_
      exact tv_rl rfl ⟨(congrArg (fun z => some (Value.long z)) (show jnC 25 x y = _ by unfold jnC; simp only []; rw [if_pos c143])).symm, rfl⟩
    · refine tv_b (pc' := 152) (ls' := [some (.int 25), some (.long x), none, some (.long y), none]) (st' := [.long y, .long x]) (h' := h) 2 rfl ?_
      refine tv_csE [.long x, .long y] [] rfl rfl (by omega) rfl (Nat.le_of_ble_eq_true rfl) (Nat.le_of_ble_eq_true rfl) (ev_floorDivL (fun e => c143 (by rw [e]; decide))) ?_
      exact tv_rl rfl ⟨(congrArg (fun z => some (Value.long z)) (show jnC 25 x y = _ by unfold jnC; simp only []; rw [if_neg c143])).symm, rfl⟩
  · show am_T _ _ 0 [some (.int 26), some (.long x), none, some (.long y), none] _ _ _
    refine tv_b (pc' := (if 0 ≤ (lg_cmp x y) then 166 else 162)) (ls' := [some (.int 26), some (.long x), none, some (.long y), none]) (st' := []) (h' := h) 6 rfl ?_
    refine tv_if (fun c159 => ?_) (fun c159 => ?_)
    · refine tv_b (pc' := 167) (ls' := [some (.int 26), some (.long x), none, some (.long y), none]) (st' := [.long 0]) (h' := h) 1 rfl ?_
      exact tv_rl rfl ⟨(congrArg (fun z => some (Value.long z)) (show jnC 26 x y = _ by unfold jnC; simp only []; rw [if_pos c159])).symm, rfl⟩
    · refine tv_b (pc' := 167) (ls' := [some (.int 26), some (.long x), none, some (.long y), none]) (st' := [.long 1]) (h' := h) 2 rfl ?_
      exact tv_rl rfl ⟨(congrArg (fun z => some (Value.long z)) (show jnC 26 x y = _ by unfold jnC; simp only []; rw [if_neg c159])).symm, rfl⟩
  · show am_T _ _ 0 [some (.int 27), some (.long x), none, some (.long y), none] _ _ _
    refine tv_b (pc' := (if (lg_cmp x y) ≤ 0 then 178 else 174)) (ls' := [some (.int 27), some (.long x), none, some (.long y), none]) (st' := []) (h' := h) 6 rfl ?_
    refine tv_if (fun c171 => ?_) (fun c171 => ?_)
    · refine tv_b (pc' := 179) (ls' := [some (.int 27), some (.long x), none, some (.long y), none]) (st' := [.long 0]) (h' := h) 1 rfl ?_
      exact tv_rl rfl ⟨(congrArg (fun z => some (Value.long z)) (show jnC 27 x y = _ by unfold jnC; simp only []; rw [if_pos c171])).symm, rfl⟩
    · refine tv_b (pc' := 179) (ls' := [some (.int 27), some (.long x), none, some (.long y), none]) (st' := [.long 1]) (h' := h) 2 rfl ?_
      exact tv_rl rfl ⟨(congrArg (fun z => some (Value.long z)) (show jnC 27 x y = _ by unfold jnC; simp only []; rw [if_neg c171])).symm, rfl⟩
  · show am_T _ _ 0 [some (.int 28), some (.long x), none, some (.long y), none] _ _ _
    refine tv_b (pc' := (if (lg_cmp x y) = 0 then 186 else 190)) (ls' := [some (.int 28), some (.long x), none, some (.long y), none]) (st' := []) (h' := h) 6 rfl ?_
    refine tv_if (fun c183 => ?_) (fun c183 => ?_)
    · refine tv_b (pc' := 191) (ls' := [some (.int 28), some (.long x), none, some (.long y), none]) (st' := [.long 1]) (h' := h) 2 rfl ?_
      exact tv_rl rfl ⟨(congrArg (fun z => some (Value.long z)) (show jnC 28 x y = _ by unfold jnC; simp only []; rw [if_pos c183])).symm, rfl⟩
    · refine tv_b (pc' := 191) (ls' := [some (.int 28), some (.long x), none, some (.long y), none]) (st' := [.long 0]) (h' := h) 1 rfl ?_
      exact tv_rl rfl ⟨(congrArg (fun z => some (Value.long z)) (show jnC 28 x y = _ by unfold jnC; simp only []; rw [if_neg c183])).symm, rfl⟩
  · show am_T _ _ 0 [some (.int 29), some (.long x), none, some (.long y), none] _ _ _
    refine tv_b (pc' := (if (lg_cmp x y) = 0 then 186 else 190)) (ls' := [some (.int 29), some (.long x), none, some (.long y), none]) (st' := []) (h' := h) 6 rfl ?_
    refine tv_if (fun c183 => ?_) (fun c183 => ?_)
    · refine tv_b (pc' := 191) (ls' := [some (.int 29), some (.long x), none, some (.long y), none]) (st' := [.long 1]) (h' := h) 2 rfl ?_
      exact tv_rl rfl ⟨(congrArg (fun z => some (Value.long z)) (show jnC 29 x y = _ by unfold jnC; simp only []; rw [if_pos c183])).symm, rfl⟩
    · refine tv_b (pc' := 191) (ls' := [some (.int 29), some (.long x), none, some (.long y), none]) (st' := [.long 0]) (h' := h) 1 rfl ?_
      exact tv_rl rfl ⟨(congrArg (fun z => some (Value.long z)) (show jnC 29 x y = _ by unfold jnC; simp only []; rw [if_neg c183])).symm, rfl⟩
  · show am_T _ _ 0 [some (.int 30), some (.long x), none, some (.long y), none] _ _ _
    refine tv_b (pc' := (if (lg_cmp x y) = 0 then 186 else 190)) (ls' := [some (.int 30), some (.long x), none, some (.long y), none]) (st' := []) (h' := h) 6 rfl ?_
    refine tv_if (fun c183 => ?_) (fun c183 => ?_)
    · refine tv_b (pc' := 191) (ls' := [some (.int 30), some (.long x), none, some (.long y), none]) (st' := [.long 1]) (h' := h) 2 rfl ?_
      exact tv_rl rfl ⟨(congrArg (fun z => some (Value.long z)) (show jnC 30 x y = _ by unfold jnC; simp only []; rw [if_pos c183])).symm, rfl⟩
    · refine tv_b (pc' := 191) (ls' := [some (.int 30), some (.long x), none, some (.long y), none]) (st' := [.long 0]) (h' := h) 1 rfl ?_
      exact tv_rl rfl ⟨(congrArg (fun z => some (Value.long z)) (show jnC 30 x y = _ by unfold jnC; simp only []; rw [if_neg c183])).symm, rfl⟩
  · show am_T _ _ 0 [some (.int 31), some (.long x), none, some (.long y), none] _ _ _
    refine tv_b (pc' := (if (lg_cmp x y) = 0 then 186 else 190)) (ls' := [some (.int 31), some (.long x), none, some (.long y), none]) (st' := []) (h' := h) 6 rfl ?_
    refine tv_if (fun c183 => ?_) (fun c183 => ?_)
    · refine tv_b (pc' := 191) (ls' := [some (.int 31), some (.long x), none, some (.long y), none]) (st' := [.long 1]) (h' := h) 2 rfl ?_
      exact tv_rl rfl ⟨(congrArg (fun z => some (Value.long z)) (show jnC 31 x y = _ by unfold jnC; simp only []; rw [if_pos c183])).symm, rfl⟩
    · refine tv_b (pc' := 191) (ls' := [some (.int 31), some (.long x), none, some (.long y), none]) (st' := [.long 0]) (h' := h) 1 rfl ?_
      exact tv_rl rfl ⟨(congrArg (fun z => some (Value.long z)) (show jnC 31 x y = _ by unfold jnC; simp only []; rw [if_neg c183])).symm, rfl⟩
theorem ev_m_two {d : Nat} {h : am_H} {x y : Int64} {t : Nat} (ht : t = 10 ∨ t = 11 ∨ t = 12 ∨ t = 13 ∨ t = 14 ∨ t = 15 ∨ t = 16 ∨ t = 17 ∨ t = 18 ∨ t = 19 ∨ t = 20 ∨ t = 21 ∨ t = 22 ∨ t = 23 ∨ t = 24 ∨ t = 25) : am_Ev (d + 1) 218 0 (am_ent 5 [.int (nI t), .long x, .long y]) [] h (some (.long (twR t x y)), h) := by
  refine tv_ev ?_
  rcases ht with rfl | rfl | rfl | rfl | rfl | rfl | rfl | rfl | rfl | rfl | rfl | rfl | rfl | rfl | rfl | rfl
  · show am_T _ _ 0 [some (.int 10), some (.long x), none, some (.long y), none] _ _ _
    refine tv_b (pc' := (if (lg_cmp (x + y) 0) ≤ 0 then 158 else 154)) (ls' := [some (.int 10), some (.long x), none, some (.long y), none]) (st' := []) (h' := h) 8 rfl ?_
    refine tv_if (fun c151 => ?_) (fun c151 => ?_)
    · refine tv_b (pc' := 159) (ls' := [some (.int 10), some (.long x), none, some (.long y), none]) (st' := [.long 0]) (h' := h) 1 rfl ?_
      exact tv_rl rfl ⟨(congrArg (fun z => some (Value.long z)) (show twR 10 x y = _ by unfold twR; simp only []; rw [if_pos c151])).symm, rfl⟩
    · refine tv_b (pc' := 159) (ls' := [some (.int 10), some (.long x), none, some (.long y), none]) (st' := [.long 1]) (h' := h) 2 rfl ?_
      exact tv_rl rfl ⟨(congrArg (fun z => some (Value.long z)) (show twR 10 x y = _ by unfold twR; simp only []; rw [if_neg c151])).symm, rfl⟩
  · show am_T _ _ 0 [some (.int 11), some (.long x), none, some (.long y), none] _ _ _
    refine tv_b (pc' := (if (lg_cmp (x + y) 0) ≤ 0 then 158 else 154)) (ls' := [some (.int 11), some (.long x), none, some (.long y), none]) (st' := []) (h' := h) 8 rfl ?_
    refine tv_if (fun c151 => ?_) (fun c151 => ?_)
    · refine tv_b (pc' := 159) (ls' := [some (.int 11), some (.long x), none, some (.long y), none]) (st' := [.long 0]) (h' := h) 1 rfl ?_
      exact tv_rl rfl ⟨(congrArg (fun z => some (Value.long z)) (show twR 11 x y = _ by unfold twR; simp only []; rw [if_pos c151])).symm, rfl⟩
    · refine tv_b (pc' := 159) (ls' := [some (.int 11), some (.long x), none, some (.long y), none]) (st' := [.long 1]) (h' := h) 2 rfl ?_
      exact tv_rl rfl ⟨(congrArg (fun z => some (Value.long z)) (show twR 11 x y = _ by unfold twR; simp only []; rw [if_neg c151])).symm, rfl⟩
  · show am_T _ _ 0 [some (.int 12), some (.long x), none, some (.long y), none] _ _ _
    refine tv_b (pc' := (if (lg_cmp (x + y) 0) ≤ 0 then 158 else 154)) (ls' := [some (.int 12), some (.long x), none, some (.long y), none]) (st' := []) (h' := h) 8 rfl ?_
    refine tv_if (fun c151 => ?_) (fun c151 => ?_)
    · refine tv_b (pc' := 159) (ls' := [some (.int 12), some (.long x), none, some (.long y), none]) (st' := [.long 0]) (h' := h) 1 rfl ?_
      exact tv_rl rfl ⟨(congrArg (fun z => some (Value.long z)) (show twR 12 x y = _ by unfold twR; simp only []; rw [if_pos c151])).symm, rfl⟩
    · refine tv_b (pc' := 159) (ls' := [some (.int 12), some (.long x), none, some (.long y), none]) (st' := [.long 1]) (h' := h) 2 rfl ?_
      exact tv_rl rfl ⟨(congrArg (fun z => some (Value.long z)) (show twR 12 x y = _ by unfold twR; simp only []; rw [if_neg c151])).symm, rfl⟩
  · show am_T _ _ 0 [some (.int 13), some (.long x), none, some (.long y), none] _ _ _
    refine tv_b (pc' := (if (lg_cmp (x + y) 0) ≤ 0 then 158 else 154)) (ls' := [some (.int 13), some (.long x), none, some (.long y), none]) (st' := []) (h' := h) 8 rfl ?_
    refine tv_if (fun c151 => ?_) (fun c151 => ?_)
    · refine tv_b (pc' := 159) (ls' := [some (.int 13), some (.long x), none, some (.long y), none]) (st' := [.long 0]) (h' := h) 1 rfl ?_
      exact tv_rl rfl ⟨(congrArg (fun z => some (Value.long z)) (show twR 13 x y = _ by unfold twR; simp only []; rw [if_pos c151])).symm, rfl⟩
    · refine tv_b (pc' := 159) (ls' := [some (.int 13), some (.long x), none, some (.long y), none]) (st' := [.long 1]) (h' := h) 2 rfl ?_
      exact tv_rl rfl ⟨(congrArg (fun z => some (Value.long z)) (show twR 13 x y = _ by unfold twR; simp only []; rw [if_neg c151])).symm, rfl⟩
  · show am_T _ _ 0 [some (.int 14), some (.long x), none, some (.long y), none] _ _ _
    refine tv_b (pc' := (if (lg_cmp (x + y) 0) ≤ 0 then 158 else 154)) (ls' := [some (.int 14), some (.long x), none, some (.long y), none]) (st' := []) (h' := h) 8 rfl ?_
    refine tv_if (fun c151 => ?_) (fun c151 => ?_)
    · refine tv_b (pc' := 159) (ls' := [some (.int 14), some (.long x), none, some (.long y), none]) (st' := [.long 0]) (h' := h) 1 rfl ?_
      exact tv_rl rfl ⟨(congrArg (fun z => some (Value.long z)) (show twR 14 x y = _ by unfold twR; simp only []; rw [if_pos c151])).symm, rfl⟩
    · refine tv_b (pc' := 159) (ls' := [some (.int 14), some (.long x), none, some (.long y), none]) (st' := [.long 1]) (h' := h) 2 rfl ?_
      exact tv_rl rfl ⟨(congrArg (fun z => some (Value.long z)) (show twR 14 x y = _ by unfold twR; simp only []; rw [if_neg c151])).symm, rfl⟩
  · show am_T _ _ 0 [some (.int 15), some (.long x), none, some (.long y), none] _ _ _
    refine tv_b (pc' := 59) (ls' := [some (.int 15), some (.long x), none, some (.long y), none]) (st' := [.long (x + y)]) (h' := h) 5 rfl ?_
    refine tv_csE [.long (x + y)] [] rfl rfl (by omega) rfl (Nat.le_of_ble_eq_true rfl) (Nat.le_of_ble_eq_true rfl) (ev_m_held) ?_
    exact tv_rl rfl ⟨rfl, rfl⟩
  · show am_T _ _ 0 [some (.int 16), some (.long x), none, some (.long y), none] _ _ _
    refine tv_b (pc' := 66) (ls' := [some (.int 16), some (.long x), none, some (.long y), none]) (st' := [.long (x - y)]) (h' := h) 5 rfl ?_
    refine tv_csE [.long (x - y)] [] rfl rfl (by omega) rfl (Nat.le_of_ble_eq_true rfl) (Nat.le_of_ble_eq_true rfl) (ev_m_held) ?_
    exact tv_rl rfl ⟨rfl, rfl⟩
  · show am_T _ _ 0 [some (.int 17), some (.long x), none, some (.long y), none] _ _ _
    refine tv_b (pc' := 72) (ls' := [some (.int 17), some (.long x), none, some (.long y), none]) (st' := [.long y, .long x]) (h' := h) 4 rfl ?_
    refine tv_csE [.long x, .long y] [] rfl rfl (by omega) rfl (Nat.le_of_ble_eq_true rfl) (Nat.le_of_ble_eq_true rfl) (ev_m_times) ?_
    exact tv_rl rfl ⟨rfl, rfl⟩
  · show am_T _ _ 0 [some (.int 18), some (.long x), none, some (.long y), none] _ _ _
    refine tv_b (pc' := 78) (ls' := [some (.int 18), some (.long x), none, some (.long y), none]) (st' := [.long y, .long x]) (h' := h) 4 rfl ?_
    refine tv_csE [.long x, .long y] [] rfl rfl (by omega) rfl (Nat.le_of_ble_eq_true rfl) (Nat.le_of_ble_eq_true rfl) (ev_m_over) ?_
    exact tv_rl rfl ⟨rfl, rfl⟩
  · show am_T _ _ 0 [some (.int 19), some (.long x), none, some (.long y), none] _ _ _
    refine tv_b (pc' := (if 0 ≤ (lg_cmp x y) then 92 else 88)) (ls' := [some (.int 19), some (.long x), none, some (.long y), none]) (st' := []) (h' := h) 6 rfl ?_
    refine tv_if (fun c85 => ?_) (fun c85 => ?_)
    · refine tv_b (pc' := 93) (ls' := [some (.int 19), some (.long x), none, some (.long y), none]) (st' := [.long y]) (h' := h) 1 rfl ?_
      exact tv_rl rfl ⟨(congrArg (fun z => some (Value.long z)) (show twR 19 x y = _ by unfold twR; simp only []; rw [if_pos c85])).symm, rfl⟩
    · refine tv_b (pc' := 93) (ls' := [some (.int 19), some (.long x), none, some (.long y), none]) (st' := [.long x]) (h' := h) 2 rfl ?_
      exact tv_rl rfl ⟨(congrArg (fun z => some (Value.long z)) (show twR 19 x y = _ by unfold twR; simp only []; rw [if_neg c85])).symm, rfl⟩
  · show am_T _ _ 0 [some (.int 20), some (.long x), none, some (.long y), none] _ _ _
    refine tv_b (pc' := (if (lg_cmp x y) ≤ 0 then 104 else 100)) (ls' := [some (.int 20), some (.long x), none, some (.long y), none]) (st' := []) (h' := h) 6 rfl ?_
    refine tv_if (fun c97 => ?_) (fun c97 => ?_)
    · refine tv_b (pc' := 105) (ls' := [some (.int 20), some (.long x), none, some (.long y), none]) (st' := [.long y]) (h' := h) 1 rfl ?_
      exact tv_rl rfl ⟨(congrArg (fun z => some (Value.long z)) (show twR 20 x y = _ by unfold twR; simp only []; rw [if_pos c97])).symm, rfl⟩
    · refine tv_b (pc' := 105) (ls' := [some (.int 20), some (.long x), none, some (.long y), none]) (st' := [.long x]) (h' := h) 2 rfl ?_
      exact tv_rl rfl ⟨(congrArg (fun z => some (Value.long z)) (show twR 20 x y = _ by unfold twR; simp only []; rw [if_neg c97])).symm, rfl⟩
  · show am_T _ _ 0 [some (.int 21), some (.long x), none, some (.long y), none] _ _ _
    refine tv_b (pc' := (if 0 ≤ (lg_cmp x y) then 116 else 112)) (ls' := [some (.int 21), some (.long x), none, some (.long y), none]) (st' := []) (h' := h) 6 rfl ?_
    refine tv_if (fun c109 => ?_) (fun c109 => ?_)
    · refine tv_b (pc' := 117) (ls' := [some (.int 21), some (.long x), none, some (.long y), none]) (st' := [.long 0]) (h' := h) 1 rfl ?_
      exact tv_rl rfl ⟨(congrArg (fun z => some (Value.long z)) (show twR 21 x y = _ by unfold twR; simp only []; rw [if_pos c109])).symm, rfl⟩
    · refine tv_b (pc' := 117) (ls' := [some (.int 21), some (.long x), none, some (.long y), none]) (st' := [.long 1]) (h' := h) 2 rfl ?_
      exact tv_rl rfl ⟨(congrArg (fun z => some (Value.long z)) (show twR 21 x y = _ by unfold twR; simp only []; rw [if_neg c109])).symm, rfl⟩
  · show am_T _ _ 0 [some (.int 22), some (.long x), none, some (.long y), none] _ _ _
    refine tv_b (pc' := (if (lg_cmp x y) ≤ 0 then 128 else 124)) (ls' := [some (.int 22), some (.long x), none, some (.long y), none]) (st' := []) (h' := h) 6 rfl ?_
    refine tv_if (fun c121 => ?_) (fun c121 => ?_)
    · refine tv_b (pc' := 129) (ls' := [some (.int 22), some (.long x), none, some (.long y), none]) (st' := [.long 0]) (h' := h) 1 rfl ?_
      exact tv_rl rfl ⟨(congrArg (fun z => some (Value.long z)) (show twR 22 x y = _ by unfold twR; simp only []; rw [if_pos c121])).symm, rfl⟩
    · refine tv_b (pc' := 129) (ls' := [some (.int 22), some (.long x), none, some (.long y), none]) (st' := [.long 1]) (h' := h) 2 rfl ?_
      exact tv_rl rfl ⟨(congrArg (fun z => some (Value.long z)) (show twR 22 x y = _ by unfold twR; simp only []; rw [if_neg c121])).symm, rfl⟩
  · show am_T _ _ 0 [some (.int 23), some (.long x), none, some (.long y), none] _ _ _
    refine tv_b (pc' := (if (lg_cmp x y) = 0 then 136 else 140)) (ls' := [some (.int 23), some (.long x), none, some (.long y), none]) (st' := []) (h' := h) 6 rfl ?_
    refine tv_if (fun c133 => ?_) (fun c133 => ?_)
    · refine tv_b (pc' := 141) (ls' := [some (.int 23), some (.long x), none, some (.long y), none]) (st' := [.long 1]) (h' := h) 2 rfl ?_
      exact tv_rl rfl ⟨(congrArg (fun z => some (Value.long z)) (show twR 23 x y = _ by unfold twR; simp only []; rw [if_pos c133])).symm, rfl⟩
    · refine tv_b (pc' := 141) (ls' := [some (.int 23), some (.long x), none, some (.long y), none]) (st' := [.long 0]) (h' := h) 1 rfl ?_
      exact tv_rl rfl ⟨(congrArg (fun z => some (Value.long z)) (show twR 23 x y = _ by unfold twR; simp only []; rw [if_neg c133])).symm, rfl⟩
  · show am_T _ _ 0 [some (.int 24), some (.long x), none, some (.long y), none] _ _ _
    refine tv_b (pc' := 145) (ls' := [some (.int 24), some (.long x), none, some (.long y), none]) (st' := [.long (x * y)]) (h' := h) 5 rfl ?_
    exact tv_rl rfl ⟨rfl, rfl⟩
  · show am_T _ _ 0 [some (.int 25), some (.long x), none, some (.long y), none] _ _ _
    refine tv_b (pc' := (if (lg_cmp (x + y) 0) ≤ 0 then 158 else 154)) (ls' := [some (.int 25), some (.long x), none, some (.long y), none]) (st' := []) (h' := h) 8 rfl ?_
    refine tv_if (fun c151 => ?_) (fun c151 => ?_)
    · refine tv_b (pc' := 159) (ls' := [some (.int 25), some (.long x), none, some (.long y), none]) (st' := [.long 0]) (h' := h) 1 rfl ?_
      exact tv_rl rfl ⟨(congrArg (fun z => some (Value.long z)) (show twR 25 x y = _ by unfold twR; simp only []; rw [if_pos c151])).symm, rfl⟩
    · refine tv_b (pc' := 159) (ls' := [some (.int 25), some (.long x), none, some (.long y), none]) (st' := [.long 1]) (h' := h) 2 rfl ?_
      exact tv_rl rfl ⟨(congrArg (fun z => some (Value.long z)) (show twR 25 x y = _ by unfold twR; simp only []; rw [if_neg c151])).symm, rfl⟩
