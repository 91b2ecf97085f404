/-! ONE STEP: the instructions put together -/
theorem am_no {x : am_R} (h : (none : Option am_R) = some x) : False := by cases h
theorem am_x21 {x : Nat} (h1 : am_B < x) (h2 : x < am_B + 22) : x - am_B - 1 < 21 := by
  have e0 : am_B = 1000000 := rfl
  omega
theorem am_la2 {ls : am_L} {k n pc : Nat} {st : List Value} {h : am_H} : True := trivial
section AMV
variable {p : Program} {l : Launch} {e : Env} {R : Room} {s : State} {m : MethodId} {args : Array Value} {below : List Frame} {meth : Method} {c : Code} {Qz : State → Prop}
variable {D : va_G} {cA : Nat → ClassId} {base b Ls : Nat} {adK adV : Nat → Nat} {xs : Nat → Int32} {n0 s0 : Nat}
variable {pc pc' : Nat} {ls ls' : am_L} {st st' : List Value} {h h' : am_H} {mi : Nat} {i : Instr} {len : Nat} {ops : List Nat} {v : Value}
set_option maxHeartbeats 4000000 in
theorem am_s1 (C : am_Cx p s m args meth c mi) (hK : am_K D cA s) (hX : am_X base b Ls xs adK adV s s.heap) (hsz : base ≤ s.heap.size) (hok : am_okE mi pc (i, len, ops, v) = true) (h1 : am_1 i ops v pc ls st h = some (pc', ls', st', h'))
    (hn0 : n0 ≤ h.1) (hs0 : s0 ≤ h.2.1) (hrc : h'.1 - n0 ≤ R.cells) (hrs : h'.2.1 - s0 ≤ R.slots) (hmx : h'.1 ≤ am_B) (hm0 : h.1 ≤ am_B)
    (k : am_St p l e R s m args below meth c Qz D cA base (am_ad base b adK) Ls xs n0 s0 pc' ls' st' h') : am_St p l e R s m args below meth c Qz D cA base (am_ad base b adK) Ls xs n0 s0 pc ls st h := by
  obtain ⟨hx, hb, hml, hown, hts, hin⟩ := C
  unfold am_okE at hok
  generalize am_mi mi = M at hb hml hown hin hok
  obtain ⟨own, y, cc, ml, rt, en⟩ := M
  simp only [Bool.and_eq_true, decide_eq_true_eq] at hok
  obtain ⟨⟨hdec, -⟩, hok1⟩ := hok
  have had : ∀ j : Nat, am_rn j < h.1 → am_ad base b adK j = base + am_rn j := fun j hj => am_ad_lt (by omega)
  have had2 : ∀ n : Nat, n ≤ am_B → ∀ j : Nat, am_rn j < n → am_ad base b adK j = base + am_rn j := fun n hn j hj => am_ad_lt (by omega)
  have hab : am_ad base b adK am_B = b := by
    unfold am_ad
    rw [if_neg (Nat.lt_irrefl _), if_pos rfl]
  have hsz2 : b < s.heap.size := Nat.lt_of_lt_of_le hX.1.2 hsz
  cases i
  case iadd =>
    obtain rfl : len = 1 := beq_iff_eq.mp (show (len == 1) = true from hok1)
    exact am_s_ii (fun _ _ _ _ _ _ _ _ k => lv_iadd hx hb hdec k) h1 k
  case isub =>
    obtain rfl : len = 1 := beq_iff_eq.mp (show (len == 1) = true from hok1)
    exact am_s_ii (fun _ _ _ _ _ _ _ _ k => lv_isub hx hb hdec k) h1 k
  case imul =>
    obtain rfl : len = 1 := beq_iff_eq.mp (show (len == 1) = true from hok1)
    exact am_s_ii (fun _ _ _ _ _ _ _ _ k => lv_imul hx hb hdec k) h1 k
  case iand =>
    obtain rfl : len = 1 := beq_iff_eq.mp (show (len == 1) = true from hok1)
    exact am_s_ii (fun _ _ _ _ _ _ _ _ k => lv_iand hx hb hdec k) h1 k
  case ior =>
    obtain rfl : len = 1 := beq_iff_eq.mp (show (len == 1) = true from hok1)
    exact am_s_ii (fun _ _ _ _ _ _ _ _ k => lv_ior hx hb hdec k) h1 k
  case ixor =>
    obtain rfl : len = 1 := beq_iff_eq.mp (show (len == 1) = true from hok1)
    exact am_s_ii (fun _ _ _ _ _ _ _ _ k => lv_ixor hx hb hdec k) h1 k
  case ishl =>
    obtain rfl : len = 1 := beq_iff_eq.mp (show (len == 1) = true from hok1)
    exact am_s_ii (fun _ _ _ _ _ _ _ _ k => lv_ishl hx hb hdec k) h1 k
  case ishr =>
    obtain rfl : len = 1 := beq_iff_eq.mp (show (len == 1) = true from hok1)
    exact am_s_ii (fun _ _ _ _ _ _ _ _ k => lv_ishr hx hb hdec k) h1 k
  case ladd =>
    obtain rfl : len = 1 := beq_iff_eq.mp (show (len == 1) = true from hok1)
    exact am_s_ll (fun _ _ _ _ _ _ _ _ k => lv_ladd hx hb hdec k) h1 k
  case lsub =>
    obtain rfl : len = 1 := beq_iff_eq.mp (show (len == 1) = true from hok1)
    exact am_s_ll (fun _ _ _ _ _ _ _ _ k => lv_lsub hx hb hdec k) h1 k
  case lmul =>
    obtain rfl : len = 1 := beq_iff_eq.mp (show (len == 1) = true from hok1)
    exact am_s_ll (fun _ _ _ _ _ _ _ _ k => lv_lmul hx hb hdec k) h1 k
  case land =>
    obtain rfl : len = 1 := beq_iff_eq.mp (show (len == 1) = true from hok1)
    exact am_s_ll (fun _ _ _ _ _ _ _ _ k => lv_land hx hb hdec k) h1 k
  case lor =>
    obtain rfl : len = 1 := beq_iff_eq.mp (show (len == 1) = true from hok1)
    exact am_s_ll (fun _ _ _ _ _ _ _ _ k => lv_lor hx hb hdec k) h1 k
  case lxor =>
    obtain rfl : len = 1 := beq_iff_eq.mp (show (len == 1) = true from hok1)
    exact am_s_ll (fun _ _ _ _ _ _ _ _ k => lv_lxor hx hb hdec k) h1 k
  case iload_n z =>
    obtain rfl : len = 1 := beq_iff_eq.mp (show (len == 1) = true from hok1)
    exact am_s_li (kx := z) (n := 1) (fun _ _ _ _ _ _ _ hl k => lv_iload_n hx hb hdec rfl hl k) h1 k
  case iload z =>
    obtain rfl : len = 2 := beq_iff_eq.mp (show (len == 2) = true from hok1)
    exact am_s_li (kx := z) (n := 2) (fun _ _ _ _ _ _ _ hl k => lv_iload hx hb hdec hl k) h1 k
  case lload_n z =>
    obtain rfl : len = 1 := beq_iff_eq.mp (show (len == 1) = true from hok1)
    exact am_s_lj (kx := z) (n := 1) (fun _ _ _ _ _ _ _ hl k => lv_lload_n hx hb hdec rfl hl k) h1 k
  case lload z =>
    obtain rfl : len = 2 := beq_iff_eq.mp (show (len == 2) = true from hok1)
    exact am_s_lj (kx := z) (n := 2) (fun _ _ _ _ _ _ _ hl k => lv_lload hx hb hdec hl k) h1 k
  case aload_n z =>
    obtain rfl : len = 1 := beq_iff_eq.mp (show (len == 1) = true from hok1)
    exact am_s_la (kx := z) (n := 1) (fun _ _ _ _ _ _ _ hl k => lv_aload_n hx hb hdec rfl hl k) (fun _ _ _ _ _ _ hl k => lv_aload_nN hx hb hdec rfl hl k) h1 k
  case aload z =>
    obtain rfl : len = 2 := beq_iff_eq.mp (show (len == 2) = true from hok1)
    exact am_s_la (kx := z) (n := 2) (fun _ _ _ _ _ _ _ hl k => lv_aload hx hb hdec hl k) (fun _ _ _ _ _ _ hl k => lv_aloadN hx hb hdec hl k) h1 k
  case istore_n z =>
    obtain rfl : len = 1 := beq_iff_eq.mp (show (len == 1) = true from hok1)
    exact am_s_si (kx := z) (n := 1) (fun _ _ _ _ _ _ _ _ _ hl hn k => lv_istore_n hx hb hdec rfl hl hn rfl k) h1 k
  case istore z =>
    obtain rfl : len = 2 := beq_iff_eq.mp (show (len == 2) = true from hok1)
    exact am_s_si (kx := z) (n := 2) (fun _ _ _ _ _ _ _ _ _ hl hn k => lv_istore hx hb hdec hl hn rfl k) h1 k
  case lstore_n z =>
    obtain rfl : len = 1 := beq_iff_eq.mp (show (len == 1) = true from hok1)
    exact am_s_sj (kx := z) (n := 1) (fun _ _ _ _ _ _ _ _ _ hl hn k => lv_lstore_n hx hb hdec rfl hl hn rfl k) h1 k
  case lstore z =>
    obtain rfl : len = 2 := beq_iff_eq.mp (show (len == 2) = true from hok1)
    exact am_s_sj (kx := z) (n := 2) (fun _ _ _ _ _ _ _ _ _ hl hn k => lv_lstore hx hb hdec hl hn rfl k) h1 k
  case astore_n z =>
    obtain rfl : len = 1 := beq_iff_eq.mp (show (len == 1) = true from hok1)
    exact am_s_sa (kx := z) (n := 1) (fun _ _ _ _ _ _ _ _ _ hl hn k => lv_astore_n hx hb hdec rfl hl hn rfl k) (fun _ _ _ _ _ _ _ _ hl hn k => lv_astore_nN hx hb hdec rfl hl hn rfl k) h1 k
  case astore z =>
    obtain rfl : len = 2 := beq_iff_eq.mp (show (len == 2) = true from hok1)
    exact am_s_sa (kx := z) (n := 2) (fun _ _ _ _ _ _ _ _ _ hl hn k => lv_astore hx hb hdec hl hn rfl k) (fun _ _ _ _ _ _ _ _ hl hn k => lv_astoreN hx hb hdec hl hn rfl k) h1 k
  case iconst z =>
    simp only [am_ok1, Bool.and_eq_true, beq_iff_eq, decide_eq_true_eq] at hok1
    obtain ⟨rfl, rfl⟩ := hok1
    obtain ⟨rfl, rfl, rfl, rfl⟩ := am_inj h1
    intro H locs lsC hH hP hS hl
    exact lv_iconst hx hb hdec rfl (k H locs lsC hH hP hS hl)
  case bipush z =>
    simp only [am_ok1, Bool.and_eq_true, beq_iff_eq, decide_eq_true_eq] at hok1
    obtain ⟨rfl, rfl⟩ := hok1
    obtain ⟨rfl, rfl, rfl, rfl⟩ := am_inj h1
    intro H locs lsC hH hP hS hl
    exact lv_bipush hx hb hdec rfl (k H locs lsC hH hP hS hl)
  case sipush z =>
    simp only [am_ok1, Bool.and_eq_true, beq_iff_eq, decide_eq_true_eq] at hok1
    obtain ⟨rfl, rfl⟩ := hok1
    obtain ⟨rfl, rfl, rfl, rfl⟩ := am_inj h1
    intro H locs lsC hH hP hS hl
    exact lv_sipush hx hb hdec rfl (k H locs lsC hH hP hS hl)
  case lconst z =>
    simp only [am_ok1, Bool.and_eq_true, beq_iff_eq, decide_eq_true_eq] at hok1
    obtain ⟨rfl, rfl⟩ := hok1
    obtain ⟨rfl, rfl, rfl, rfl⟩ := am_inj h1
    intro H locs lsC hH hP hS hl
    exact lv_lconst hx hb hdec rfl (k H locs lsC hH hP hS hl)
  case aconst_null =>
    obtain rfl : len = 1 := beq_iff_eq.mp (show (len == 1) = true from hok1)
    obtain ⟨rfl, rfl, rfl, rfl⟩ := am_inj h1
    intro H locs lsC hH hP hS hl
    exact lv_null hx hb hdec (k H locs lsC hH hP hS hl)
  case ldc z =>
    simp only [am_ok1, Bool.and_eq_true, beq_iff_eq] at hok1
    obtain ⟨rfl, hm⟩ := hok1
    rcases ops with _ | ⟨w, tl⟩
    · cases hm
    cases v with
    | int x =>
      obtain ⟨rfl, rfl, rfl, rfl⟩ := am_inj h1
      intro H locs lsC hH hP hS hl
      exact lv_ldc hx hb hown (am_wd_hts hts hm) hdec (k H locs lsC hH hP hS hl)
    | ref x =>
      have e4 := am_inj h1
      simp only [Bool.and_eq_true, decide_eq_true_eq] at hm
      obtain ⟨⟨⟨⟨q1, q2⟩, rfl⟩, q3⟩, q4⟩ := hm
      have e0 : am_B = 1000000 := rfl
      have q2b := Nat.lt_of_lt_of_le (m := am_B + 22) q2 (Nat.le_refl _)
      have hi := am_x21 q1 q2
      have hR := hX.2.2.1 (x - am_B - 1) hi
      rw [e4.1, e4.2.1, e4.2.2.1, e4.2.2.2] at k
      intro H locs lsC hH hP hS hl
      have k2 := k H locs lsC hH hP hS hl
      have e9 : am_ad base b adK x = adK (x - am_B - 1) := by
        unfold am_ad
        rw [if_neg (by omega), if_neg (by omega)]
      have k3 : W p l e R s m args below meth c H locs (h.1 - n0) (h.2.1 - s0) Qz (F0 m (pc + 2) lsC (.ref (adK (x - am_B - 1)) :: st.map (am_cv (am_ad base b adK)))) := by
        rw [← e9]
        exact k2
      rw [q4] at hdec
      exact va_ldcS hx hb hown hR hdec k3
    | _ => cases hm
  case ldc_w z =>
    simp only [am_ok1, Bool.and_eq_true, beq_iff_eq] at hok1
    obtain ⟨rfl, hm⟩ := hok1
    obtain ⟨rfl, rfl, rfl, rfl⟩ := am_inj h1
    intro H locs lsC hH hP hS hl
    split at hm
    · exact lv_ldcw hx hb hown (am_wd_hts hts hm) hdec (k H locs lsC hH hP hS hl)
    · cases hm
  case ldc2_w z =>
    simp only [am_ok1, Bool.and_eq_true, beq_iff_eq] at hok1
    obtain ⟨rfl, hm⟩ := hok1
    obtain ⟨rfl, rfl, rfl, rfl⟩ := am_inj h1
    intro H locs lsC hH hP hS hl
    split at hm
    · exact lv_ldc2 hx hb hown (am_wd_hts hts hm) hdec (k H locs lsC hH hP hS hl)
    · cases hm
  case iinc z n =>
    obtain rfl : len = 3 := beq_iff_eq.mp (show (len == 3) = true from hok1)
    have h2 : (match am_lget ls z with
      | some (.int x) => if z < ls.length then some (pc + 3, am_lset1 ls z (.int (x + Int32.ofInt n)), st, h) else none
      | _ => none) = some (pc', ls', st', h') := h1
    split at h2
    · rename_i x hg
      split at h2
      · rename_i hlt
        obtain ⟨rfl, rfl, rfl, rfl⟩ := am_inj h2
        intro H locs lsC hH hP hS hl
        obtain ⟨q, hq⟩ := List.getElem?_of_mem (am_prs_mem (ad := am_ad base b adK) hg)
        exact lv_iinc hx hb hdec hl.has hq rfl hlt rfl (fun lsD hD => k H locs lsD hH hP hS (hl.set1 (v := .int _) hD))
      · cases h2
    · cases h2
  case i2l =>
    obtain rfl : len = 1 := beq_iff_eq.mp (show (len == 1) = true from hok1)
    rcases st with _ | ⟨x0, st⟩
    · exact (am_no h1).elim
    cases x0 <;> first | exact (am_no h1).elim | skip
    rename_i x0
    obtain ⟨rfl, rfl, rfl, rfl⟩ := am_inj h1
    intro H locs lsC hH hP hS hl
    exact lv_i2l hx hb hdec rfl (k H locs lsC hH hP hS hl)
  case l2i =>
    obtain rfl : len = 1 := beq_iff_eq.mp (show (len == 1) = true from hok1)
    rcases st with _ | ⟨x0, st⟩
    · exact (am_no h1).elim
    cases x0 <;> first | exact (am_no h1).elim | skip
    rename_i x0
    obtain ⟨rfl, rfl, rfl, rfl⟩ := am_inj h1
    intro H locs lsC hH hP hS hl
    exact lv_l2i hx hb hdec rfl (k H locs lsC hH hP hS hl)
  case i2b =>
    obtain rfl : len = 1 := beq_iff_eq.mp (show (len == 1) = true from hok1)
    rcases st with _ | ⟨x0, st⟩
    · exact (am_no h1).elim
    cases x0 <;> first | exact (am_no h1).elim | skip
    rename_i x0
    obtain ⟨rfl, rfl, rfl, rfl⟩ := am_inj h1
    intro H locs lsC hH hP hS hl
    exact lv_i2b hx hb hdec rfl (k H locs lsC hH hP hS hl)
  case lneg =>
    obtain rfl : len = 1 := beq_iff_eq.mp (show (len == 1) = true from hok1)
    rcases st with _ | ⟨x0, st⟩
    · exact (am_no h1).elim
    cases x0 <;> first | exact (am_no h1).elim | skip
    rename_i x0
    obtain ⟨rfl, rfl, rfl, rfl⟩ := am_inj h1
    intro H locs lsC hH hP hS hl
    exact lv_lneg hx hb hdec (k H locs lsC hH hP hS hl)
  case lcmp =>
    obtain rfl : len = 1 := beq_iff_eq.mp (show (len == 1) = true from hok1)
    rcases st with _ | ⟨y, _ | ⟨x, r⟩⟩
    · exact (am_no h1).elim
    · exact (am_no (by cases y <;> exact h1)).elim
    cases y <;> cases x <;> first | exact (am_no h1).elim | skip
    rename_i y x
    obtain ⟨rfl, rfl, rfl, rfl⟩ := am_inj h1
    intro H locs lsC hH hP hS hl
    exact W.lcmp hx hb hdec (k H locs lsC hH hP hS hl)
  case lshl =>
    obtain rfl : len = 1 := beq_iff_eq.mp (show (len == 1) = true from hok1)
    rcases st with _ | ⟨y, _ | ⟨x, r⟩⟩
    · exact (am_no h1).elim
    · exact (am_no (by cases y <;> exact h1)).elim
    cases y <;> cases x <;> first | exact (am_no h1).elim | skip
    rename_i y x
    obtain ⟨rfl, rfl, rfl, rfl⟩ := am_inj h1
    intro H locs lsC hH hP hS hl
    exact lv_lshl hx hb hdec rfl (k H locs lsC hH hP hS hl)
  case idiv =>
    obtain rfl : len = 1 := beq_iff_eq.mp (show (len == 1) = true from hok1)
    rcases st with _ | ⟨y, _ | ⟨x, r⟩⟩
    · exact (am_no h1).elim
    · exact (am_no (by cases y <;> exact h1)).elim
    cases y <;> cases x <;> first | exact (am_no h1).elim | skip
    rename_i y x
    have h2 : (if y = 0 then none else some (pc + 1, ls, Value.int (x / y) :: r, h)) = some (pc', ls', st', h') := h1
    split at h2
    · cases h2
    · rename_i hne
      obtain ⟨rfl, rfl, rfl, rfl⟩ := am_inj h2
      intro H locs lsC hH hP hS hl
      exact lv_idiv hx hb hdec hne (k H locs lsC hH hP hS hl)
  case irem =>
    obtain rfl : len = 1 := beq_iff_eq.mp (show (len == 1) = true from hok1)
    rcases st with _ | ⟨y, _ | ⟨x, r⟩⟩
    · exact (am_no h1).elim
    · exact (am_no (by cases y <;> exact h1)).elim
    cases y <;> cases x <;> first | exact (am_no h1).elim | skip
    rename_i y x
    have h2 : (if y = 0 then none else some (pc + 1, ls, Value.int (x - x / y * y) :: r, h)) = some (pc', ls', st', h') := h1
    split at h2
    · cases h2
    · rename_i hne
      obtain ⟨rfl, rfl, rfl, rfl⟩ := am_inj h2
      intro H locs lsC hH hP hS hl
      exact lv_irem hx hb hdec hne (k H locs lsC hH hP hS hl)
  case ldiv =>
    obtain rfl : len = 1 := beq_iff_eq.mp (show (len == 1) = true from hok1)
    rcases st with _ | ⟨y, _ | ⟨x, r⟩⟩
    · exact (am_no h1).elim
    · exact (am_no (by cases y <;> exact h1)).elim
    cases y <;> cases x <;> first | exact (am_no h1).elim | skip
    rename_i y x
    have h2 : (if y = 0 then none else some (pc + 1, ls, Value.long (x / y) :: r, h)) = some (pc', ls', st', h') := h1
    split at h2
    · cases h2
    · rename_i hne
      obtain ⟨rfl, rfl, rfl, rfl⟩ := am_inj h2
      intro H locs lsC hH hP hS hl
      exact lv_ldiv hx hb hdec hne (k H locs lsC hH hP hS hl)
  case lrem =>
    obtain rfl : len = 1 := beq_iff_eq.mp (show (len == 1) = true from hok1)
    rcases st with _ | ⟨y, _ | ⟨x, r⟩⟩
    · exact (am_no h1).elim
    · exact (am_no (by cases y <;> exact h1)).elim
    cases y <;> cases x <;> first | exact (am_no h1).elim | skip
    rename_i y x
    have h2 : (if y = 0 then none else some (pc + 1, ls, Value.long (x - x / y * y) :: r, h)) = some (pc', ls', st', h') := h1
    split at h2
    · cases h2
    · rename_i hne
      obtain ⟨rfl, rfl, rfl, rfl⟩ := am_inj h2
      intro H locs lsC hH hP hS hl
      exact lv_lrem hx hb hdec hne (k H locs lsC hH hP hS hl)
  case dup =>
    obtain rfl : len = 1 := beq_iff_eq.mp (show (len == 1) = true from hok1)
    rcases st with _ | ⟨x, r⟩
    · exact (am_no h1).elim
    have h2 : (if x.category = 1 then some (pc + 1, ls, x :: x :: r, h) else none) = some (pc', ls', st', h') := h1
    split at h2
    · rename_i hc
      obtain ⟨rfl, rfl, rfl, rfl⟩ := am_inj h2
      intro H locs lsC hH hP hS hl
      exact lv_dup hx hb hdec (by rw [am_cat_cv]; exact hc) (k H locs lsC hH hP hS hl)
    · cases h2
  case pop =>
    obtain rfl : len = 1 := beq_iff_eq.mp (show (len == 1) = true from hok1)
    rcases st with _ | ⟨x, r⟩
    · exact (am_no h1).elim
    have h2 : (if x.category = 1 then some (pc + 1, ls, r, h) else none) = some (pc', ls', st', h') := h1
    split at h2
    · rename_i hc
      obtain ⟨rfl, rfl, rfl, rfl⟩ := am_inj h2
      intro H locs lsC hH hP hS hl
      exact lv_pop hx hb hdec (by rw [am_cat_cv]; exact hc) (k H locs lsC hH hP hS hl)
    · cases h2
  case dup2 =>
    obtain rfl : len = 1 := beq_iff_eq.mp (show (len == 1) = true from hok1)
    simp only [am_1] at h1
    split at h1
    · obtain ⟨rfl, rfl, rfl, rfl⟩ := am_inj h1
      intro H locs lsC hH hP hS hl
      exact lv_dup2_2 hx hb hdec rfl (k H locs lsC hH hP hS hl)
    · split at h1
      · rename_i hc
        obtain ⟨rfl, rfl, rfl, rfl⟩ := am_inj h1
        intro H locs lsC hH hP hS hl
        exact lv_dup2_11 hx hb hdec (by rw [am_cat_cv]; exact hc.1) (by rw [am_cat_cv]; exact hc.2) (k H locs lsC hH hP hS hl)
      · cases h1
    · cases h1
  case goto off =>
    simp only [am_ok1, Bool.and_eq_true, beq_iff_eq] at hok1
    obtain ⟨rfl, hm⟩ := hok1
    rcases ops with _ | ⟨t, tl⟩
    · exact (am_no h1).elim
    obtain ⟨rfl, rfl, rfl, rfl⟩ := am_inj h1
    intro H locs lsC hH hP hS hl
    exact lv_goto hx hb hdec (am_tgt_of hm) (k H locs lsC hH hP hS hl)
  case ifCond cd off =>
    simp only [am_ok1, Bool.and_eq_true, beq_iff_eq] at hok1
    obtain ⟨rfl, hm⟩ := hok1
    rcases ops with _ | ⟨t, tl⟩
    · exact (am_no h1).elim
    rcases st with _ | ⟨x, r⟩
    · exact (am_no h1).elim
    cases x <;> first | exact (am_no h1).elim | skip
    obtain ⟨rfl, rfl, rfl, rfl⟩ := am_inj h1
    exact am_s_if hx hb hdec (am_tgt_of hm) k
  case if_icmp cd off =>
    simp only [am_ok1, Bool.and_eq_true, beq_iff_eq] at hok1
    obtain ⟨rfl, hm⟩ := hok1
    rcases ops with _ | ⟨t, tl⟩
    · exact (am_no h1).elim
    rcases st with _ | ⟨y, _ | ⟨x, r⟩⟩
    · exact (am_no h1).elim
    · exact (am_no (by cases y <;> exact h1)).elim
    cases y <;> cases x <;> first | exact (am_no h1).elim | skip
    obtain ⟨rfl, rfl, rfl, rfl⟩ := am_inj h1
    exact am_s_ic hx hb hdec (am_tgt_of hm) k
  case ifnull off =>
    simp only [am_ok1, Bool.and_eq_true, beq_iff_eq] at hok1
    obtain ⟨rfl, hm⟩ := hok1
    rcases ops with _ | ⟨t, tl⟩
    · exact (am_no h1).elim
    rcases st with _ | ⟨x, r⟩
    · exact (am_no h1).elim
    cases x <;> first | exact (am_no h1).elim | skip
    · have e4 := am_inj h1
      rw [e4.1, e4.2.1, e4.2.2.1, e4.2.2.2] at k
      intro H locs lsC hH hP hS hl
      exact lv_ifnullN hx hb hdec (am_tgt_of hm) (k H locs lsC hH hP hS hl)
    · have e4 := am_inj h1
      rw [e4.1, e4.2.1, e4.2.2.1, e4.2.2.2] at k
      intro H locs lsC hH hP hS hl
      exact lv_ifnull hx hb hdec (k H locs lsC hH hP hS hl)
  case ifnonnull off =>
    simp only [am_ok1, Bool.and_eq_true, beq_iff_eq] at hok1
    obtain ⟨rfl, hm⟩ := hok1
    rcases ops with _ | ⟨t, tl⟩
    · exact (am_no h1).elim
    rcases st with _ | ⟨x, r⟩
    · exact (am_no h1).elim
    cases x <;> first | exact (am_no h1).elim | skip
    · have e4 := am_inj h1
      rw [e4.1, e4.2.1, e4.2.2.1, e4.2.2.2] at k
      intro H locs lsC hH hP hS hl
      exact lv_ifnonnullN hx hb hdec (k H locs lsC hH hP hS hl)
    · have e4 := am_inj h1
      rw [e4.1, e4.2.1, e4.2.2.1, e4.2.2.2] at k
      intro H locs lsC hH hP hS hl
      exact lv_ifnonnull hx hb hdec (am_tgt_of hm) (k H locs lsC hH hP hS hl)
  case tableswitch dd lo hi offs =>
    rcases ops with _ | ⟨t, ts⟩
    · exact (am_no h1).elim
    simp only [am_ok1, Bool.and_eq_true, decide_eq_true_eq] at hok1
    obtain ⟨⟨⟨hd, -⟩, hn⟩, ha⟩ := hok1
    rcases st with _ | ⟨x, r⟩
    · exact (am_no h1).elim
    cases x <;> first | exact (am_no h1).elim | skip
    obtain ⟨rfl, rfl, rfl, rfl⟩ := am_inj h1
    exact am_s_tsw hx hb hdec hd hn ha k
  case lookupswitch dd pp =>
    rcases ops with _ | ⟨t, ts⟩
    · exact (am_no h1).elim
    simp only [am_ok1, Bool.and_eq_true, decide_eq_true_eq] at hok1
    obtain ⟨⟨⟨hd, hn⟩, ha⟩, hi⟩ := hok1
    rcases st with _ | ⟨x, r⟩
    · exact (am_no h1).elim
    cases x <;> first | exact (am_no h1).elim | skip
    obtain ⟨rfl, rfl, rfl, rfl⟩ := am_inj h1
    exact am_s_lsw hx hb hdec hd hn ha hi k
  case getfield ix =>
    simp only [am_ok1, Bool.and_eq_true, beq_iff_eq] at hok1
    obtain ⟨rfl, hm⟩ := hok1
    rcases ops with _ | ⟨ci, _ | ⟨kk, _ | ⟨kd, _ | ⟨ne, _ | ⟨w, tl⟩⟩⟩⟩⟩
    · cases hm
    · cases hm
    · cases hm
    · cases hm
    · cases hm
    rcases st with _ | ⟨x, r⟩
    · exact (am_no h1).elim
    cases x <;> first | exact (am_no h1).elim | skip
    rename_i a
    simp only [Bool.and_eq_true, decide_eq_true_eq] at hm
    obtain ⟨⟨⟨hci, hk⟩, hkd⟩, hm⟩ := hm
    have h2 : (if (h.2.2.1 a).1 = ci then some (pc + 3, ls, am_get kd a kk h :: r, h) else none) = some (pc', ls', st', h') := h1
    split at h2
    · rename_i ha
      obtain ⟨rfl, rfl, rfl, rfl⟩ := am_inj h2
      refine am_s_gf hx hb hown hts hK hci hk hkd ?_ hdec ha k
      split at hm
      · exact Or.inl (am_wd_hts hts hm)
      · exact Or.inr (am_wd_hts hts hm)
    · cases h2
  case putfield ix =>
    simp only [am_ok1, Bool.and_eq_true, beq_iff_eq] at hok1
    obtain ⟨rfl, hm⟩ := hok1
    rcases ops with _ | ⟨ci, _ | ⟨kk, _ | ⟨kd, _ | ⟨ne, _ | ⟨w, _ | ⟨fi, tl⟩⟩⟩⟩⟩⟩
    · cases hm
    · cases hm
    · cases hm
    · cases hm
    · cases hm
    · cases hm
    rcases st with _ | ⟨x, _ | ⟨z, r⟩⟩
    · exact (am_no h1).elim
    · exact (am_no (by cases x <;> exact h1)).elim
    cases z <;> first | exact (am_no h1).elim | skip
    rename_i a
    simp only [Bool.and_eq_true, decide_eq_true_eq] at hm
    obtain ⟨⟨⟨hci, hk⟩, hkd⟩, hm⟩ := hm
    have h2 : (if (h.2.2.1 a).1 = ci then (match am_put kd a kk x h with
      | some h9 => some (pc + 3, ls, r, h9)
      | none => none) else none) = some (pc', ls', st', h') := h1
    split at h2
    · rename_i ha
      cases hp : am_put kd a kk x h with
      | none =>
        rw [hp] at h2
        cases h2
      | some h9 =>
        rw [hp] at h2
        obtain ⟨rfl, rfl, rfl, rfl⟩ := am_inj h2
        refine am_s_pf hx hb hown hts hK hci hk hkd had ?_ hdec ha hp k
        split at hm
        · simp only [Bool.and_eq_true, decide_eq_true_eq] at hm
          exact Or.inl ⟨am_wd_hts hts hm.1, hm.2⟩
        · simp only [Bool.and_eq_true, decide_eq_true_eq] at hm
          exact Or.inr (Or.inl ⟨am_wd_hts hts hm.1.1.1, hm.1.1.2, hin hm.1.2, hm.2⟩)
        · simp only [Bool.and_eq_true, decide_eq_true_eq] at hm
          exact Or.inr (Or.inr ⟨am_wd_hts hts hm.1, hm.2⟩)
    · cases h2
  case new ix =>
    simp only [am_ok1, Bool.and_eq_true, beq_iff_eq] at hok1
    obtain ⟨rfl, hm⟩ := hok1
    rcases ops with _ | ⟨ci, _ | ⟨w1, _ | ⟨w2, _ | ⟨w3, tl⟩⟩⟩⟩
    · cases hm
    · cases hm
    · cases hm
    · cases hm
    simp only [Bool.and_eq_true, decide_eq_true_eq] at hm
    obtain ⟨⟨⟨hci, q1⟩, q2⟩, q3⟩ := hm
    obtain ⟨rfl, rfl, rfl, rfl⟩ := am_inj h1
    obtain ⟨n, sl, K, I, L, Q⟩ := h
    exact am_s_new hx hb hown hts hK hci (had2 _ hmx) (am_wd_hts hts q1) (am_wd_hts hts q2) (am_wd_hts hts q3) hn0 hs0 hrc hrs hdec k
  case newarray at9 =>
    simp only [am_ok1, Bool.and_eq_true, beq_iff_eq] at hok1
    obtain ⟨rfl, hm⟩ := hok1
    rcases ops with _ | ⟨t, _ | ⟨w, tl⟩⟩
    · cases hm
    · cases hm
    rcases st with _ | ⟨x, r⟩
    · exact (am_no h1).elim
    cases x <;> first | exact (am_no h1).elim | skip
    rename_i x
    simp only [Bool.and_eq_true, decide_eq_true_eq] at hm
    obtain ⟨⟨⟨t1, t2⟩, hty⟩, q1⟩ := hm
    have h2 : (if x < 0 ∨ 200000 < x.toNatClampNeg then none else some (pc + 2, ls, Value.ref (am_nr h.1) :: r, am_al t x.toNatClampNeg x.toNatClampNeg h)) = some (pc', ls', st', h') := h1
    split at h2
    · cases h2
    · rename_i hlim
      obtain ⟨rfl, rfl, rfl, rfl⟩ := am_inj h2
      obtain ⟨n, sl, K, I, L, Q⟩ := h
      exact am_s_na hx hb hK ⟨t1, t2⟩ hty (had2 _ hmx) (am_wd_hts hts q1) hn0 hs0 hrc hrs hlim hdec k
  case anewarray ix =>
    simp only [am_ok1, Bool.and_eq_true, beq_iff_eq] at hok1
    obtain ⟨rfl, hm⟩ := hok1
    rcases ops with _ | ⟨t, _ | ⟨w, tl⟩⟩
    · cases hm
    · cases hm
    rcases st with _ | ⟨x, r⟩
    · exact (am_no h1).elim
    cases x <;> first | exact (am_no h1).elim | skip
    rename_i x
    simp only [Bool.and_eq_true, decide_eq_true_eq] at hm
    obtain ⟨rfl, q1⟩ := hm
    have h2 : (if x < 0 ∨ 200000 < x.toNatClampNeg then none else some (pc + 3, ls, Value.ref (am_nr h.1) :: r, am_al 24 x.toNatClampNeg x.toNatClampNeg h)) = some (pc', ls', st', h') := h1
    split at h2
    · cases h2
    · rename_i hlim
      obtain ⟨rfl, rfl, rfl, rfl⟩ := am_inj h2
      obtain ⟨n, sl, K, I, L, Q⟩ := h
      exact am_s_naq hx hb hown hts hK (had2 _ hmx) (am_wd_hts hts q1) hn0 hs0 hrc hrs hlim hdec k
  case multianewarray ix dm =>
    simp only [am_ok1, Bool.and_eq_true, beq_iff_eq, decide_eq_true_eq] at hok1
    obtain ⟨⟨rfl, rfl⟩, hm⟩ := hok1
    rcases ops with _ | ⟨t, tl⟩
    · exact (am_no h1).elim
    rcases st with _ | ⟨y, _ | ⟨x, r⟩⟩
    · exact (am_no h1).elim
    · exact (am_no (by cases y <;> exact h1)).elim
    cases y <;> cases x <;> first | exact (am_no h1).elim | skip
    rename_i y x
    have h2 : (if x < 0 ∨ 1000 < x.toNatClampNeg ∨ y < 0 ∨ 1000 < y.toNatClampNeg ∨ 58 < h.1 + x.toNatClampNeg then none else some (pc + 4, ls, Value.ref h.1 :: r, am_mal t x.toNatClampNeg y.toNatClampNeg h)) = some (pc', ls', st', h') := h1
    split at h2
    · cases h2
    · rename_i hlim
      obtain ⟨rfl, rfl, rfl, rfl⟩ := am_inj h2
      obtain ⟨n, sl, K, I, L, Q⟩ := h
      split at hm
      · rename_i e9
        cases e9
        exact am_s_mna (t := 25) (ty := .int) hx hb hown hts hK (Or.inl ⟨rfl, rfl⟩) (had2 _ hmx) (am_wd_hts hts hm) hn0 hs0 hrc hrs hlim hdec k
      · rename_i e9
        cases e9
        exact am_s_mna (t := 26) (ty := .long) hx hb hown hts hK (Or.inr ⟨rfl, rfl⟩) (had2 _ hmx) (am_wd_hts hts hm) hn0 hs0 hrc hrs hlim hdec k
      · cases hm
  case iaload =>
    obtain rfl : len = 1 := beq_iff_eq.mp (show (len == 1) = true from hok1)
    obtain ⟨n, sl, K, I, L, Q⟩ := h
    rcases st with _ | ⟨y, _ | ⟨x, r⟩⟩
    · exact (am_no h1).elim
    · exact (am_no (by cases y <;> exact h1)).elim
    cases y <;> cases x <;> first | exact (am_no h1).elim | skip
    rename_i i a
    have h2 : (if (K a).1 = 20 ∨ (K a).1 = 30 then (if i < 0 ∨ (K a).2 ≤ i.toNatClampNeg then none else some (pc + 1, ls, Value.int (I a i.toNatClampNeg) :: r, (n, sl, K, I, L, Q))) else none) = some (pc', ls', st', h') := h1
    split at h2
    · rename_i ha
      split at h2
      · cases h2
      · rename_i hi
        obtain ⟨rfl, rfl, rfl, rfl⟩ := am_inj h2
        rcases ha with ha | ha
        · exact am_s_ial hx hb hK hdec ha hi k
        · exact am_s_ialX hx hb hX.1.1 hX.1.2 hsz2 hab hdec ha hi k
    · cases h2
  case baload =>
    obtain rfl : len = 1 := beq_iff_eq.mp (show (len == 1) = true from hok1)
    obtain ⟨n, sl, K, I, L, Q⟩ := h
    rcases st with _ | ⟨y, _ | ⟨x, r⟩⟩
    · exact (am_no h1).elim
    · exact (am_no (by cases y <;> exact h1)).elim
    cases y <;> cases x <;> first | exact (am_no h1).elim | skip
    rename_i i a
    have h2 : (if (K a).1 = 22 ∨ (K a).1 = 23 then (if i < 0 ∨ (K a).2 ≤ i.toNatClampNeg then none else some (pc + 1, ls, Value.int (I a i.toNatClampNeg) :: r, (n, sl, K, I, L, Q))) else none) = some (pc', ls', st', h') := h1
    split at h2
    · rename_i ha
      split at h2
      · cases h2
      · rename_i hi
        obtain ⟨rfl, rfl, rfl, rfl⟩ := am_inj h2
        exact am_s_bal hx hb hK hdec ha hi k
    · cases h2
  case laload =>
    obtain rfl : len = 1 := beq_iff_eq.mp (show (len == 1) = true from hok1)
    obtain ⟨n, sl, K, I, L, Q⟩ := h
    rcases st with _ | ⟨y, _ | ⟨x, r⟩⟩
    · exact (am_no h1).elim
    · exact (am_no (by cases y <;> exact h1)).elim
    cases y <;> cases x <;> first | exact (am_no h1).elim | skip
    rename_i i a
    have h2 : (if (K a).1 = 21 then (if i < 0 ∨ (K a).2 ≤ i.toNatClampNeg then none else some (pc + 1, ls, Value.long (L a i.toNatClampNeg) :: r, (n, sl, K, I, L, Q))) else none) = some (pc', ls', st', h') := h1
    split at h2
    · rename_i ha
      split at h2
      · cases h2
      · rename_i hi
        obtain ⟨rfl, rfl, rfl, rfl⟩ := am_inj h2
        exact am_s_lal hx hb hK hdec ha hi k
    · cases h2
  case aaload =>
    obtain rfl : len = 1 := beq_iff_eq.mp (show (len == 1) = true from hok1)
    obtain ⟨n, sl, K, I, L, Q⟩ := h
    rcases st with _ | ⟨y, _ | ⟨x, r⟩⟩
    · exact (am_no h1).elim
    · exact (am_no (by cases y <;> exact h1)).elim
    cases y <;> cases x <;> first | exact (am_no h1).elim | skip
    rename_i i a
    have h2 : (if (K a).1 = 24 ∨ (K a).1 = 25 ∨ (K a).1 = 26 then (if i < 0 ∨ (K a).2 ≤ i.toNatClampNeg then none else some (pc + 1, ls, va_rf (Q a i.toNatClampNeg) :: r, (n, sl, K, I, L, Q))) else none) = some (pc', ls', st', h') := h1
    split at h2
    · rename_i ha
      split at h2
      · cases h2
      · rename_i hi
        obtain ⟨rfl, rfl, rfl, rfl⟩ := am_inj h2
        exact am_s_aal hx hb hK hdec ha hi k
    · cases h2
  case iastore =>
    obtain rfl : len = 1 := beq_iff_eq.mp (show (len == 1) = true from hok1)
    obtain ⟨n, sl, K, I, L, Q⟩ := h
    rcases st with _ | ⟨z, _ | ⟨y, _ | ⟨x, r⟩⟩⟩
    · exact (am_no h1).elim
    · exact (am_no (by cases z <;> exact h1)).elim
    · exact (am_no (by cases z <;> cases y <;> exact h1)).elim
    cases z <;> first | exact (am_no h1).elim | skip
    cases y <;> first | exact (am_no h1).elim | skip
    cases x <;> first | exact (am_no h1).elim | skip
    rename_i x i a
    have h2 : (if (K a).1 = 20 then (if i < 0 ∨ (K a).2 ≤ i.toNatClampNeg then none else some (pc + 1, ls, r, (n, sl, K, va_up I a (upd (I a) i.toNatClampNeg x), L, Q))) else none) = some (pc', ls', st', h') := h1
    split at h2
    · rename_i ha
      split at h2
      · cases h2
      · rename_i hi
        obtain ⟨rfl, rfl, rfl, rfl⟩ := am_inj h2
        exact am_s_ias hx hb hK had hdec ha hi k
    · cases h2
  case lastore =>
    obtain rfl : len = 1 := beq_iff_eq.mp (show (len == 1) = true from hok1)
    obtain ⟨n, sl, K, I, L, Q⟩ := h
    rcases st with _ | ⟨z, _ | ⟨y, _ | ⟨x, r⟩⟩⟩
    · exact (am_no h1).elim
    · exact (am_no (by cases z <;> exact h1)).elim
    · exact (am_no (by cases z <;> cases y <;> exact h1)).elim
    cases z <;> first | exact (am_no h1).elim | skip
    cases y <;> first | exact (am_no h1).elim | skip
    cases x <;> first | exact (am_no h1).elim | skip
    rename_i x i a
    have h2 : (if (K a).1 = 21 then (if i < 0 ∨ (K a).2 ≤ i.toNatClampNeg then none else some (pc + 1, ls, r, (n, sl, K, I, va_up L a (vp_updL (L a) i.toNatClampNeg x), Q))) else none) = some (pc', ls', st', h') := h1
    split at h2
    · rename_i ha
      split at h2
      · cases h2
      · rename_i hi
        obtain ⟨rfl, rfl, rfl, rfl⟩ := am_inj h2
        exact am_s_las hx hb hK had hdec ha hi k
    · cases h2
  case aastore =>
    obtain rfl : len = 1 := beq_iff_eq.mp (show (len == 1) = true from hok1)
    obtain ⟨n, sl, K, I, L, Q⟩ := h
    rcases st with _ | ⟨z, _ | ⟨y, _ | ⟨x, r⟩⟩⟩
    · exact (am_no h1).elim
    · exact (am_no (by cases z <;> exact h1)).elim
    · exact (am_no (by cases z <;> cases y <;> exact h1)).elim
    cases z <;> first | exact (am_no h1).elim | skip
    cases y <;> first | exact (am_no h1).elim | skip
    cases x <;> first | exact (am_no h1).elim | skip
    rename_i x i a
    have h2 : (if (K a).1 = 24 ∧ (K x).1 = 0 then (if i < 0 ∨ (K a).2 ≤ i.toNatClampNeg then none else some (pc + 1, ls, r, (n, sl, K, I, L, va_up Q a (va_up (Q a) i.toNatClampNeg (some x))))) else none) = some (pc', ls', st', h') := h1
    split at h2
    · rename_i ha
      split at h2
      · cases h2
      · rename_i hi
        obtain ⟨rfl, rfl, rfl, rfl⟩ := am_inj h2
        exact am_s_aas hx hb hK had hdec ha.1 ha.2 hi k
    · cases h2
  case bastore =>
    obtain rfl : len = 1 := beq_iff_eq.mp (show (len == 1) = true from hok1)
    obtain ⟨n, sl, K, I, L, Q⟩ := h
    rcases st with _ | ⟨z, _ | ⟨y, _ | ⟨x, r⟩⟩⟩
    · exact (am_no h1).elim
    · exact (am_no (by cases z <;> exact h1)).elim
    · exact (am_no (by cases z <;> cases y <;> exact h1)).elim
    cases z <;> first | exact (am_no h1).elim | skip
    cases y <;> first | exact (am_no h1).elim | skip
    cases x <;> first | exact (am_no h1).elim | skip
    rename_i x i a
    have h2 : (if i < 0 ∨ (K a).2 ≤ i.toNatClampNeg then none else
      (if (K a).1 = 22 then some (pc + 1, ls, r, (n, sl, K, va_up I a (upd (I a) i.toNatClampNeg (vp_nar .byte x)), L, Q)) else
      if (K a).1 = 23 then some (pc + 1, ls, r, (n, sl, K, va_up I a (upd (I a) i.toNatClampNeg (vp_nar .boolean x)), L, Q)) else none)) = some (pc', ls', st', h') := h1
    split at h2
    · cases h2
    · rename_i hi
      split at h2
      · rename_i ha
        obtain ⟨rfl, rfl, rfl, rfl⟩ := am_inj h2
        exact am_s_bas (ty := .byte) hx hb hK had hdec ha (Or.inl ⟨rfl, rfl⟩) hi k
      · split at h2
        · rename_i ha
          obtain ⟨rfl, rfl, rfl, rfl⟩ := am_inj h2
          exact am_s_bas (ty := .boolean) hx hb hK had hdec ha (Or.inr ⟨rfl, rfl⟩) hi k
        · cases h2
  case arraylength =>
    obtain rfl : len = 1 := beq_iff_eq.mp (show (len == 1) = true from hok1)
    obtain ⟨n, sl, K, I, L, Q⟩ := h
    rcases st with _ | ⟨x, r⟩
    · exact (am_no h1).elim
    cases x <;> first | exact (am_no h1).elim | skip
    rename_i a
    have h2 : (if (20 ≤ (K a).1 ∧ (K a).1 ≤ 26) ∨ (K a).1 = 30 then some (pc + 1, ls, Value.int (Int32.ofNat (K a).2) :: r, (n, sl, K, I, L, Q)) else none) = some (pc', ls', st', h') := h1
    split at h2
    · rename_i ha
      obtain ⟨rfl, rfl, rfl, rfl⟩ := am_inj h2
      exact am_s_len hx hb hK hX.1.1 hX.1.2 hsz2 hab hdec ha k
    · cases h2
  all_goals exact (am_no h1).elim
end AMV
