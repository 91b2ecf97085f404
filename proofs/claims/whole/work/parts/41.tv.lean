/-! CONTRACTS IN THE ABSTRACT MACHINE: from here on the run ends with an answer and a store of which P holds -/
def am_T (d mi pc : Nat) (ls : am_L) (st : List Value) (h : am_H) (P : Option Value → am_H → Prop) : Prop := ∃ rv h', am_Ev d mi pc ls st h (rv, h') ∧ P rv h'
section TV
variable {d mi pc pc' mi2 pc2 d2 : Nat} {ls ls' ls2 : am_L} {st st' st2 : List Value} {h h' h1 h2 : am_H} {i : Instr} {len : Nat} {ops : List Nat} {v : Value} {rv : Option Value} {P Q : Option Value → am_H → Prop}
theorem tv_l (f : ∀ r, am_Ev d2 mi2 pc2 ls2 st2 h2 r → am_Ev d mi pc ls st h r) (k : am_T d2 mi2 pc2 ls2 st2 h2 P) : am_T d mi pc ls st h P := by
  obtain ⟨rv, h', e, p⟩ := k
  exact ⟨rv, h', f _ e, p⟩
theorem tv_e (e : am_Ev d mi pc ls st h (rv, h')) (p : P rv h') : am_T d mi pc ls st h P := ⟨rv, h', e, p⟩
theorem tv_w (k : am_T d mi pc ls st h Q) (f : ∀ rv h', Q rv h' → P rv h') : am_T d mi pc ls st h P := by
  obtain ⟨rv, h', e, p⟩ := k
  exact ⟨rv, h', e, f _ _ p⟩
theorem tv_b (n : Nat) (hb : am_blk n mi (pc, ls, st, h) = some (pc', ls', st', h')) (k : am_T d mi pc' ls' st' h' P) : am_T d mi pc ls st h P := tv_l (fun _ => ev_b n hb) k
theorem tv_top {x y : Int32} (e : x = y) (k : am_T d mi pc ls (.int y :: st) h P) : am_T d mi pc ls (.int x :: st) h P := by rw [e]; exact k
theorem tv_topJ {x y : Int64} (e : x = y) (k : am_T d mi pc ls (.long y :: st) h P) : am_T d mi pc ls (.long x :: st) h P := by rw [e]; exact k
theorem tv_h (e : h = h') (k : am_T d mi pc ls st h' P) : am_T d mi pc ls st h P := by rw [e]; exact k
theorem tv_ls (e : ls = ls') (k : am_T d mi pc ls' st h P) : am_T d mi pc ls st h P := by rw [e]; exact k
theorem tv_st (e : st = st') (k : am_T d mi pc ls st' h P) : am_T d mi pc ls st h P := by rw [e]; exact k
theorem tv_if {c : Prop} {dc : Decidable c} {a b : Nat} (k1 : c → am_T d mi a ls st h P) (k2 : ¬ c → am_T d mi b ls st h P) : am_T d mi (if c then a else b) ls st h P := by
  by_cases q : c
  · rw [if_pos q]; exact k1 q
  · rw [if_neg q]; exact k2 q
theorem tv_ifq {c c' : Prop} {dc : Decidable c} {a b : Nat} (e : c ↔ c') (k1 : c' → am_T d mi a ls st h P) (k2 : ¬ c' → am_T d mi b ls st h P) : am_T d mi (if c then a else b) ls st h P :=
  tv_if (fun q => k1 (e.mp q)) (fun q => k2 (fun x => q (e.mpr x)))
theorem tv_t {c : Prop} {dc : Decidable c} {a b : Nat} (q : c) (k : am_T d mi a ls st h P) : am_T d mi (if c then a else b) ls st h P := by rw [if_pos q]; exact k
theorem tv_f {c : Prop} {dc : Decidable c} {a b : Nat} (q : ¬ c) (k : am_T d mi b ls st h P) : am_T d mi (if c then a else b) ls st h P := by rw [if_neg q]; exact k
theorem tv_ri {x : Int32} (hP : am_P mi pc = some (.ireturn, 1, [0], v)) (p : P (some (.int x)) h) : am_T d mi pc ls [.int x] h P := tv_e (ev_ri hP rfl rfl) p
theorem tv_rz {x : Int32} (hP : am_P mi pc = some (.ireturn, 1, [1], v)) (h01 : x = 0 ∨ x = 1) (p : P (some (.int x)) h) : am_T d mi pc ls [.int x] h P := tv_e (ev_rz hP h01 rfl rfl) p
theorem tv_rl {x : Int64} (hP : am_P mi pc = some (.lreturn, 1, [], v)) (p : P (some (.long x)) h) : am_T d mi pc ls [.long x] h P := tv_e (ev_rl hP rfl rfl) p
theorem tv_rv (hP : am_P mi pc = some (.return_, 1, [], v)) (p : P none h) : am_T d mi pc ls [] h P := tv_e (ev_rv hP rfl) p
theorem tv_ra {x : Nat} (hP : am_P mi pc = some (.areturn, 1, [], v)) (p : P (some (.ref x)) h) : am_T d mi pc ls [.ref x] h P := tv_e (ev_ra hP rfl rfl) p
theorem tv_rn (hP : am_P mi pc = some (.areturn, 1, [], v)) (p : P (some .null) h) : am_T d mi pc ls [.null] h P := tv_e (ev_rn hP rfl rfl) p
theorem tv_cs {ck mi' na ml ci : Nat} {tl : List Nat} (as rest : List Value) (hP : am_P mi pc = some (i, len, ck :: mi' :: na :: ml :: ci :: tl, v)) (hk : am_kind i = 2) (hck : ck = 5 ∨ ck = 6) (hn : as.length = na) (hcat : am_cat rest ≤ 8) (hen : (am_ent1 as).length ≤ ml)
    (hc : am_T d mi' 0 (am_ent ml as) [] h Q) (k : ∀ rv h1, Q rv h1 → am_T (d + 1) mi (pc + 3) ls (rv.toList ++ rest) h1 P) : am_T (d + 1) mi pc ls (as.reverse ++ rest) h P := by
  obtain ⟨rv, h1, e, q⟩ := hc
  exact tv_l (fun _ => ev_cs as rest hP hk hck hn hcat hen e) (k rv h1 q)
theorem tv_cv {ck mi' na ml ci b : Nat} {tl : List Nat} (as rest : List Value) (hP : am_P mi pc = some (i, len, ck :: mi' :: na :: ml :: ci :: tl, v)) (hk : am_kind i = 2) (hck : ck = 0 ∨ ck = 1 ∨ ck = 3 ∨ ck = 4) (hn : as.length = na) (hcat : am_cat rest ≤ 8) (hen : (am_ent1 (.ref b :: as)).length ≤ ml) (hci : ck = 0 ∨ ck = 1 ∨ (h.2.2.1 b).1 = ci)
    (hc : am_T d mi' 0 (am_ent ml (.ref b :: as)) [] h Q) (k : ∀ rv h1, Q rv h1 → am_T (d + 1) mi (pc + 3) ls (rv.toList ++ rest) h1 P) : am_T (d + 1) mi pc ls (as.reverse ++ .ref b :: rest) h P := by
  obtain ⟨rv, h1, e, q⟩ := hc
  exact tv_l (fun _ => ev_cv as rest hP hk hck hn hcat hen hci e) (k rv h1 q)
/-- the callee's answer and store are known -/
theorem tv_csE {ck mi' na ml ci : Nat} {tl : List Nat} (as rest : List Value) (hP : am_P mi pc = some (i, len, ck :: mi' :: na :: ml :: ci :: tl, v)) (hk : am_kind i = 2) (hck : ck = 5 ∨ ck = 6) (hn : as.length = na) (hcat : am_cat rest ≤ 8) (hen : (am_ent1 as).length ≤ ml)
    (hc : am_Ev d mi' 0 (am_ent ml as) [] h (rv, h1)) (k : am_T (d + 1) mi (pc + 3) ls (rv.toList ++ rest) h1 P) : am_T (d + 1) mi pc ls (as.reverse ++ rest) h P := tv_l (fun _ => ev_cs as rest hP hk hck hn hcat hen hc) k
theorem tv_cvE {ck mi' na ml ci b : Nat} {tl : List Nat} (as rest : List Value) (hP : am_P mi pc = some (i, len, ck :: mi' :: na :: ml :: ci :: tl, v)) (hk : am_kind i = 2) (hck : ck = 0 ∨ ck = 1 ∨ ck = 3 ∨ ck = 4) (hn : as.length = na) (hcat : am_cat rest ≤ 8) (hen : (am_ent1 (.ref b :: as)).length ≤ ml) (hci : ck = 0 ∨ ck = 1 ∨ (h.2.2.1 b).1 = ci)
    (hc : am_Ev d mi' 0 (am_ent ml (.ref b :: as)) [] h (rv, h1)) (k : am_T (d + 1) mi (pc + 3) ls (rv.toList ++ rest) h1 P) : am_T (d + 1) mi pc ls (as.reverse ++ .ref b :: rest) h P := tv_l (fun _ => ev_cv as rest hP hk hck hn hcat hen hci hc) k
end TV
section TW
variable {d mi pc a k n N sl : Nat} {ls ls' : am_L} {st : List Value} {h : am_H} {v : Value} {K : Nat → Nat × Nat} {kk : Nat → Nat × Nat} {I I' : Nat → Nat → Int32} {L L' : Nat → Nat → Int64} {Q q : Nat → Nat → Option Nat} {P : Option Value → am_H → Prop}
theorem tv_hI (e : I = I') (k1 : am_T d mi pc ls st (N, sl, K, I', L, Q) P) : am_T d mi pc ls st (N, sl, K, I, L, Q) P := by rw [e]; exact k1
theorem tv_hL (e : L = L') (k1 : am_T d mi pc ls st (N, sl, K, I, L', Q) P) : am_T d mi pc ls st (N, sl, K, I, L, Q) P := by rw [e]; exact k1
theorem tv_iincN {j : Nat} (hP : am_P mi pc = some (.iinc j 1, 3, [], v)) (hg : am_lget ls j = some (.int (nI k))) (hl : (if j < ls.length then some (am_lset1 ls j (.int (nI (k + 1)))) else none) = some ls') (kk : am_T d mi (pc + 3) ls' st h P) : am_T d mi pc ls st h P := tv_l (fun _ => ev_iincN hP hg hl) kk
theorem tv_iincM {j : Nat} (hP : am_P mi pc = some (.iinc j (-1), 3, [], v)) (hg : am_lget ls j = some (.int (nI (k + 1)))) (hl : (if j < ls.length then some (am_lset1 ls j (.int (nI k))) else none) = some ls') (kk : am_T d mi (pc + 3) ls' st h P) : am_T d mi pc ls st h P := tv_l (fun _ => ev_iincM hP hg hl) kk
theorem tv_iincE {j : Nat} {c : Int} {x y : Int32} (hP : am_P mi pc = some (.iinc j c, 3, [], v)) (hg : am_lget ls j = some (.int x)) (e : x + Int32.ofInt c = y) (hl : (if j < ls.length then some (am_lset1 ls j (.int y)) else none) = some ls') (kk : am_T d mi (pc + 3) ls' st h P) : am_T d mi pc ls st h P := tv_l (fun _ => ev_iincE hP hg e hl) kk
theorem tv_ial {i : Int32} (hP : am_P mi pc = some (.iaload, 1, [], v)) (hK : K a = (20, n)) (hin : ¬ (i < 0 ∨ n ≤ i.toNatClampNeg)) (kk : am_T d mi (pc + 1) ls (.int (I a i.toNatClampNeg) :: st) (N, sl, K, I, L, Q) P) : am_T d mi pc ls (.int i :: .ref a :: st) (N, sl, K, I, L, Q) P := tv_l (fun _ => ev_ial hP hK hin) kk
theorem tv_bal {i : Int32} {t : Nat} (hP : am_P mi pc = some (.baload, 1, [], v)) (hK : K a = (t, n)) (ht : t = 22 ∨ t = 23) (hin : ¬ (i < 0 ∨ n ≤ i.toNatClampNeg)) (kk : am_T d mi (pc + 1) ls (.int (I a i.toNatClampNeg) :: st) (N, sl, K, I, L, Q) P) : am_T d mi pc ls (.int i :: .ref a :: st) (N, sl, K, I, L, Q) P := tv_l (fun _ => ev_bal hP hK ht hin) kk
theorem tv_lal {i : Int32} (hP : am_P mi pc = some (.laload, 1, [], v)) (hK : K a = (21, n)) (hin : ¬ (i < 0 ∨ n ≤ i.toNatClampNeg)) (kk : am_T d mi (pc + 1) ls (.long (L a i.toNatClampNeg) :: st) (N, sl, K, I, L, Q) P) : am_T d mi pc ls (.int i :: .ref a :: st) (N, sl, K, I, L, Q) P := tv_l (fun _ => ev_lal hP hK hin) kk
theorem tv_aal {i : Int32} {t : Nat} (hP : am_P mi pc = some (.aaload, 1, [], v)) (hK : K a = (t, n)) (ht : t = 24 ∨ t = 25 ∨ t = 26) (hin : ¬ (i < 0 ∨ n ≤ i.toNatClampNeg)) (kk : am_T d mi (pc + 1) ls (va_rf (Q a i.toNatClampNeg) :: st) (N, sl, K, I, L, Q) P) : am_T d mi pc ls (.int i :: .ref a :: st) (N, sl, K, I, L, Q) P := tv_l (fun _ => ev_aal hP hK ht hin) kk
theorem tv_ias {i x : Int32} (hP : am_P mi pc = some (.iastore, 1, [], v)) (hK : K a = (20, n)) (hin : ¬ (i < 0 ∨ n ≤ i.toNatClampNeg)) (kk : am_T d mi (pc + 1) ls st (N, sl, K, va_up I a (upd (I a) i.toNatClampNeg x), L, Q) P) : am_T d mi pc ls (.int x :: .int i :: .ref a :: st) (N, sl, K, I, L, Q) P := tv_l (fun _ => ev_ias hP hK hin) kk
theorem tv_las {i : Int32} {x : Int64} (hP : am_P mi pc = some (.lastore, 1, [], v)) (hK : K a = (21, n)) (hin : ¬ (i < 0 ∨ n ≤ i.toNatClampNeg)) (kk : am_T d mi (pc + 1) ls st (N, sl, K, I, va_up L a (vp_updL (L a) i.toNatClampNeg x), Q) P) : am_T d mi pc ls (.long x :: .int i :: .ref a :: st) (N, sl, K, I, L, Q) P := tv_l (fun _ => ev_las hP hK hin) kk
theorem tv_basB {i x : Int32} (hP : am_P mi pc = some (.bastore, 1, [], v)) (hK : K a = (22, n)) (hin : ¬ (i < 0 ∨ n ≤ i.toNatClampNeg)) (kk : am_T d mi (pc + 1) ls st (N, sl, K, va_up I a (upd (I a) i.toNatClampNeg (vp_nar .byte x)), L, Q) P) : am_T d mi pc ls (.int x :: .int i :: .ref a :: st) (N, sl, K, I, L, Q) P := tv_l (fun _ => ev_basB hP hK hin) kk
theorem tv_basZ {i x : Int32} (hP : am_P mi pc = some (.bastore, 1, [], v)) (hK : K a = (23, n)) (hin : ¬ (i < 0 ∨ n ≤ i.toNatClampNeg)) (kk : am_T d mi (pc + 1) ls st (N, sl, K, va_up I a (upd (I a) i.toNatClampNeg (vp_nar .boolean x)), L, Q) P) : am_T d mi pc ls (.int x :: .int i :: .ref a :: st) (N, sl, K, I, L, Q) P := tv_l (fun _ => ev_basZ hP hK hin) kk
theorem tv_ialN (hP : am_P mi pc = some (.iaload, 1, [], v)) (hK : K a = (20, n)) (hk : k < n ∧ n ≤ 200000) (kk : am_T d mi (pc + 1) ls (.int (I a k) :: st) (N, sl, K, I, L, Q) P) : am_T d mi pc ls (.int (nI k) :: .ref a :: st) (N, sl, K, I, L, Q) P := tv_l (fun _ => ev_ialN hP hK hk) kk
theorem tv_lalN (hP : am_P mi pc = some (.laload, 1, [], v)) (hK : K a = (21, n)) (hk : k < n ∧ n ≤ 200000) (kk : am_T d mi (pc + 1) ls (.long (L a k) :: st) (N, sl, K, I, L, Q) P) : am_T d mi pc ls (.int (nI k) :: .ref a :: st) (N, sl, K, I, L, Q) P := tv_l (fun _ => ev_lalN hP hK hk) kk
theorem tv_balN {t : Nat} (hP : am_P mi pc = some (.baload, 1, [], v)) (hK : K a = (t, n)) (hk : (t = 22 ∨ t = 23) ∧ k < n ∧ n ≤ 200000) (kk : am_T d mi (pc + 1) ls (.int (I a k) :: st) (N, sl, K, I, L, Q) P) : am_T d mi pc ls (.int (nI k) :: .ref a :: st) (N, sl, K, I, L, Q) P := tv_l (fun _ => ev_balN hP hK hk) kk
theorem tv_iasN {x : Int32} (hP : am_P mi pc = some (.iastore, 1, [], v)) (hK : K a = (20, n)) (hk : k < n ∧ n ≤ 200000) (kk : am_T d mi (pc + 1) ls st (N, sl, K, va_up I a (upd (I a) k x), L, Q) P) : am_T d mi pc ls (.int x :: .int (nI k) :: .ref a :: st) (N, sl, K, I, L, Q) P := tv_l (fun _ => ev_iasN hP hK hk) kk
theorem tv_lasN {x : Int64} (hP : am_P mi pc = some (.lastore, 1, [], v)) (hK : K a = (21, n)) (hk : k < n ∧ n ≤ 200000) (kk : am_T d mi (pc + 1) ls st (N, sl, K, I, va_up L a (vp_updL (L a) k x), Q) P) : am_T d mi pc ls (.long x :: .int (nI k) :: .ref a :: st) (N, sl, K, I, L, Q) P := tv_l (fun _ => ev_lasN hP hK hk) kk
theorem tv_basBN {x : Int32} (hP : am_P mi pc = some (.bastore, 1, [], v)) (hK : K a = (22, n)) (hk : k < n ∧ n ≤ 200000) (kk : am_T d mi (pc + 1) ls st (N, sl, K, va_up I a (upd (I a) k (vp_nar .byte x)), L, Q) P) : am_T d mi pc ls (.int x :: .int (nI k) :: .ref a :: st) (N, sl, K, I, L, Q) P := tv_l (fun _ => ev_basBN hP hK hk) kk
theorem tv_basZN {x : Int32} (hP : am_P mi pc = some (.bastore, 1, [], v)) (hK : K a = (23, n)) (hk : k < n ∧ n ≤ 200000) (kk : am_T d mi (pc + 1) ls st (N, sl, K, va_up I a (upd (I a) k (vp_nar .boolean x)), L, Q) P) : am_T d mi pc ls (.int x :: .int (nI k) :: .ref a :: st) (N, sl, K, I, L, Q) P := tv_l (fun _ => ev_basZN hP hK hk) kk
theorem tv_basZ1 {x : Int32} (hx : x = 0 ∨ x = 1) (hP : am_P mi pc = some (.bastore, 1, [], v)) (hK : K a = (23, n)) (hk : k < n ∧ n ≤ 200000) (kk : am_T d mi (pc + 1) ls st (N, sl, K, va_up I a (upd (I a) k x), L, Q) P) : am_T d mi pc ls (.int x :: .int (nI k) :: .ref a :: st) (N, sl, K, I, L, Q) P := by
  refine tv_basZN hP hK hk ?_
  have e : vp_nar .boolean x = x := by rcases hx with rfl | rfl <;> rfl
  rw [e]
  exact kk
theorem tv_ldiv {x y : Int64} (hP : am_P mi pc = some (.ldiv, 1, [], v)) (hy : ¬ y = 0) (kk : am_T d mi (pc + 1) ls (.long (x / y) :: st) h P) : am_T d mi pc ls (.long y :: .long x :: st) h P := tv_l (fun _ => ev_ldiv hP hy) kk
theorem tv_lrem {x y : Int64} (hP : am_P mi pc = some (.lrem, 1, [], v)) (hy : ¬ y = 0) (kk : am_T d mi (pc + 1) ls (.long (x - x / y * y) :: st) h P) : am_T d mi pc ls (.long y :: .long x :: st) h P := tv_l (fun _ => ev_lrem hP hy) kk
theorem tv_idiv {x y : Int32} (hP : am_P mi pc = some (.idiv, 1, [], v)) (hy : ¬ y = 0) (kk : am_T d mi (pc + 1) ls (.int (x / y) :: st) h P) : am_T d mi pc ls (.int y :: .int x :: st) h P := tv_l (fun _ => ev_idiv hP hy) kk
theorem tv_irem {x y : Int32} (hP : am_P mi pc = some (.irem, 1, [], v)) (hy : ¬ y = 0) (kk : am_T d mi (pc + 1) ls (.int (x - x / y * y) :: st) h P) : am_T d mi pc ls (.int y :: .int x :: st) h P := by
  refine tv_l (fun _ => ev_1 hP rfl ?_) kk
  show (if y = 0 then none else some (pc + 1, ls, .int (x - x / y * y) :: st, h)) = _
  rw [if_neg hy]
theorem tv_row18 {i : Int32} (hP : am_P mi pc = some (.aaload, 1, [], v)) (hin : ¬ (i < 0 ∨ 16 ≤ i.toNatClampNeg)) (k1 : am_T d mi (pc + 1) ls (.ref (19 + i.toNatClampNeg) :: st) (N, sl, wKK kk, I, L, wQQ q) P) : am_T d mi pc ls (.int i :: .ref 18 :: st) (N, sl, wKK kk, I, L, wQQ q) P := tv_l (fun _ => ev_row18 hP hin) k1
theorem tv_row35 {i : Int32} (hP : am_P mi pc = some (.aaload, 1, [], v)) (hin : ¬ (i < 0 ∨ 16 ≤ i.toNatClampNeg)) (k1 : am_T d mi (pc + 1) ls (.ref (36 + i.toNatClampNeg) :: st) (N, sl, wKK kk, I, L, wQQ q) P) : am_T d mi pc ls (.int i :: .ref 35 :: st) (N, sl, wKK kk, I, L, wQQ q) P := tv_l (fun _ => ev_row35 hP hin) k1
theorem tv_row18N (hP : am_P mi pc = some (.aaload, 1, [], v)) (hk : k < 16) (k1 : am_T d mi (pc + 1) ls (.ref (19 + k) :: st) (N, sl, wKK kk, I, L, wQQ q) P) : am_T d mi pc ls (.int (nI k) :: .ref 18 :: st) (N, sl, wKK kk, I, L, wQQ q) P := tv_l (fun _ => ev_row18N hP hk) k1
theorem tv_row35N (hP : am_P mi pc = some (.aaload, 1, [], v)) (hk : k < 16) (k1 : am_T d mi (pc + 1) ls (.ref (36 + k) :: st) (N, sl, wKK kk, I, L, wQQ q) P) : am_T d mi pc ls (.int (nI k) :: .ref 35 :: st) (N, sl, wKK kk, I, L, wQQ q) P := tv_l (fun _ => ev_row35N hP hk) k1
theorem tv_gfa {a fk kd ix : Nat} {tl : List Nat} (hP : am_P mi pc = some (.getfield ix, 3, 0 :: fk :: kd :: tl, v)) (hkd : kd = 0 ∨ kd = 3) (hK : (K a).1 = 0) (k1 : am_T d mi (pc + 3) ls (.int (I a fk) :: st) (N, sl, K, I, L, Q) P) : am_T d mi pc ls (.ref a :: st) (N, sl, K, I, L, Q) P := tv_l (fun _ => ev_gfa hP hkd hK) k1
theorem tv_gfq {a fk ix : Nat} {tl : List Nat} {w : Value} (hP : am_P mi pc = some (.getfield ix, 3, 0 :: fk :: 2 :: tl, v)) (hK : (K a).1 = 0) (hq : va_rf (Q a fk) = w) (k1 : am_T d mi (pc + 3) ls (w :: st) (N, sl, K, I, L, Q) P) : am_T d mi pc ls (.ref a :: st) (N, sl, K, I, L, Q) P := by
  refine tv_l (fun _ => ev_1 hP rfl ?_) k1
  show (if (K a).1 = 0 then some (pc + 3, ls, va_rf (Q a fk) :: st, (N, sl, K, I, L, Q)) else none) = _
  rw [if_pos hK, hq]
theorem tv_len {a t m : Nat} (hP : am_P mi pc = some (.arraylength, 1, [], v)) (hK : K a = (t, m)) (ht : 20 ≤ t ∧ t ≤ 26) (k1 : am_T d mi (pc + 1) ls (.int (nI m) :: st) (N, sl, K, I, L, Q) P) : am_T d mi pc ls (.ref a :: st) (N, sl, K, I, L, Q) P := by
  refine tv_l (fun _ => ev_1 hP rfl ?_) k1
  show (if (20 ≤ (K a).1 ∧ (K a).1 ≤ 26) ∨ (K a).1 = 30 then some (pc + 1, ls, .int (Int32.ofNat (K a).2) :: st, (N, sl, K, I, L, Q)) else none) = _
  rw [hK, if_pos (Or.inl ht)]
  rfl
theorem tv_pfa {a fk kd ix : Nat} {tl : List Nat} {x : Int32} (hP : am_P mi pc = some (.putfield ix, 3, 0 :: fk :: kd :: tl, v)) (hkd : kd = 0 ∨ (kd = 3 ∧ (x = 0 ∨ x = 1))) (hK : (K a).1 = 0) (k1 : am_T d mi (pc + 3) ls st (N, sl, K, va_up I a (upd (I a) fk x), L, Q) P) : am_T d mi pc ls (.int x :: .ref a :: st) (N, sl, K, I, L, Q) P := by
  refine tv_l (fun _ => ev_1 hP rfl ?_) k1
  show (if (K a).1 = 0 then (match am_put kd a fk (.int x) (N, sl, K, I, L, Q) with
    | some h' => some (pc + 3, ls, st, h')
    | none => none) else none) = _
  rw [if_pos hK]
  rcases hkd with rfl | ⟨rfl, hx⟩
  · rfl
  · show (match (if x = 0 ∨ x = 1 then some (N, sl, K, va_up I a (upd (I a) fk x), L, Q) else none) with
      | some h' => some (pc + 3, ls, st, h')
      | none => none) = _
    rw [if_pos hx]
/-- a boolean into a known object's field -/
theorem tv_pfz {a fk ix ci : Nat} {tl : List Nat} {x : Int32} (hP : am_P mi pc = some (.putfield ix, 3, ci :: fk :: 3 :: tl, v)) (hx : x = 0 ∨ x = 1) (hK : (K a).1 = ci) (k1 : am_T d mi (pc + 3) ls st (N, sl, K, va_up I a (upd (I a) fk x), L, Q) P) : am_T d mi pc ls (.int x :: .ref a :: st) (N, sl, K, I, L, Q) P := by
  refine tv_l (fun _ => ev_1 hP rfl ?_) k1
  show (if (K a).1 = ci then (match (if x = 0 ∨ x = 1 then some (N, sl, K, va_up I a (upd (I a) fk x), L, Q) else none) with
    | some h' => some (pc + 3, ls, st, h')
    | none => none) else none) = _
  rw [if_pos hK, if_pos hx]
theorem wQQ_hi {q : Nat → Nat → Option Nat} {a : Nat} (h : 131 ≤ a) : wQQ q a = q a := by
  funext i
  unfold wQQ
  rw [Nat.ble_eq_true_of_le h]
  rfl
theorem wKK_up {kk : Nat → Nat × Nat} {a : Nat} {x : Nat × Nat} (h : 131 ≤ a) : va_up (wKK kk) a x = wKK (va_up kk a x) := by
  funext j
  unfold va_up wKK
  by_cases e : j = a
  · subst e
    rw [if_pos rfl, Nat.ble_eq_true_of_le h]
    show x = (if j = j then x else kk j)
    rw [if_pos rfl]
  · simp only [if_neg e]
theorem wQQ_up {q : Nat → Nat → Option Nat} {a : Nat} {x : Nat → Option Nat} (h : 131 ≤ a) : va_up (wQQ q) a x = wQQ (va_up q a x) := by
  funext j i
  unfold va_up wQQ
  by_cases e : j = a
  · subst e
    rw [if_pos rfl, Nat.ble_eq_true_of_le h]
    show x i = (if j = j then x else q j) i
    rw [if_pos rfl]
  · simp only [if_neg e]
theorem wQQ_56 {q : Nat → Nat → Option Nat} {x : Nat → Option Nat} : va_up (wQQ q) 56 x = wQQ (va_up q 56 x) := by
  funext j i
  unfold va_up wQQ
  by_cases e : j = 56
  · subst e
    rfl
  · simp only [if_neg e]
/-- a new act -/
theorem tv_newa {ix : Nat} {tl : List Nat} (hP : am_P mi pc = some (.new ix, 3, 0 :: tl, v)) (hN : 131 ≤ N) (k1 : am_T d mi (pc + 3) ls (.ref N :: st) (N + 1, sl + 9, wKK (va_up kk N (0, 0)), va_up I N (fun _ => 0), va_up L N (fun _ => 0), wQQ (va_up q N (fun _ => none))) P) : am_T d mi pc ls st (N, sl, wKK kk, I, L, wQQ q) P := by
  refine tv_l (fun _ => ev_1 hP rfl ?_) k1
  show some (pc + 3, ls, Value.ref (am_nr N) :: st, (N + 1, sl + 9, va_up (wKK kk) (am_nr N) (0, 0), va_up I (am_nr N) (fun _ => 0), va_up L (am_nr N) (fun _ => 0), va_up (wQQ q) (am_nr N) (fun _ => none))) = _
  rw [am_nr_hi hN, ← wKK_up hN, ← wQQ_up hN]
/-- the code into an act -/
theorem tv_pfq {a fk ix : Nat} {tl : List Nat} {x : Value} {o : Option Nat} (hP : am_P mi pc = some (.putfield ix, 3, 0 :: fk :: 2 :: tl, v)) (hx : x = va_rf o) (ha : 131 ≤ a) (hK : (wKK kk a).1 = 0) (k1 : am_T d mi (pc + 3) ls st (N, sl, wKK kk, I, L, wQQ (va_up q a (va_up (q a) fk o))) P) : am_T d mi pc ls (x :: .ref a :: st) (N, sl, wKK kk, I, L, wQQ q) P := by
  refine tv_l (fun _ => ev_1 hP rfl ?_) k1
  rw [← wQQ_up ha, ← wQQ_hi (q := q) ha]
  cases o with
  | none =>
    rw [hx]
    show (if (wKK kk a).1 = 0 then some (pc + 3, ls, st, _) else none) = _
    rw [if_pos hK]
  | some y =>
    rw [hx]
    show (if (wKK kk a).1 = 0 then some (pc + 3, ls, st, _) else none) = _
    rw [if_pos hK]
/-- an act into the book -/
theorem tv_aas56 {x : Nat} (hP : am_P mi pc = some (.aastore, 1, [], v)) (hk : k < 200) (hK : (wKK kk x).1 = 0) (k1 : am_T d mi (pc + 1) ls st (N, sl, wKK kk, I, L, wQQ (va_up q 56 (va_up (q 56) k (some x)))) P) : am_T d mi pc ls (.ref x :: .int (nI k) :: .ref 56 :: st) (N, sl, wKK kk, I, L, wQQ q) P := by
  refine tv_l (fun _ => ev_1 hP rfl ?_) k1
  show (if (24 : Nat) = 24 ∧ (wKK kk x).1 = 0 then (if nI k < 0 ∨ 200 ≤ (nI k).toNatClampNeg then none else some (pc + 1, ls, st, (N, sl, wKK kk, I, L, va_up (wQQ q) 56 (va_up (wQQ q 56) (nI k).toNatClampNeg (some x))))) else none) = _
  rw [if_pos ⟨rfl, hK⟩, if_neg (ev_ix hk (by omega)), nI_clamp (by omega), ← wQQ_56]
  rfl
/-- a new row of ints -/
theorem tv_nai {c : Nat} {tl : List Nat} {nt : ArrayType} (hP : am_P mi pc = some (.newarray nt, 2, 20 :: tl, v)) (hN : 131 ≤ N) (hc : c ≤ 1000) (k1 : am_T d mi (pc + 2) ls (.ref N :: st) (N + 1, sl + c, wKK (va_up kk N (20, c)), va_up I N (fun _ => 0), va_up L N (fun _ => 0), wQQ (va_up q N (fun _ => none))) P) : am_T d mi pc ls (.int (nI c) :: st) (N, sl, wKK kk, I, L, wQQ q) P := by
  refine tv_l (fun _ => ev_1 hP rfl ?_) k1
  show (if nI c < 0 ∨ 200000 < (nI c).toNatClampNeg then none else some (pc + 2, ls, Value.ref (am_nr N) :: st, (N + 1, sl + (nI c).toNatClampNeg, va_up (wKK kk) (am_nr N) (20, (nI c).toNatClampNeg), va_up I (am_nr N) (fun _ => 0), va_up L (am_nr N) (fun _ => 0), va_up (wQQ q) (am_nr N) (fun _ => none)))) = _
  have e : (nI c).toNatClampNeg = c := nI_clamp (by omega)
  rw [e, am_nr_hi hN, if_neg (by rintro (h | h); exact nI_pos (by omega) h; omega), ← wKK_up hN, ← wQQ_up hN]
end TW
section TX
variable {d mi a b : Nat} {ls : am_L} {st : List Value} {h : am_H} {P : Option Value → am_H → Prop} {c : Prop} {dc : Decidable c} {dd : Decidable ((if c then 1 else 0 : Int32) = 0)}
theorem tv_b0 (k1 : ¬ c → am_T d mi a ls st h P) (k2 : c → am_T d mi b ls st h P) : am_T d mi (if (if c then 1 else 0 : Int32) = 0 then a else b) ls st h P := by
  by_cases q : c
  · rw [if_neg (by rw [if_pos q]; decide)]; exact k2 q
  · rw [if_pos (by rw [if_neg q])]; exact k1 q
theorem tv_b0t (q : c) (k2 : am_T d mi b ls st h P) : am_T d mi (if (if c then 1 else 0 : Int32) = 0 then a else b) ls st h P := tv_b0 (fun h => absurd q h) (fun _ => k2)
theorem tv_b0f (q : ¬ c) (k1 : am_T d mi a ls st h P) : am_T d mi (if (if c then 1 else 0 : Int32) = 0 then a else b) ls st h P := tv_b0 (fun _ => k1) (fun h => absurd h q)
end TX
