/-! AN ABSTRACT MACHINE: the program's tables run over handles (the n-th cell made has handle n), whole stores as functions. Sound for the machine (part 04 on): then every method is reckoned here, by defining equations. -/
/-- cells made, slots made, kind and length of each, what int places, long places, reference places hold -/
abbrev am_H : Type := Nat × Nat × (Nat → Nat × Nat) × (Nat → Nat → Int32) × (Nat → Nat → Int64) × (Nat → Nat → Option Nat)
abbrev am_L : Type := List (Option Value)
abbrev am_R : Type := Nat × am_L × List Value × am_H
def am_B : Nat := 1000000
/-- the handle of the i-th cell that is made: the Reader's rows of tokens, made as 59th to 62nd, get 127 to 130 -/
def am_nr (i : Nat) : Nat := cond (Nat.ble 131 i) i (cond (Nat.ble 63 i) (i - 4) (cond (Nat.ble 59 i) (i + 68) i))
def am_rn (h : Nat) : Nat := cond (Nat.ble 131 h) h (cond (Nat.ble 127 h) (h - 68) (cond (Nat.ble 59 h) (h + 4) h))
/-- words that stay so long as hosts stay (nest words too) -/
def am_gw : Cond → Bool
  | .arrayClass _ => true
  | w => w.onTables && w.keepsH
def am_W : List Cond := lw_tbl.filter am_gw
def am_NF (t : Nat) : Nat := (am_FK.getD t []).length
def am_kd (t k : Nat) : Nat := (am_FK.getD t []).getD k 9
def am_lget (ls : am_L) (k : Nat) : Option Value := match ls[k]? with
  | some o => o
  | none => none
/-- a long ahead of the place loses its second half -/
def am_k2 (ls : am_L) (i : Nat) : am_L := match i with
  | 0 => ls
  | j + 1 => match am_lget ls j with
    | some (.long _) => ls.set j none
    | some (.double _) => ls.set j none
    | _ => ls
def am_lset1 (ls : am_L) (i : Nat) (v : Value) : am_L := (am_k2 ls i).set i (some v)
def am_lset2 (ls : am_L) (i : Nat) (v : Value) : am_L := ((am_k2 ls i).set i (some v)).set (i + 1) none
def am_br (c : Jvm.ClassFile.Cond) (x y : Int32) (t f : Nat) : Nat := match c with
  | .eq => if x = y then t else f
  | .ne => if x = y then f else t
  | .lt => if x < y then t else f
  | .ge => if y ≤ x then t else f
  | .gt => if y < x then t else f
  | .le => if x ≤ y then t else f
def am_ii (f : Int32 → Int32 → Int32) (pc : Nat) (ls : am_L) (st : List Value) (h : am_H) : Option am_R := match st with
  | .int y :: .int x :: r => some (pc + 1, ls, .int (f x y) :: r, h)
  | _ => none
def am_ll (f : Int64 → Int64 → Int64) (pc : Nat) (ls : am_L) (st : List Value) (h : am_H) : Option am_R := match st with
  | .long y :: .long x :: r => some (pc + 1, ls, .long (f x y) :: r, h)
  | _ => none
def am_li (k n : Nat) (pc : Nat) (ls : am_L) (st : List Value) (h : am_H) : Option am_R := match am_lget ls k with
  | some (.int x) => some (pc + n, ls, .int x :: st, h)
  | _ => none
def am_lj (k n : Nat) (pc : Nat) (ls : am_L) (st : List Value) (h : am_H) : Option am_R := match am_lget ls k with
  | some (.long x) => some (pc + n, ls, .long x :: st, h)
  | _ => none
def am_la (k n : Nat) (pc : Nat) (ls : am_L) (st : List Value) (h : am_H) : Option am_R := match am_lget ls k with
  | some (.ref x) => some (pc + n, ls, .ref x :: st, h)
  | some .null => some (pc + n, ls, .null :: st, h)
  | _ => none
def am_si (k n : Nat) (pc : Nat) (ls : am_L) (st : List Value) (h : am_H) : Option am_R := match st with
  | .int x :: r => if k < ls.length then some (pc + n, am_lset1 ls k (.int x), r, h) else none
  | _ => none
def am_sj (k n : Nat) (pc : Nat) (ls : am_L) (st : List Value) (h : am_H) : Option am_R := match st with
  | .long x :: r => if k + 1 < ls.length then some (pc + n, am_lset2 ls k (.long x), r, h) else none
  | _ => none
def am_sa (k n : Nat) (pc : Nat) (ls : am_L) (st : List Value) (h : am_H) : Option am_R := match st with
  | .ref x :: r => if k < ls.length then some (pc + n, am_lset1 ls k (.ref x), r, h) else none
  | .null :: r => if k < ls.length then some (pc + n, am_lset1 ls k .null, r, h) else none
  | _ => none
def am_get (kd a k : Nat) (h : am_H) : Value := match h with
  | (_, _, _, I, L, Q) => match kd with
    | 1 => .long (L a k)
    | 2 => va_rf (Q a k)
    | _ => .int (I a k)
def am_gf (ops : List Nat) (pc : Nat) (ls : am_L) (st : List Value) (h : am_H) : Option am_R := match ops, st with
  | ci :: k :: kd :: _, .ref a :: r => if (h.2.2.1 a).1 = ci then some (pc + 3, ls, am_get kd a k h :: r, h) else none
  | _, _ => none
def am_put (kd a k : Nat) (x : Value) (h : am_H) : Option am_H := match h with
  | (n, sl, K, I, L, Q) => match kd, x with
    | 0, .int y => some (n, sl, K, va_up I a (upd (I a) k y), L, Q)
    | 3, .int y => if y = 0 ∨ y = 1 then some (n, sl, K, va_up I a (upd (I a) k y), L, Q) else none
    | 1, .long y => some (n, sl, K, I, va_up L a (vp_updL (L a) k y), Q)
    | 2, .ref y => some (n, sl, K, I, L, va_up Q a (va_up (Q a) k (some y)))
    | 2, .null => some (n, sl, K, I, L, va_up Q a (va_up (Q a) k none))
    | _, _ => none
def am_pf (ops : List Nat) (pc : Nat) (ls : am_L) (st : List Value) (h : am_H) : Option am_R := match ops, st with
  | ci :: k :: kd :: _, x :: .ref a :: r => if (h.2.2.1 a).1 = ci then (match am_put kd a k x h with
    | some h' => some (pc + 3, ls, r, h')
    | none => none) else none
  | _, _ => none
/-- a new cell -/
def am_al (t len N : Nat) (h : am_H) : am_H := match h with
  | (n, sl, K, I, L, Q) => (n + 1, sl + N, va_up K (am_nr n) (t, len), va_up I (am_nr n) (fun _ => 0), va_up L (am_nr n) (fun _ => 0), va_up Q (am_nr n) (fun _ => none))
/-- new rows -/
def am_mal (t c k : Nat) (h : am_H) : am_H := match h with
  | (n, sl, K, I, L, Q) => (n + (1 + c), sl + (c + c * k), fun j => if j = n then (t, c) else if n < j ∧ j ≤ n + c then (t - 5, k) else K j, fun j => if n ≤ j ∧ j ≤ n + c then fun _ => 0 else I j,
    fun j => if n ≤ j ∧ j ≤ n + c then fun _ => 0 else L j, fun j => if j = n then fun i => if i < c then some (n + 1 + i) else none else if n < j ∧ j ≤ n + c then fun _ => none else Q j)
def am_new (ops : List Nat) (pc : Nat) (ls : am_L) (st : List Value) (h : am_H) : Option am_R := match ops with
  | ci :: _ => some (pc + 3, ls, .ref (am_nr h.1) :: st, am_al ci 0 (am_NF ci) h)
  | _ => none
def am_na (n : Nat) (ops : List Nat) (pc : Nat) (ls : am_L) (st : List Value) (h : am_H) : Option am_R := match ops, st with
  | t :: _, .int x :: r => if x < 0 ∨ 200000 < x.toNatClampNeg then none else some (pc + n, ls, .ref (am_nr h.1) :: r, am_al t x.toNatClampNeg x.toNatClampNeg h)
  | _, _ => none
def am_mna (ops : List Nat) (pc : Nat) (ls : am_L) (st : List Value) (h : am_H) : Option am_R := match ops, st with
  | t :: _, .int y :: .int x :: r => if x < 0 ∨ 1000 < x.toNatClampNeg ∨ y < 0 ∨ 1000 < y.toNatClampNeg ∨ 58 < h.1 + x.toNatClampNeg then none else some (pc + 4, ls, .ref h.1 :: r, am_mal t x.toNatClampNeg y.toNatClampNeg h)
  | _, _ => none
def am_ial (pc : Nat) (ls : am_L) (st : List Value) (h : am_H) : Option am_R := match st, h with
  | .int i :: .ref a :: r, (_, _, K, I, _, _) => if (K a).1 = 20 ∨ (K a).1 = 30 then (if i < 0 ∨ (K a).2 ≤ i.toNatClampNeg then none else some (pc + 1, ls, .int (I a i.toNatClampNeg) :: r, h)) else none
  | _, _ => none
def am_bal (pc : Nat) (ls : am_L) (st : List Value) (h : am_H) : Option am_R := match st, h with
  | .int i :: .ref a :: r, (_, _, K, I, _, _) => if (K a).1 = 22 ∨ (K a).1 = 23 then (if i < 0 ∨ (K a).2 ≤ i.toNatClampNeg then none else some (pc + 1, ls, .int (I a i.toNatClampNeg) :: r, h)) else none
  | _, _ => none
def am_lal (pc : Nat) (ls : am_L) (st : List Value) (h : am_H) : Option am_R := match st, h with
  | .int i :: .ref a :: r, (_, _, K, _, L, _) => if (K a).1 = 21 then (if i < 0 ∨ (K a).2 ≤ i.toNatClampNeg then none else some (pc + 1, ls, .long (L a i.toNatClampNeg) :: r, h)) else none
  | _, _ => none
def am_aal (pc : Nat) (ls : am_L) (st : List Value) (h : am_H) : Option am_R := match st, h with
  | .int i :: .ref a :: r, (_, _, K, _, _, Q) => if (K a).1 = 24 ∨ (K a).1 = 25 ∨ (K a).1 = 26 then (if i < 0 ∨ (K a).2 ≤ i.toNatClampNeg then none else some (pc + 1, ls, va_rf (Q a i.toNatClampNeg) :: r, h)) else none
  | _, _ => none
def am_ias (pc : Nat) (ls : am_L) (st : List Value) (h : am_H) : Option am_R := match st, h with
  | .int x :: .int i :: .ref a :: r, (n, sl, K, I, L, Q) => if (K a).1 = 20 then (if i < 0 ∨ (K a).2 ≤ i.toNatClampNeg then none else some (pc + 1, ls, r, (n, sl, K, va_up I a (upd (I a) i.toNatClampNeg x), L, Q))) else none
  | _, _ => none
def am_bas (pc : Nat) (ls : am_L) (st : List Value) (h : am_H) : Option am_R := match st, h with
  | .int x :: .int i :: .ref a :: r, (n, sl, K, I, L, Q) => if i < 0 ∨ (K a).2 ≤ i.toNatClampNeg then none else
      (if (K a).1 = 22 then some (pc + 1, ls, r, (n, sl, K, va_up I a (upd (I a) i.toNatClampNeg (vp_nar .byte x)), L, Q)) else
      if (K a).1 = 23 then some (pc + 1, ls, r, (n, sl, K, va_up I a (upd (I a) i.toNatClampNeg (vp_nar .boolean x)), L, Q)) else none)
  | _, _ => none
def am_las (pc : Nat) (ls : am_L) (st : List Value) (h : am_H) : Option am_R := match st, h with
  | .long x :: .int i :: .ref a :: r, (n, sl, K, I, L, Q) => if (K a).1 = 21 then (if i < 0 ∨ (K a).2 ≤ i.toNatClampNeg then none else some (pc + 1, ls, r, (n, sl, K, I, va_up L a (vp_updL (L a) i.toNatClampNeg x), Q))) else none
  | _, _ => none
def am_aas (pc : Nat) (ls : am_L) (st : List Value) (h : am_H) : Option am_R := match st, h with
  | .ref x :: .int i :: .ref a :: r, (n, sl, K, I, L, Q) => if (K a).1 = 24 ∧ (K x).1 = 0 then (if i < 0 ∨ (K a).2 ≤ i.toNatClampNeg then none else some (pc + 1, ls, r, (n, sl, K, I, L, va_up Q a (va_up (Q a) i.toNatClampNeg (some x))))) else none
  | _, _ => none
def am_len (pc : Nat) (ls : am_L) (st : List Value) (h : am_H) : Option am_R := match st, h with
  | .ref a :: r, (_, _, K, _, _, _) => if (20 ≤ (K a).1 ∧ (K a).1 ≤ 26) ∨ (K a).1 = 30 then some (pc + 1, ls, .int (Int32.ofNat (K a).2) :: r, h) else none
  | _, _ => none
def am_nul (b : Bool) (ops : List Nat) (pc : Nat) (ls : am_L) (st : List Value) (h : am_H) : Option am_R := match ops, st with
  | t :: _, .null :: r => some (cond b t (pc + 3), ls, r, h)
  | t :: _, .ref _ :: r => some (cond b (pc + 3) t, ls, r, h)
  | _, _ => none
def am_tsw (lo hi : Int) (ops : List Nat) (ls : am_L) (st : List Value) (h : am_H) : Option am_R := match ops, st with
  | dt :: ts, .int x :: r => some (if x.toInt < lo ∨ hi < x.toInt then dt else ts.getD (x.toInt - lo).toNat dt, ls, r, h)
  | _, _ => none
def am_lsf : List (Int × Int) → List Nat → Nat → Int → Nat
  | (a, _) :: ps, t :: ts, d, x => if a = x then t else am_lsf ps ts d x
  | _, _, d, _ => d
def am_lsw (ps : List (Int × Int)) (ops : List Nat) (ls : am_L) (st : List Value) (h : am_H) : Option am_R := match ops, st with
  | dt :: ts, .int x :: r => some (am_lsf ps ts dt x.toInt, ls, r, h)
  | _, _ => none
/-- one instruction that neither calls nor returns -/
def am_1 (i : Instr) (ops : List Nat) (v : Value) (pc : Nat) (ls : am_L) (st : List Value) (h : am_H) : Option am_R := match i with
  | .aconst_null => some (pc + 1, ls, .null :: st, h)
  | .iconst _ => some (pc + 1, ls, v :: st, h)
  | .bipush _ => some (pc + 2, ls, v :: st, h)
  | .sipush _ => some (pc + 3, ls, v :: st, h)
  | .lconst _ => some (pc + 1, ls, v :: st, h)
  | .ldc _ => some (pc + 2, ls, v :: st, h)
  | .ldc_w _ => some (pc + 3, ls, v :: st, h)
  | .ldc2_w _ => some (pc + 3, ls, v :: st, h)
  | .iload_n k => am_li k 1 pc ls st h
  | .iload k => am_li k 2 pc ls st h
  | .lload_n k => am_lj k 1 pc ls st h
  | .lload k => am_lj k 2 pc ls st h
  | .aload_n k => am_la k 1 pc ls st h
  | .aload k => am_la k 2 pc ls st h
  | .istore_n k => am_si k 1 pc ls st h
  | .istore k => am_si k 2 pc ls st h
  | .lstore_n k => am_sj k 1 pc ls st h
  | .lstore k => am_sj k 2 pc ls st h
  | .astore_n k => am_sa k 1 pc ls st h
  | .astore k => am_sa k 2 pc ls st h
  | .iinc k n => match am_lget ls k with
    | some (.int x) => if k < ls.length then some (pc + 3, am_lset1 ls k (.int (x + Int32.ofInt n)), st, h) else none
    | _ => none
  | .iadd => am_ii (fun x y => x + y) pc ls st h
  | .isub => am_ii (fun x y => x - y) pc ls st h
  | .imul => am_ii (fun x y => x * y) pc ls st h
  | .iand => am_ii (fun x y => x &&& y) pc ls st h
  | .ior => am_ii (fun x y => x ||| y) pc ls st h
  | .ixor => am_ii (fun x y => x ^^^ y) pc ls st h
  | .ishl => am_ii (fun x y => x <<< (y &&& 31)) pc ls st h
  | .ishr => am_ii (fun x y => x >>> (y &&& 31)) pc ls st h
  | .idiv => match st with
    | .int y :: .int x :: r => if y = 0 then none else some (pc + 1, ls, .int (x / y) :: r, h)
    | _ => none
  | .irem => match st with
    | .int y :: .int x :: r => if y = 0 then none else some (pc + 1, ls, .int (x - x / y * y) :: r, h)
    | _ => none
  | .ladd => am_ll (fun x y => x + y) pc ls st h
  | .lsub => am_ll (fun x y => x - y) pc ls st h
  | .lmul => am_ll (fun x y => x * y) pc ls st h
  | .land => am_ll (fun x y => x &&& y) pc ls st h
  | .lor => am_ll (fun x y => x ||| y) pc ls st h
  | .lxor => am_ll (fun x y => x ^^^ y) pc ls st h
  | .ldiv => match st with
    | .long y :: .long x :: r => if y = 0 then none else some (pc + 1, ls, .long (x / y) :: r, h)
    | _ => none
  | .lrem => match st with
    | .long y :: .long x :: r => if y = 0 then none else some (pc + 1, ls, .long (x - x / y * y) :: r, h)
    | _ => none
  | .lshl => match st with
    | .int y :: .long x :: r => some (pc + 1, ls, .long (x <<< (y.toInt64 &&& 63)) :: r, h)
    | _ => none
  | .lneg => match st with
    | .long x :: r => some (pc + 1, ls, .long (-x) :: r, h)
    | _ => none
  | .i2l => match st with
    | .int x :: r => some (pc + 1, ls, .long x.toInt64 :: r, h)
    | _ => none
  | .l2i => match st with
    | .long x :: r => some (pc + 1, ls, .int x.toInt32 :: r, h)
    | _ => none
  | .i2b => match st with
    | .int x :: r => some (pc + 1, ls, .int x.toInt8.toInt32 :: r, h)
    | _ => none
  | .lcmp => match st with
    | .long y :: .long x :: r => some (pc + 1, ls, .int (lg_cmp x y) :: r, h)
    | _ => none
  | .dup => match st with
    | x :: r => if x.category = 1 then some (pc + 1, ls, x :: x :: r, h) else none
    | _ => none
  | .dup2 => match st with
    | .long x :: r => some (pc + 1, ls, .long x :: .long x :: r, h)
    | x :: y :: r => if x.category = 1 ∧ y.category = 1 then some (pc + 1, ls, x :: y :: x :: y :: r, h) else none
    | _ => none
  | .pop => match st with
    | x :: r => if x.category = 1 then some (pc + 1, ls, r, h) else none
    | _ => none
  | .ifCond c _ => match ops, st with
    | t :: _, .int x :: r => some (am_br c x 0 t (pc + 3), ls, r, h)
    | _, _ => none
  | .if_icmp c _ => match ops, st with
    | t :: _, .int y :: .int x :: r => some (am_br c x y t (pc + 3), ls, r, h)
    | _, _ => none
  | .goto _ => match ops with
    | t :: _ => some (t, ls, st, h)
    | _ => none
  | .ifnull _ => am_nul true ops pc ls st h
  | .ifnonnull _ => am_nul false ops pc ls st h
  | .tableswitch _ lo hi _ => am_tsw lo hi ops ls st h
  | .lookupswitch _ ps => am_lsw ps.toList ops ls st h
  | .getfield _ => am_gf ops pc ls st h
  | .putfield _ => am_pf ops pc ls st h
  | .new _ => am_new ops pc ls st h
  | .newarray _ => am_na 2 ops pc ls st h
  | .anewarray _ => am_na 3 ops pc ls st h
  | .multianewarray _ _ => am_mna ops pc ls st h
  | .iaload => am_ial pc ls st h
  | .baload => am_bal pc ls st h
  | .laload => am_lal pc ls st h
  | .aaload => am_aal pc ls st h
  | .iastore => am_ias pc ls st h
  | .bastore => am_bas pc ls st h
  | .lastore => am_las pc ls st h
  | .aastore => am_aas pc ls st h
  | .arraylength => am_len pc ls st h
  | _ => none
/-- the locals with which a method begins -/
def am_ent1 : List Value → am_L
  | [] => []
  | .long x :: r => some (.long x) :: none :: am_ent1 r
  | .double x :: r => some (.double x) :: none :: am_ent1 r
  | x :: r => some x :: am_ent1 r
def am_ent (ml : Nat) (l : List Value) : am_L := am_ent1 l ++ List.replicate (ml - (am_ent1 l).length) none
def am_cat (l : List Value) : Nat := (l.map fun v => v.category).sum
def am_cgen (run : Nat → am_L → am_H → Option (Option Value × am_H)) (ck mi na ml ci : Nat) (st : List Value) (h : am_H) : Option (List Value × am_H) :=
    if st.length < na then none else
    if ck = 5 ∨ ck = 6 then
      (if am_cat (st.drop na) ≤ 8 ∧ (am_ent1 (st.take na).reverse).length ≤ ml then (match run mi (am_ent ml (st.take na).reverse) h with
        | some (v, h') => some (v.toList ++ st.drop na, h')
        | none => none) else none)
    else match st.drop na with
      | .ref b :: r => if am_cat r ≤ 8 ∧ (am_ent1 (.ref b :: (st.take na).reverse)).length ≤ ml ∧ (ck = 0 ∨ ck = 1 ∨ (h.2.2.1 b).1 = ci) then (match run mi (am_ent ml (.ref b :: (st.take na).reverse)) h with
        | some (v, h') => some (v.toList ++ r, h')
        | none => none) else none
      | _ => none
/-- what a call does, given the callee's run: the stack and the store behind it -/
def am_call (run : Nat → am_L → am_H → Option (Option Value × am_H)) (ops : List Nat) (st : List Value) (h : am_H) : Option (List Value × am_H) := match ops with
  | 2 :: _ => match st with
    | .ref _ :: r => if am_cat r ≤ 8 then some (r, h) else none
    | _ => none
  | 7 :: _ => match st, h with
    | .int c :: .int dp :: .ref a :: .int sp :: .ref b :: r, (n, sl, K, I, L, Q) =>
      if am_cat r ≤ 8 ∧ (K a).1 = 20 ∧ (K b).1 = 20 ∧ ¬ c < 0 ∧ ¬ dp < 0 ∧ ¬ sp < 0 ∧ sp.toNatClampNeg + c.toNatClampNeg ≤ (K b).2 ∧ dp.toNatClampNeg + c.toNatClampNeg ≤ (K a).2 then
        some (r, (n, sl, K, va_up I a (va_cpy (I b) (I a) sp.toNatClampNeg dp.toNatClampNeg c.toNatClampNeg), L, Q)) else none
    | _, _ => none
  | 8 :: _ => match st, h with
    | .ref a :: r, (_, _, K, _, _, _) => if am_cat r ≤ 8 ∧ (K a).1 = 31 then some (.int (Int32.ofNat (K a).2) :: r, h) else none
    | _, _ => none
  | 9 :: _ => match st, h with
    | .int i :: .ref a :: r, (_, _, K, I, _, _) => if am_cat r ≤ 8 ∧ (K a).1 = 31 ∧ ¬ (i < 0 ∨ (K a).2 ≤ i.toNatClampNeg) then some (.int (I a i.toNatClampNeg) :: r, h) else none
    | _, _ => none
  | ck :: mi :: na :: ml :: ci :: _ => am_cgen run ck mi na ml ci st h
  | _ => none
def am_kind (i : Instr) : Nat := match i with
  | .ireturn => 1
  | .lreturn => 1
  | .areturn => 1
  | .return_ => 1
  | .invokevirtual _ => 2
  | .invokespecial _ => 2
  | .invokestatic _ => 2
  | _ => 0
def am_rts (i : Instr) (ops : List Nat) (st : List Value) : Option (Option Value) := match i with
  | .ireturn => match ops, st with
    | 1 :: _, [.int x] => if x = 0 ∨ x = 1 then some (some (.int x)) else none
    | 0 :: _, [.int x] => some (some (.int x))
    | _, _ => none
  | .lreturn => match st with
    | [.long x] => some (some (.long x))
    | _ => none
  | .areturn => match st with
    | [.ref x] => some (some (.ref x))
    | [.null] => some (some .null)
    | _ => none
  | .return_ => match st with
    | [] => some none
    | _ => none
  | _ => none
/-- the run of a method: what it answers, and the store behind it; fuel, depth of calls left -/
def am_run : Nat → Nat → Nat → Nat → am_L → List Value → am_H → Option (Option Value × am_H)
  | 0, _, _, _, _, _, _ => none
  | f + 1, d, mi, pc, ls, st, h => match am_P mi pc with
    | none => none
    | some (i, _, ops, v) => match am_kind i with
      | 0 => match am_1 i ops v pc ls st h with
        | some (pc', ls', st', h') => am_run f d mi pc' ls' st' h'
        | none => none
      | 1 => match am_rts i ops st with
        | some rv => some (rv, h)
        | none => none
      | _ => match d with
        | 0 => none
        | d' + 1 => match am_call (fun mi' ls' h' => am_run f d' mi' 0 ls' [] h') ops st h with
          | some (st', h') => am_run f (d' + 1) mi (pc + 3) ls st' h'
          | none => none
/-- the run from here on ends so -/
def am_Ev (d mi pc : Nat) (ls : am_L) (st : List Value) (h : am_H) (r : Option Value × am_H) : Prop := ∃ f, am_run f d mi pc ls st h = some r
/-! what the tables must say of an instruction -/
def am_RX (ci : Nat) : String := (am_classes.getD ci (RX10, TX10, 0)).1
def am_TX (ci : Nat) : u_T := (am_classes.getD ci (RX10, TX10, 0)).2.1
def am_mi (mi : Nat) : am_MT := am_ML.getD mi (RL, yL_law, cL_law, 4, ret, 0)
def am_wd (i : Nat) (w : Cond) : Bool := decide (am_wt i = some w) && am_gw w
/-- what Math's natives of the model take and give: fractions alone -/
def am_fd : List String := ["(D)D", "(DD)D", "(DDD)D", "(F)F", "(FF)F", "(FFF)F"]
def am_pl (y : MethodName) : Bool := plainName y.cls || (decide (y.cls = "java/lang/Math") && !am_fd.contains y.desc)
def am_ty (t : Nat) : FieldType := match t with
  | 20 => .int
  | 21 => .long
  | 22 => .byte
  | 23 => .boolean
  | 24 => .object RX0
  | 25 => .array .int
  | _ => .array .long
def am_stl : List String := ["lead", "pipe", "frost", "stop", "allow", "limit", "when", "o\x72", "and", "not", "all", "lean", "rate", "worst", "wate\x72", "day", "tons", "drawn", "load", "min", "max"]
def am_stx (i : Nat) : String := am_stl.getD i ""
def am_tgt (pc : Nat) (off : Int) (t : Nat) : Bool := decide ((pc : Int) + off = (t : Int))
def am_okc (own : String) (ix : Nat) (ops : List Nat) : Bool := match ops with
  | 2 :: w1 :: w2 :: w3 :: _ => am_wd w1 (.methodLink own ix objectInit) && am_wd w2 (.instanceMethod objectInit) && am_wd w3 (.code objectInit ⟨#[0xb1]⟩ 1 none)
  | 7 :: w1 :: w2 :: w3 :: w4 :: _ => am_wd w1 (.methodLink own ix arraycopyName) && am_wd w2 (.native arraycopyName) && am_wd w3 (.static arraycopyName) && am_wd w4 (.initialized "java/lang/System")
  | 8 :: _ => true
  | 9 :: _ => true
  | ck :: mi :: na :: ml :: ci :: w1 :: w2 :: w3 :: w4 :: tl =>
    let M := am_mi mi
    let y := M.2.1
    decide (mi < am_N) && decide (M.1 = y.cls) && decide (M.2.2.2.1 = ml) && decide ((parseMethodDescriptor y.desc).map (fun d => d.parameters.length) = some na) && decide (y.cls ≠ "java/lang/invoke/MethodHandle") && decide (y.cls ≠ "java/lang/invoke/VarHandle") && am_pl y && decide (ml + 11 + 8 ≤ 40) &&
    am_wd w2 (.initialized y.cls) && decide (0 < mi) &&
    (match ck, tl with
      | 0, _ => am_wd w1 (.methodLink own ix y) && am_wd w4 (.instanceMethod y) && decide (y.name = "<init>") && decide (M.2.2.2.2.1 = none)
      | 1, _ => am_wd w1 (.methodLinkNest own ix y RX10) && am_wd w4 (.instanceMethod y) && decide (y.name = "<init>") && decide (M.2.2.2.2.1 = none)
      | 3, w5 :: _ => am_wd w1 (.methodLink own ix y) && am_wd w4 (.instanceMethod y) && am_wd w5 (.selects y.cls y y) && decide (ci < 12) && decide (am_RX ci = y.cls)
      | 4, w5 :: _ => am_wd w1 (.methodLinkNest own ix y RX10) && am_wd w4 (.instanceMethod y) && am_wd w5 (.selects y.cls y y) && decide (ci < 12) && decide (am_RX ci = y.cls)
      | 5, _ => am_wd w1 (.methodLink own ix y) && am_wd w4 (.static y)
      | 6, _ => am_wd w1 (.methodLinkNest own ix y RX10) && am_wd w4 (.static y)
      | _, _ => false)
  | _ => false
def am_ok1 (own : String) (nm : String) (rt : Option FieldType) (pc : Nat) (i : Instr) (len : Nat) (ops : List Nat) (v : Value) : Bool := match i with
  | .iconst n => len == 1 && decide (v = .int (Int32.ofInt n))
  | .bipush n => len == 2 && decide (v = .int (Int8.ofInt n).toInt32)
  | .sipush n => len == 3 && decide (v = .int (Int16.ofInt n).toInt32)
  | .lconst n => len == 1 && decide (v = .long (Int64.ofNat (n : Nat)))
  | .ldc ix => len == 2 && (match ops, v with
    | w :: _, .int x => am_wd w (.constant own ix x)
    | w :: _, .ref x => decide (am_B < x) && decide (x < am_B + 22) && decide (own = RX6) && decide (lw_tbl[w]? = some (.stringRef RX6 ix (am_stx (x - am_B - 1)))) && decide (ix = 176 + 2 * (x - am_B - 1))
    | _, _ => false)
  | .ldc_w ix => len == 3 && (match ops, v with
    | w :: _, .int x => am_wd w (.constant own ix x)
    | _, _ => false)
  | .ldc2_w ix => len == 3 && (match ops, v with
    | w :: _, .long x => am_wd w (.constantLong own ix x)
    | _, _ => false)
  | .iload _ => len == 2
  | .lload _ => len == 2
  | .aload _ => len == 2
  | .istore _ => len == 2
  | .lstore _ => len == 2
  | .astore _ => len == 2
  | .iinc _ _ => len == 3
  | .goto off => len == 3 && (match ops with
    | t :: _ => am_tgt pc off t
    | _ => false)
  | .ifCond _ off => len == 3 && (match ops with
    | t :: _ => am_tgt pc off t
    | _ => false)
  | .if_icmp _ off => len == 3 && (match ops with
    | t :: _ => am_tgt pc off t
    | _ => false)
  | .ifnull off => len == 3 && (match ops with
    | t :: _ => am_tgt pc off t
    | _ => false)
  | .ifnonnull off => len == 3 && (match ops with
    | t :: _ => am_tgt pc off t
    | _ => false)
  | .tableswitch d lo hi offs => (match ops with
    | t :: ts => am_tgt pc d t && decide (offs.size = ts.length) && decide (hi - lo + 1 = (ts.length : Int)) && (List.range ts.length).all (fun k => match offs[k]? with
      | some o => am_tgt pc o (ts.getD k t)
      | none => false)
    | _ => false)
  | .lookupswitch d ps => (match ops with
    | t :: ts => am_tgt pc d t && decide (ps.size = ts.length) && (ps.toList.zip ts).all (fun q => am_tgt pc q.1.2 q.2) && (ps.toList.zip (ps.toList.drop 1)).all (fun (a, next) => a.1 < next.1)
    | _ => false)
  | .getfield ix => len == 3 && (match ops with
    | ci :: k :: kd :: ne :: w :: _ => decide (ci < 12) && decide (k < am_NF ci) && decide (am_kd ci k = kd) && (match ne with
      | 0 => am_wd w (.fieldLink own ix (am_TX ci k).1 (am_TX ci k).2.1 (am_TX ci k).2.2.1)
      | _ => am_wd w (.fieldLinkNest own ix (am_TX ci k).1 (am_TX ci k).2.1 (am_TX ci k).2.2.1 RX10))
    | _ => false)
  | .putfield ix => len == 3 && (match ops with
    | ci :: k :: kd :: ne :: w :: fi :: _ => decide (ci < 12) && decide (k < am_NF ci) && decide (am_kd ci k = kd) && (match ne, fi with
      | 0, 0 => am_wd w (.fieldLink own ix (am_TX ci k).1 (am_TX ci k).2.1 (am_TX ci k).2.2.1) && decide ((am_TX ci k).2.2.2 = false)
      | 0, _ => am_wd w (.fieldLink own ix (am_TX ci k).1 (am_TX ci k).2.1 (am_TX ci k).2.2.1) && decide ((am_TX ci k).2.2.2 = true) && decide (nm = "<init>") && decide ((am_TX ci k).1 = own)
      | _, _ => am_wd w (.fieldLinkNest own ix (am_TX ci k).1 (am_TX ci k).2.1 (am_TX ci k).2.2.1 RX10) && decide ((am_TX ci k).2.2.2 = false))
    | _ => false)
  | .new ix => len == 3 && (match ops with
    | ci :: w1 :: w2 :: w3 :: _ => decide (ci < 12) && am_wd w1 (.classLink own ix (am_RX ci)) && am_wd w2 (.instantiable (am_RX ci) (am_NF ci)) && am_wd w3 (.initialized (am_RX ci))
    | _ => false)
  | .newarray a => len == 2 && (match ops with
    | t :: w :: _ => decide (20 ≤ t) && decide (t ≤ 23) && decide (newarray.typeOf a = am_ty t) && am_wd w (.arrayClass (newarray.typeOf a))
    | _ => false)
  | .anewarray ix => len == 3 && (match ops with
    | t :: w :: _ => decide (t = 24) && am_wd w (.classLink own ix RX0)
    | _ => false)
  | .multianewarray ix dm => len == 4 && decide (dm = 2) && (match ops with
    | 25 :: w :: _ => am_wd w (.classLink own ix "[[I")
    | 26 :: w :: _ => am_wd w (.classLink own ix "[[J")
    | _ => false)
  | .invokevirtual ix => len == 3 && (match ops with
    | 3 :: _ => am_okc own ix ops
    | 4 :: _ => am_okc own ix ops
    | 8 :: w :: _ => am_wd w (.methodLink own ix yJ0_length_8abf5) && decide (own = RX6)
    | 9 :: w :: _ => am_wd w (.methodLink own ix yJ0_charAt_5068e) && decide (own = RX6)
    | _ => false)
  | .invokespecial ix => len == 3 && (match ops with
    | 0 :: _ => am_okc own ix ops
    | 1 :: _ => am_okc own ix ops
    | 2 :: _ => am_okc own ix ops
    | _ => false)
  | .invokestatic ix => len == 3 && (match ops with
    | 5 :: _ => am_okc own ix ops
    | 6 :: _ => am_okc own ix ops
    | 7 :: _ => am_okc own ix ops
    | _ => false)
  | .ireturn => len == 1 && (match ops with
    | 0 :: _ => decide (rt = some .int)
    | 1 :: _ => decide (rt = some .boolean)
    | _ => false)
  | .lreturn => len == 1 && decide (rt = some .long)
  | .return_ => len == 1 && decide (rt = none)
  | .areturn => len == 1 && (match rt with
    | some (.object _) => true
    | some (.array _) => true
    | _ => false)
  | _ => len == 1
def am_okE (mi pc : Nat) (e : am_E) : Bool := match am_mi mi with
  | (own, y, cc, _, rt, _) => decide (decode cc pc = .ok (e.1, e.2.1)) && decide (own = y.cls) && am_ok1 own y.name rt pc e.1 e.2.1 e.2.2.1 e.2.2.2
