/-! MAYDO, of the reference -/
theorem vdR_2 {vf : List Nat → Int64} {W : Nat} {much : Int32} : ∀ {l : List (Nat × Nat × List Nat)} {a m : Bool}, vdR vf W much true a m l = 2 := by
  intro l
  induction l with
  | nil => intro a m; rfl
  | cons t r ih =>
    intro a m
    unfold vdR
    by_cases c1 : t.1 = 3
    · rw [if_pos c1]
      have e : (if lg_cmp (vf t.2.2) 0 = 0 then true else true) = true := by split <;> rfl
      rw [e]; exact ih
    · rw [if_neg c1]
      by_cases c2 : t.1 = 4 ∧ t.2.1 = W
      · rw [if_pos c2]; exact ih
      · rw [if_neg c2]
        by_cases c3 : t.1 = 5 ∧ t.2.1 = W
        · rw [if_pos c3]; exact ih
        · rw [if_neg c3]; exact ih
theorem ruL_ruL {L : Nat → Nat → Int64} {w w' : Nat → Int64} : ruL (ruL L w) w' = ruL L w' := by
  funext j i
  unfold ruL
  by_cases h : j = 119
  · subst h; rfl
  · rw [rdI_nb h]; rfl
theorem v01 {v : Int64} (h : v = 0 ∨ v = 1) : lg_cmp v 1 = 0 ↔ ¬ lg_cmp v 0 = 0 := by
  rcases h with rfl | rfl <;> decide
/-- the reference's cells of all mandates -/
def mCode (I : Nat → Nat → Int32) (M : Nat → List (Nat × Nat × List Nat)) : Prop := ∀ r, 1 ≤ r → r ≤ nC I → I 107 r = 4 → I 82 r = nI (M r).length ∧ (M r).length ≤ 20 ∧ (∀ t ∈ M r, t.2.1 < 2147483648) ∧ cdL r (I 83) (I 84) (I 85) (I 86) (I 87) 0 (M r)
theorem mload_g {I : Nat → Nat → Int32} {L : Nat → Nat → Int64} {c : Nat} {t m : Int} (hc : c < 16777216) (h57 : L 80 57 = jL t) (h58 : L 80 58 = jL m) (ht : -300000 ≤ t ∧ t ≤ 300000) (hm : -9000000000 ≤ m ∧ m ≤ 9000000000) : sp_m_loadOf (nI c) I L = jL (ldZ t m c) := by
  have hb := ldg_b hc ht hm
  have hd := divB (a := t * 42500 + m * (2 * (c : Int) - 15)) (b := 680000) (A := 320000000000000000) hb (by decide)
  have hv : sp_m_over (((L 80 57) * 42500) + ((L 80 58) * ((2 * (nI c).toInt64) - 15))) 680000 = jL ((t * 42500 + m * (2 * (c : Int) - 15)) / 680000) := by
    rw [h57, h58, nI_j, jI_64 ⟨by omega, by omega⟩, show (42500 : Int64) = jL 42500 from rfl, show (2 : Int64) = jL 2 from rfl, show (15 : Int64) = jL 15 from rfl, show (680000 : Int64) = jL 680000 from rfl, jL_mul, jL_mul, jL_sub, jL_mul, jL_add, over_j ⟨by omega, by omega⟩ ⟨by decide, by decide⟩ (by decide)]
  unfold sp_m_loadOf
  rw [hv]
  unfold ldZ
  by_cases h : (t * 42500 + m * (2 * (c : Int) - 15)) / 680000 < 0
  · rw [if_neg (by rw [cmp_ge, show (0 : Int64) = jL 0 from rfl, jL_lt ⟨by omega, by omega⟩ ⟨by decide, by decide⟩]; omega)]
    show jL 0 = jL (max 0 ((t * 42500 + m * (2 * (c : Int) - 15)) / 680000))
    exact congrArg jL (by omega)
  · rw [if_pos (by rw [cmp_ge, show (0 : Int64) = jL 0 from rfl, jL_lt ⟨by omega, by omega⟩ ⟨by decide, by decide⟩]; omega)]
    exact congrArg jL (by omega)
set_option maxHeartbeats 8000000 in
theorem tv_m_ml {d n sl : Nat} {kk : Nat → Nat × Nat} {I : Nat → Nat → Int32} {L : Nat → Nat → Int64} {q : Nat → Nat → Option Nat} {N D W LN : Nat} {much : Int32} (hN : 1 ≤ N ∧ N ≤ 200) (hW : W < 3) (hD : D < 400) (hT : wfT I) (hB : wfB I) (h57 : L 80 57 = jL (tot I D)) (h58 : L 80 58 = jL (mom I D (pS I D).2)) (h120 : ∀ i, i < 7 → L 120 (i + 1) = jL (fcZ I D i)) (h82 : I 82 N = nI LN) (hLN : LN ≤ 20) : ∀ (l : List (Nat × Nat × List Nat)) (k : Nat) (a m : Bool) (w : Nat → Int64) (o8 : Option Value), k + l.length = LN → (∀ t ∈ l, t.2.1 < 2147483648) → cdL N (I 83) (I 84) (I 85) (I 86) (I 87) k l → am_T (d + 5) 220 28 [some (.ref 80), some (.int (nI W)), some (.int much), some (.int (nI D)), some (.int (nI N)), some (.int (bz a)), some (.int (bz m)), some (.int (nI k)), o8] [] (n, sl, wKK kk, I, (ruL L w), wQQ q) (fun rv h' => rv = some (.int (vdR (vfZ I D) W much false a m (l))) ∧ ∃ w', h' = (n, sl, wKK kk, I, (ruL L w'), wQQ q)) := by
  have hlb := (pS_b hT hB D (by omega)).2
  have hld : ∀ w : Nat → Int64, ∀ c, c < 16777216 → ldF I D c = sp_m_loadOf (nI c) I (ruL L w) := by
    intro w c hc
    unfold ldF
    rw [if_pos hc]
    exact (mload_g hc (L := ruL L w) h57 h58 (tot_b hT hB D) (mom_b hT hB D hlb)).symm
  have hfc : ∀ w : Nat → Int64, ∀ i, i < 7 → fcF I D i = (ruL L w) 120 (i + 1) := fun w i hi => (h120 i hi).symm
  intro l
  induction l with
  | nil =>
    intro k a m w o8 hk hw hc
    have hk2 : k = LN := by have : ([] : List (Nat × Nat × List Nat)).length = 0 := rfl; omega
    refine tv_b (pc' := 36) (ls' := [some (.ref 80), some (.int (nI W)), some (.int much), some (.int (nI D)), some (.int (nI N)), some (.int (bz a)), some (.int (bz m)), some (.int (nI k)), o8]) (st' := [.int (nI N), .ref 82, .int (nI k)]) (h' := (n, sl, wKK kk, I, (ruL L w), wQQ q)) 4 rfl ?_
    refine tv_ialN (k := N) rfl (rfl) (⟨by omega, by omega⟩) ?_
    refine tv_top (h82) ?_
    refine tv_b (pc' := (if (nI LN) ≤ (nI k) then 160 else 40)) (ls' := [some (.ref 80), some (.int (nI W)), some (.int much), some (.int (nI D)), some (.int (nI N)), some (.int (bz a)), some (.int (bz m)), some (.int (nI k)), o8]) (st' := []) (h' := (n, sl, wKK kk, I, (ruL L w), wQQ q)) 1 rfl ?_
    refine tv_t ((nI_leI (a := LN) (b := k) (by omega) (by omega)).mpr (by omega)) ?_
    refine tv_b (pc' := (if (bz a) = 0 then 165 else 169)) (ls' := [some (.ref 80), some (.int (nI W)), some (.int much), some (.int (nI D)), some (.int (nI N)), some (.int (bz a)), some (.int (bz m)), some (.int (nI k)), o8]) (st' := []) (h' := (n, sl, wKK kk, I, (ruL L w), wQQ q)) 2 rfl ?_
    refine tv_if (fun c162 => ?_) (fun c162 => ?_)
    · refine tv_b (pc' := 179) (ls' := [some (.ref 80), some (.int (nI W)), some (.int much), some (.int (nI D)), some (.int (nI N)), some (.int (bz a)), some (.int (bz m)), some (.int (nI k)), o8]) (st' := [.int 3]) (h' := (n, sl, wKK kk, I, (ruL L w), wQQ q)) 2 rfl ?_
      exact tv_ri rfl ⟨by unfold vdR; rw [if_neg (fun q => absurd q (by decide)), if_neg (fun q => absurd c162 (by rw [q]; decide))], w, rfl⟩
    · refine tv_b (pc' := (if (bz m) = 0 then 178 else 174)) (ls' := [some (.ref 80), some (.int (nI W)), some (.int much), some (.int (nI D)), some (.int (nI N)), some (.int (bz a)), some (.int (bz m)), some (.int (nI k)), o8]) (st' := []) (h' := (n, sl, wKK kk, I, (ruL L w), wQQ q)) 2 rfl ?_
      refine tv_if (fun c171 => ?_) (fun c171 => ?_)
      · refine tv_b (pc' := 179) (ls' := [some (.ref 80), some (.int (nI W)), some (.int much), some (.int (nI D)), some (.int (nI N)), some (.int (bz a)), some (.int (bz m)), some (.int (nI k)), o8]) (st' := [.int 0]) (h' := (n, sl, wKK kk, I, (ruL L w), wQQ q)) 1 rfl ?_
        exact tv_ri rfl ⟨by unfold vdR; rw [if_neg (fun q => absurd q (by decide)), if_pos (bz_1 c162), if_neg (fun q => absurd c171 (by rw [q]; decide))], w, rfl⟩
      · refine tv_b (pc' := 179) (ls' := [some (.ref 80), some (.int (nI W)), some (.int much), some (.int (nI D)), some (.int (nI N)), some (.int (bz a)), some (.int (bz m)), some (.int (nI k)), o8]) (st' := [.int 4]) (h' := (n, sl, wKK kk, I, (ruL L w), wQQ q)) 2 rfl ?_
        exact tv_ri rfl ⟨by unfold vdR; rw [if_neg (fun q => absurd q (by decide)), if_pos (bz_1 c162), if_pos (bz_1 c171)], w, rfl⟩
  | cons t r ih =>
    intro k a m w o8 hk hw hc
    have el : (t :: r).length = r.length + 1 := rfl
    rw [el] at hk
    obtain ⟨⟨h83, h84, ⟨h3, h5⟩, A, rs, h85, h86, hA8, hcell, hEq⟩, hc2⟩ := hc
    have hw1 := hw t (List.mem_cons_self ..)
    obtain ⟨_, hev, h01⟩ := vfZ_v hT hB hD hEq
    have ih2 := fun a m w o8 => ih (k + 1) a m w o8 (by omega) (fun t ht => hw t (List.mem_cons_of_mem _ ht)) hc2
    have h01' : t.1 ≠ 5 → vfZ I D t.2.2 = 0 ∨ vfZ I D t.2.2 = 1 := fun h => h01 (by rw [show Nat.beq t.1 5 = false from Bool.eq_false_iff.mpr (fun q => h (Nat.eq_of_beq_eq_true q))]; rfl)
    have hruns : ∀ w, am_T (d + 4) 219 0 (am_ent 8 [.ref 80, .int (nI N), .int (nI k)]) [] (n, sl, wKK kk, I, ruL L w, wQQ q) (fun rv h' => rv = some (.long (vfZ I D t.2.2)) ∧ ∃ w', h' = (n, sl, wKK kk, I, ruL (ruL L w) w', wQQ q)) := fun w => tv_m_runs hN.2 (by omega) hA8 h86 (hld w) (hfc w) h85 hcell rfl hev
    have hwk : t.1 ≠ 3 → (wkI t.1 t.2.1 = nI W ↔ t.2.1 = W) := fun h => by unfold wkI; rw [if_neg h]; exact nI_eqI (by omega) (by omega)
    have hwk3 : t.1 = 3 → ¬ wkI t.1 t.2.1 = nI W := fun h => by
      unfold wkI
      rw [if_pos h]
      have : W = 0 ∨ W = 1 ∨ W = 2 := by omega
      rcases this with rfl | rfl | rfl <;> decide
    have hV : vdR (vfZ I D) W much false a m (t :: r) = (if t.1 = 3 then vdR (vfZ I D) W much (if lg_cmp (vfZ I D t.2.2) 0 = 0 then false else true) a m r
      else if t.1 = 4 ∧ t.2.1 = W then vdR (vfZ I D) W much false (if lg_cmp (vfZ I D t.2.2) 0 = 0 then a else true) m r
      else if t.1 = 5 ∧ t.2.1 = W then vdR (vfZ I D) W much false a (if lg_cmp much.toInt64 (vfZ I D t.2.2) ≤ 0 then m else true) r
      else vdR (vfZ I D) W much false a m r) := rfl
    rw [hV]
    refine tv_b (pc' := 36) (ls' := [some (.ref 80), some (.int (nI W)), some (.int much), some (.int (nI D)), some (.int (nI N)), some (.int (bz a)), some (.int (bz m)), some (.int (nI k)), o8]) (st' := [.int (nI N), .ref 82, .int (nI k)]) (h' := (n, sl, wKK kk, I, (ruL L w), wQQ q)) 4 rfl ?_
    refine tv_ialN (k := N) rfl (rfl) (⟨by omega, by omega⟩) ?_
    refine tv_top (h82) ?_
    refine tv_b (pc' := (if (nI LN) ≤ (nI k) then 160 else 40)) (ls' := [some (.ref 80), some (.int (nI W)), some (.int much), some (.int (nI D)), some (.int (nI N)), some (.int (bz a)), some (.int (bz m)), some (.int (nI k)), o8]) (st' := []) (h' := (n, sl, wKK kk, I, (ruL L w), wQQ q)) 1 rfl ?_
    refine tv_f (fun hq => absurd ((nI_leI (a := LN) (b := k) (by omega) (by omega)).mp hq) (by omega)) ?_
    refine tv_b (pc' := 44) (ls' := [some (.ref 80), some (.int (nI W)), some (.int much), some (.int (nI D)), some (.int (nI N)), some (.int (bz a)), some (.int (bz m)), some (.int (nI k)), o8]) (st' := [.int (nI N), .int 20]) (h' := (n, sl, wKK kk, I, (ruL L w), wQQ q)) 2 rfl ?_
    refine tv_b (pc' := 45) (ls' := [some (.ref 80), some (.int (nI W)), some (.int much), some (.int (nI D)), some (.int (nI N)), some (.int (bz a)), some (.int (bz m)), some (.int (nI k)), o8]) (st' := [.int (20 * (nI N))]) (h' := (n, sl, wKK kk, I, (ruL L w), wQQ q)) 1 rfl ?_
    refine tv_top (show 20 * (nI N) = nI (20 * N) from nI_mul 20 N) ?_
    refine tv_b (pc' := 47) (ls' := [some (.ref 80), some (.int (nI W)), some (.int much), some (.int (nI D)), some (.int (nI N)), some (.int (bz a)), some (.int (bz m)), some (.int (nI k)), o8]) (st' := [.int (nI k), .int (nI (20 * N))]) (h' := (n, sl, wKK kk, I, (ruL L w), wQQ q)) 1 rfl ?_
    refine tv_b (pc' := 48) (ls' := [some (.ref 80), some (.int (nI W)), some (.int much), some (.int (nI D)), some (.int (nI N)), some (.int (bz a)), some (.int (bz m)), some (.int (nI k)), o8]) (st' := [.int ((nI (20 * N)) + (nI k))]) (h' := (n, sl, wKK kk, I, (ruL L w), wQQ q)) 1 rfl ?_
    refine tv_top (show (nI (20 * N)) + (nI k) = nI ((20 * N) + k) from nI_add (20 * N) k) ?_
    refine tv_b (pc' := 56) (ls' := [some (.ref 80), some (.int (nI W)), some (.int much), some (.int (nI D)), some (.int (nI N)), some (.int (bz a)), some (.int (bz m)), some (.int (nI k)), some (.int (nI ((20 * N) + k)))]) (st' := [.int (nI ((20 * N) + k)), .ref 83]) (h' := (n, sl, wKK kk, I, (ruL L w), wQQ q)) 4 rfl ?_
    refine tv_ialN (k := ((20 * N) + k)) rfl (rfl) (⟨by omega, by omega⟩) ?_
    refine tv_top (h83) ?_
    refine tv_b (pc' := (if (nI (t.1 - 3)) = 0 then 60 else 75)) (ls' := [some (.ref 80), some (.int (nI W)), some (.int much), some (.int (nI D)), some (.int (nI N)), some (.int (bz a)), some (.int (bz m)), some (.int (nI k)), some (.int (nI ((20 * N) + k)))]) (st' := []) (h' := (n, sl, wKK kk, I, (ruL L w), wQQ q)) 1 rfl ?_
    refine tv_ifq (nI_eq (a := (t.1 - 3)) (b := 0) (by omega) (by omega)) (fun c57 => ?_) (fun c57 => ?_)
    · refine tv_b (pc' := 65) (ls' := [some (.ref 80), some (.int (nI W)), some (.int much), some (.int (nI D)), some (.int (nI N)), some (.int (bz a)), some (.int (bz m)), some (.int (nI k)), some (.int (nI ((20 * N) + k)))]) (st' := [.int (nI k), .int (nI N), .ref 80]) (h' := (n, sl, wKK kk, I, (ruL L w), wQQ q)) 3 rfl ?_
      refine tv_cv [.int (nI N), .int (nI k)] [] rfl rfl (by omega) rfl (Nat.le_of_ble_eq_true rfl) (Nat.le_of_ble_eq_true rfl) (Or.inr (Or.inr rfl)) (hruns _) ?_
      rintro rv9 h9 ⟨rfl, w9, rfl⟩
      rw [ruL_ruL]
      refine tv_b (pc' := (if (lg_cmp (vfZ I D t.2.2) 1) = 0 then 73 else 75)) (ls' := [some (.ref 80), some (.int (nI W)), some (.int much), some (.int (nI D)), some (.int (nI N)), some (.int (bz a)), some (.int (bz m)), some (.int (nI k)), some (.int (nI ((20 * N) + k)))]) (st' := []) (h' := (n, sl, wKK kk, I, (ruL L w9), wQQ q)) 3 rfl ?_
      refine tv_if (fun c70 => ?_) (fun c70 => ?_)
      · refine tv_b (pc' := 74) (ls' := [some (.ref 80), some (.int (nI W)), some (.int much), some (.int (nI D)), some (.int (nI N)), some (.int (bz a)), some (.int (bz m)), some (.int (nI k)), some (.int (nI ((20 * N) + k)))]) (st' := [.int 2]) (h' := (n, sl, wKK kk, I, (ruL L w9), wQQ q)) 1 rfl ?_
        exact tv_ri rfl ⟨by rw [if_pos (show t.1 = 3 by omega), if_neg ((v01 (h01' (by omega))).mp c70), vdR_2], _, rfl⟩
      · refine tv_b (pc' := 81) (ls' := [some (.ref 80), some (.int (nI W)), some (.int much), some (.int (nI D)), some (.int (nI N)), some (.int (bz a)), some (.int (bz m)), some (.int (nI k)), some (.int (nI ((20 * N) + k)))]) (st' := [.int (nI ((20 * N) + k)), .ref 84]) (h' := (n, sl, wKK kk, I, (ruL L w9), wQQ q)) 3 rfl ?_
        refine tv_ialN (k := ((20 * N) + k)) rfl (rfl) (⟨by omega, by omega⟩) ?_
        refine tv_top (h84) ?_
        refine tv_b (pc' := (if (wkI t.1 t.2.1) = (nI W) then 89 else 86)) (ls' := [some (.ref 80), some (.int (nI W)), some (.int much), some (.int (nI D)), some (.int (nI N)), some (.int (bz a)), some (.int (bz m)), some (.int (nI k)), some (.int (nI ((20 * N) + k)))]) (st' := []) (h' := (n, sl, wKK kk, I, (ruL L w9), wQQ q)) 2 rfl ?_
        refine tv_f (hwk3 (by omega)) ?_
        refine tv_b (pc' := 154) (ls' := [some (.ref 80), some (.int (nI W)), some (.int much), some (.int (nI D)), some (.int (nI N)), some (.int (bz a)), some (.int (bz m)), some (.int (nI k)), some (.int (nI ((20 * N) + k)))]) (st' := []) (h' := (n, sl, wKK kk, I, (ruL L w9), wQQ q)) 1 rfl ?_
        refine tv_iincN (k := k) (ls' := [some (.ref 80), some (.int (nI W)), some (.int much), some (.int (nI D)), some (.int (nI N)), some (.int (bz a)), some (.int (bz m)), some (.int (nI (k + 1))), some (.int (nI ((20 * N) + k)))]) rfl rfl rfl ?_
        refine tv_b (pc' := 28) (ls' := [some (.ref 80), some (.int (nI W)), some (.int much), some (.int (nI D)), some (.int (nI N)), some (.int (bz a)), some (.int (bz m)), some (.int (nI (k + 1))), some (.int (nI ((20 * N) + k)))]) (st' := []) (h' := (n, sl, wKK kk, I, (ruL L w9), wQQ q)) 1 rfl ?_
        have v0 : lg_cmp (vfZ I D t.2.2) 0 = 0 := Classical.not_not.mp (fun q => c70 ((v01 (h01' (by omega))).mpr q))
        rw [if_pos (show t.1 = 3 by omega), if_pos v0]
        exact ih2 a m w9 _
    · refine tv_b (pc' := 81) (ls' := [some (.ref 80), some (.int (nI W)), some (.int much), some (.int (nI D)), some (.int (nI N)), some (.int (bz a)), some (.int (bz m)), some (.int (nI k)), some (.int (nI ((20 * N) + k)))]) (st' := [.int (nI ((20 * N) + k)), .ref 84]) (h' := (n, sl, wKK kk, I, (ruL L w), wQQ q)) 3 rfl ?_
      refine tv_ialN (k := ((20 * N) + k)) rfl (rfl) (⟨by omega, by omega⟩) ?_
      refine tv_top (h84) ?_
      refine tv_b (pc' := (if (wkI t.1 t.2.1) = (nI W) then 89 else 86)) (ls' := [some (.ref 80), some (.int (nI W)), some (.int much), some (.int (nI D)), some (.int (nI N)), some (.int (bz a)), some (.int (bz m)), some (.int (nI k)), some (.int (nI ((20 * N) + k)))]) (st' := []) (h' := (n, sl, wKK kk, I, (ruL L w), wQQ q)) 2 rfl ?_
      refine tv_if (fun c83 => ?_) (fun c83 => ?_)
      · refine tv_b (pc' := 95) (ls' := [some (.ref 80), some (.int (nI W)), some (.int much), some (.int (nI D)), some (.int (nI N)), some (.int (bz a)), some (.int (bz m)), some (.int (nI k)), some (.int (nI ((20 * N) + k)))]) (st' := [.int (nI ((20 * N) + k)), .ref 83]) (h' := (n, sl, wKK kk, I, (ruL L w), wQQ q)) 3 rfl ?_
        refine tv_ialN (k := ((20 * N) + k)) rfl (rfl) (⟨by omega, by omega⟩) ?_
        refine tv_top (h83) ?_
        refine tv_b (pc' := (if (nI (t.1 - 3)) = 1 then 100 else 128)) (ls' := [some (.ref 80), some (.int (nI W)), some (.int much), some (.int (nI D)), some (.int (nI N)), some (.int (bz a)), some (.int (bz m)), some (.int (nI k)), some (.int (nI ((20 * N) + k)))]) (st' := []) (h' := (n, sl, wKK kk, I, (ruL L w), wQQ q)) 2 rfl ?_
        refine tv_ifq (nI_eq (a := (t.1 - 3)) (b := 1) (by omega) (by omega)) (fun c97 => ?_) (fun c97 => ?_)
        · refine tv_b (pc' := (if (bz a) = 0 then 105 else 118)) (ls' := [some (.ref 80), some (.int (nI W)), some (.int much), some (.int (nI D)), some (.int (nI N)), some (.int (bz a)), some (.int (bz m)), some (.int (nI k)), some (.int (nI ((20 * N) + k)))]) (st' := []) (h' := (n, sl, wKK kk, I, (ruL L w), wQQ q)) 2 rfl ?_
          refine tv_if (fun c102 => ?_) (fun c102 => ?_)
          · refine tv_b (pc' := 110) (ls' := [some (.ref 80), some (.int (nI W)), some (.int much), some (.int (nI D)), some (.int (nI N)), some (.int (bz a)), some (.int (bz m)), some (.int (nI k)), some (.int (nI ((20 * N) + k)))]) (st' := [.int (nI k), .int (nI N), .ref 80]) (h' := (n, sl, wKK kk, I, (ruL L w), wQQ q)) 3 rfl ?_
            refine tv_cv [.int (nI N), .int (nI k)] [] rfl rfl (by omega) rfl (Nat.le_of_ble_eq_true rfl) (Nat.le_of_ble_eq_true rfl) (Or.inr (Or.inr rfl)) (hruns _) ?_
            rintro rv9 h9 ⟨rfl, w9, rfl⟩
            rw [ruL_ruL]
            refine tv_b (pc' := (if (lg_cmp (vfZ I D t.2.2) 1) = 0 then 118 else 122)) (ls' := [some (.ref 80), some (.int (nI W)), some (.int much), some (.int (nI D)), some (.int (nI N)), some (.int (bz a)), some (.int (bz m)), some (.int (nI k)), some (.int (nI ((20 * N) + k)))]) (st' := []) (h' := (n, sl, wKK kk, I, (ruL L w9), wQQ q)) 3 rfl ?_
            refine tv_if (fun c115 => ?_) (fun c115 => ?_)
            · refine tv_b (pc' := 154) (ls' := [some (.ref 80), some (.int (nI W)), some (.int much), some (.int (nI D)), some (.int (nI N)), some (.int 1), some (.int (bz m)), some (.int (nI k)), some (.int (nI ((20 * N) + k)))]) (st' := []) (h' := (n, sl, wKK kk, I, (ruL L w9), wQQ q)) 4 rfl ?_
              refine tv_iincN (k := k) (ls' := [some (.ref 80), some (.int (nI W)), some (.int much), some (.int (nI D)), some (.int (nI N)), some (.int 1), some (.int (bz m)), some (.int (nI (k + 1))), some (.int (nI ((20 * N) + k)))]) rfl rfl rfl ?_
              refine tv_b (pc' := 28) (ls' := [some (.ref 80), some (.int (nI W)), some (.int much), some (.int (nI D)), some (.int (nI N)), some (.int 1), some (.int (bz m)), some (.int (nI (k + 1))), some (.int (nI ((20 * N) + k)))]) (st' := []) (h' := (n, sl, wKK kk, I, (ruL L w9), wQQ q)) 1 rfl ?_
              rw [if_neg (show ¬ t.1 = 3 by omega), if_pos ⟨show t.1 = 4 by omega, (hwk (by omega)).mp c83⟩]
              have ea : a = false := by cases a; rfl; exact absurd c102 (by decide)
              rw [if_neg ((v01 (h01' (by omega))).mp c115)]
              exact ih2 true m w9 _
            · refine tv_b (pc' := 154) (ls' := [some (.ref 80), some (.int (nI W)), some (.int much), some (.int (nI D)), some (.int (nI N)), some (.int 0), some (.int (bz m)), some (.int (nI k)), some (.int (nI ((20 * N) + k)))]) (st' := []) (h' := (n, sl, wKK kk, I, (ruL L w9), wQQ q)) 3 rfl ?_
              refine tv_iincN (k := k) (ls' := [some (.ref 80), some (.int (nI W)), some (.int much), some (.int (nI D)), some (.int (nI N)), some (.int 0), some (.int (bz m)), some (.int (nI (k + 1))), some (.int (nI ((20 * N) + k)))]) rfl rfl rfl ?_
              refine tv_b (pc' := 28) (ls' := [some (.ref 80), some (.int (nI W)), some (.int much), some (.int (nI D)), some (.int (nI N)), some (.int 0), some (.int (bz m)), some (.int (nI (k + 1))), some (.int (nI ((20 * N) + k)))]) (st' := []) (h' := (n, sl, wKK kk, I, (ruL L w9), wQQ q)) 1 rfl ?_
              rw [if_neg (show ¬ t.1 = 3 by omega), if_pos ⟨show t.1 = 4 by omega, (hwk (by omega)).mp c83⟩]
              have ea : a = false := by cases a; rfl; exact absurd c102 (by decide)
              rw [if_pos (Classical.not_not.mp (fun q => c115 ((v01 (h01' (by omega))).mpr q))), ea]
              exact ih2 false m w9 _
          · refine tv_b (pc' := 154) (ls' := [some (.ref 80), some (.int (nI W)), some (.int much), some (.int (nI D)), some (.int (nI N)), some (.int 1), some (.int (bz m)), some (.int (nI k)), some (.int (nI ((20 * N) + k)))]) (st' := []) (h' := (n, sl, wKK kk, I, (ruL L w), wQQ q)) 4 rfl ?_
            refine tv_iincN (k := k) (ls' := [some (.ref 80), some (.int (nI W)), some (.int much), some (.int (nI D)), some (.int (nI N)), some (.int 1), some (.int (bz m)), some (.int (nI (k + 1))), some (.int (nI ((20 * N) + k)))]) rfl rfl rfl ?_
            refine tv_b (pc' := 28) (ls' := [some (.ref 80), some (.int (nI W)), some (.int much), some (.int (nI D)), some (.int (nI N)), some (.int 1), some (.int (bz m)), some (.int (nI (k + 1))), some (.int (nI ((20 * N) + k)))]) (st' := []) (h' := (n, sl, wKK kk, I, (ruL L w), wQQ q)) 1 rfl ?_
            rw [if_neg (show ¬ t.1 = 3 by omega), if_pos ⟨show t.1 = 4 by omega, (hwk (by omega)).mp c83⟩]
            have ea : (if lg_cmp (vfZ I D t.2.2) 0 = 0 then a else true) = true := by rw [bz_1 c102]; split <;> rfl
            rw [ea]
            exact ih2 true m w _
        · refine tv_b (pc' := (if (bz m) = 0 then 133 else 147)) (ls' := [some (.ref 80), some (.int (nI W)), some (.int much), some (.int (nI D)), some (.int (nI N)), some (.int (bz a)), some (.int (bz m)), some (.int (nI k)), some (.int (nI ((20 * N) + k)))]) (st' := []) (h' := (n, sl, wKK kk, I, (ruL L w), wQQ q)) 2 rfl ?_
          refine tv_if (fun c130 => ?_) (fun c130 => ?_)
          · refine tv_b (pc' := 140) (ls' := [some (.ref 80), some (.int (nI W)), some (.int much), some (.int (nI D)), some (.int (nI N)), some (.int (bz a)), some (.int (bz m)), some (.int (nI k)), some (.int (nI ((20 * N) + k)))]) (st' := [.int (nI k), .int (nI N), .ref 80, .long much.toInt64]) (h' := (n, sl, wKK kk, I, (ruL L w), wQQ q)) 5 rfl ?_
            refine tv_cv [.int (nI N), .int (nI k)] [.long much.toInt64] rfl rfl (by omega) rfl (Nat.le_of_ble_eq_true rfl) (Nat.le_of_ble_eq_true rfl) (Or.inr (Or.inr rfl)) (hruns _) ?_
            rintro rv9 h9 ⟨rfl, w9, rfl⟩
            rw [ruL_ruL]
            refine tv_b (pc' := (if (lg_cmp much.toInt64 (vfZ I D t.2.2)) ≤ 0 then 151 else 147)) (ls' := [some (.ref 80), some (.int (nI W)), some (.int much), some (.int (nI D)), some (.int (nI N)), some (.int (bz a)), some (.int (bz m)), some (.int (nI k)), some (.int (nI ((20 * N) + k)))]) (st' := []) (h' := (n, sl, wKK kk, I, (ruL L w9), wQQ q)) 2 rfl ?_
            refine tv_if (fun c144 => ?_) (fun c144 => ?_)
            · refine tv_b (pc' := 154) (ls' := [some (.ref 80), some (.int (nI W)), some (.int much), some (.int (nI D)), some (.int (nI N)), some (.int (bz a)), some (.int 0), some (.int (nI k)), some (.int (nI ((20 * N) + k)))]) (st' := []) (h' := (n, sl, wKK kk, I, (ruL L w9), wQQ q)) 2 rfl ?_
              refine tv_iincN (k := k) (ls' := [some (.ref 80), some (.int (nI W)), some (.int much), some (.int (nI D)), some (.int (nI N)), some (.int (bz a)), some (.int 0), some (.int (nI (k + 1))), some (.int (nI ((20 * N) + k)))]) rfl rfl rfl ?_
              refine tv_b (pc' := 28) (ls' := [some (.ref 80), some (.int (nI W)), some (.int much), some (.int (nI D)), some (.int (nI N)), some (.int (bz a)), some (.int 0), some (.int (nI (k + 1))), some (.int (nI ((20 * N) + k)))]) (st' := []) (h' := (n, sl, wKK kk, I, (ruL L w9), wQQ q)) 1 rfl ?_
              rw [if_neg (show ¬ t.1 = 3 by omega), if_neg (fun q => absurd q.1 (by omega)), if_pos ⟨show t.1 = 5 by omega, (hwk (by omega)).mp c83⟩]
              have em : m = false := by cases m; rfl; exact absurd c130 (by decide)
              rw [if_pos c144, em]
              exact ih2 a false w9 _
            · refine tv_b (pc' := 154) (ls' := [some (.ref 80), some (.int (nI W)), some (.int much), some (.int (nI D)), some (.int (nI N)), some (.int (bz a)), some (.int 1), some (.int (nI k)), some (.int (nI ((20 * N) + k)))]) (st' := []) (h' := (n, sl, wKK kk, I, (ruL L w9), wQQ q)) 3 rfl ?_
              refine tv_iincN (k := k) (ls' := [some (.ref 80), some (.int (nI W)), some (.int much), some (.int (nI D)), some (.int (nI N)), some (.int (bz a)), some (.int 1), some (.int (nI (k + 1))), some (.int (nI ((20 * N) + k)))]) rfl rfl rfl ?_
              refine tv_b (pc' := 28) (ls' := [some (.ref 80), some (.int (nI W)), some (.int much), some (.int (nI D)), some (.int (nI N)), some (.int (bz a)), some (.int 1), some (.int (nI (k + 1))), some (.int (nI ((20 * N) + k)))]) (st' := []) (h' := (n, sl, wKK kk, I, (ruL L w9), wQQ q)) 1 rfl ?_
              rw [if_neg (show ¬ t.1 = 3 by omega), if_neg (fun q => absurd q.1 (by omega)), if_pos ⟨show t.1 = 5 by omega, (hwk (by omega)).mp c83⟩]
              have em : m = false := by cases m; rfl; exact absurd c130 (by decide)
              rw [if_neg c144]
              exact ih2 a true w9 _
          · refine tv_b (pc' := 154) (ls' := [some (.ref 80), some (.int (nI W)), some (.int much), some (.int (nI D)), some (.int (nI N)), some (.int (bz a)), some (.int 1), some (.int (nI k)), some (.int (nI ((20 * N) + k)))]) (st' := []) (h' := (n, sl, wKK kk, I, (ruL L w), wQQ q)) 3 rfl ?_
            refine tv_iincN (k := k) (ls' := [some (.ref 80), some (.int (nI W)), some (.int much), some (.int (nI D)), some (.int (nI N)), some (.int (bz a)), some (.int 1), some (.int (nI (k + 1))), some (.int (nI ((20 * N) + k)))]) rfl rfl rfl ?_
            refine tv_b (pc' := 28) (ls' := [some (.ref 80), some (.int (nI W)), some (.int much), some (.int (nI D)), some (.int (nI N)), some (.int (bz a)), some (.int 1), some (.int (nI (k + 1))), some (.int (nI ((20 * N) + k)))]) (st' := []) (h' := (n, sl, wKK kk, I, (ruL L w), wQQ q)) 1 rfl ?_
            rw [if_neg (show ¬ t.1 = 3 by omega), if_neg (fun q => absurd q.1 (by omega)), if_pos ⟨show t.1 = 5 by omega, (hwk (by omega)).mp c83⟩]
            have em : (if lg_cmp much.toInt64 (vfZ I D t.2.2) ≤ 0 then m else true) = true := by rw [bz_1 c130]; split <;> rfl
            rw [em]
            exact ih2 a true w _
      · refine tv_b (pc' := 154) (ls' := [some (.ref 80), some (.int (nI W)), some (.int much), some (.int (nI D)), some (.int (nI N)), some (.int (bz a)), some (.int (bz m)), some (.int (nI k)), some (.int (nI ((20 * N) + k)))]) (st' := []) (h' := (n, sl, wKK kk, I, (ruL L w), wQQ q)) 1 rfl ?_
        refine tv_iincN (k := k) (ls' := [some (.ref 80), some (.int (nI W)), some (.int much), some (.int (nI D)), some (.int (nI N)), some (.int (bz a)), some (.int (bz m)), some (.int (nI (k + 1))), some (.int (nI ((20 * N) + k)))]) rfl rfl rfl ?_
        refine tv_b (pc' := 28) (ls' := [some (.ref 80), some (.int (nI W)), some (.int much), some (.int (nI D)), some (.int (nI N)), some (.int (bz a)), some (.int (bz m)), some (.int (nI (k + 1))), some (.int (nI ((20 * N) + k)))]) (st' := []) (h' := (n, sl, wKK kk, I, (ruL L w), wQQ q)) 1 rfl ?_
        have nw : ¬ t.2.1 = W := fun q => c83 ((hwk (by omega)).mpr q)
        rw [if_neg (show ¬ t.1 = 3 by omega), if_neg (fun q => nw q.2), if_neg (fun q => nw q.2)]
        exact ih2 a m w _
set_option maxHeartbeats 4000000 in
theorem tv_m_mayDo {d n sl : Nat} {kk : Nat → Nat × Nat} {I : Nat → Nat → Int32} {L : Nat → Nat → Int64} {q : Nat → Nat → Option Nat} {D W : Nat} {much : Int32} {M : Nat → List (Nat × Nat × List Nat)} (hW : W < 3) (hD : D < 400) (hT : wfT I) (hB : wfB I) (hP : mPl I L) (hM : mCode I M) : am_T (d + 6) 220 0 (am_ent 9 [.ref 80, .int (nI W), .int much, .int (nI D)]) [] (n, sl, wKK kk, I, L, wQQ q) (fun rv h' => rv = some (.int (vdZ I M W much D)) ∧ ∃ L', h' = (n, sl, wKK kk, I, L', wQQ q) ∧ (∀ j, j ≠ 80 → j ≠ 119 → j ≠ 120 → L' j = L j) ∧ (∀ i, i ≠ 57 → i ≠ 58 → L' 80 i = L 80 i)) := by
  obtain ⟨hn1, hn2⟩ := now_N (L := L) hB
  have hcl : (sp_m_now I L).toNatClampNeg = nNow I := now_cl hB
  have hC2 := hB.1.2
  have hfo : ∀ d, am_Ev (d + 2) 213 0 (am_ent 4 [.ref 80, .int (nI D)]) [] (n, sl, wKK kk, I, L, wQQ q) (some (.int (sp_m_inForce (nI D) I L)), (n, sl, wKK kk, I, L, wQQ q)) := fun d => ev_m_inForce (by rw [hcl]; exact hn1) (by rw [hcl]; omega)
  rw [mruling hB hD] at hfo
  have his := rN_is (X := I) (D := D) (nNow I)
  have hle := rN_le (X := I) (D := D) (nNow I)
  unfold vdZ
  generalize rN I D (nNow I) = r at hfo his hle
  by_cases h0 : r = 0
  · rw [if_pos h0]
    show am_T _ _ 0 [some (.ref 80), some (.int (nI W)), some (.int much), some (.int (nI D)), none, none, none, none, none] _ _ _
    refine tv_b (pc' := 2) (ls' := [some (.ref 80), some (.int (nI W)), some (.int much), some (.int (nI D)), none, none, none, none, none]) (st' := [.int (nI D), .ref 80]) (h' := (n, sl, wKK kk, I, L, wQQ q)) 2 rfl ?_
    refine tv_cvE [.int (nI D)] [] rfl rfl (by omega) rfl (Nat.le_of_ble_eq_true rfl) (Nat.le_of_ble_eq_true rfl) (Or.inr (Or.inr rfl)) (hfo _) ?_
    refine tv_b (pc' := (if (nI r) = 0 then 12 else 14)) (ls' := [some (.ref 80), some (.int (nI W)), some (.int much), some (.int (nI D)), some (.int (nI r)), none, none, none, none]) (st' := []) (h' := (n, sl, wKK kk, I, L, wQQ q)) 3 rfl ?_
    refine tv_t ((nI_eq (a := r) (b := 0) (by omega) (by omega)).mpr (by omega)) ?_
    refine tv_b (pc' := 13) (ls' := [some (.ref 80), some (.int (nI W)), some (.int much), some (.int (nI D)), some (.int (nI r)), none, none, none, none]) (st' := [.int 1]) (h' := (n, sl, wKK kk, I, L, wQQ q)) 1 rfl ?_
    exact tv_ri rfl ⟨rfl, L, rfl, fun _ _ _ _ => rfl, fun _ _ _ => rfl⟩
  · rw [if_neg h0]
    obtain ⟨m1, m2, m3, m4⟩ := hM r (by omega) (by omega) (his h0).2.1
    show am_T _ _ 0 [some (.ref 80), some (.int (nI W)), some (.int much), some (.int (nI D)), none, none, none, none, none] _ _ _
    refine tv_b (pc' := 2) (ls' := [some (.ref 80), some (.int (nI W)), some (.int much), some (.int (nI D)), none, none, none, none, none]) (st' := [.int (nI D), .ref 80]) (h' := (n, sl, wKK kk, I, L, wQQ q)) 2 rfl ?_
    refine tv_cvE [.int (nI D)] [] rfl rfl (by omega) rfl (Nat.le_of_ble_eq_true rfl) (Nat.le_of_ble_eq_true rfl) (Or.inr (Or.inr rfl)) (hfo _) ?_
    refine tv_b (pc' := (if (nI r) = 0 then 12 else 14)) (ls' := [some (.ref 80), some (.int (nI W)), some (.int much), some (.int (nI D)), some (.int (nI r)), none, none, none, none]) (st' := []) (h' := (n, sl, wKK kk, I, L, wQQ q)) 3 rfl ?_
    refine tv_f (fun hq => absurd ((nI_eq (a := r) (b := 0) (by omega) (by omega)).mp hq) (by omega)) ?_
    refine tv_b (pc' := 16) (ls' := [some (.ref 80), some (.int (nI W)), some (.int much), some (.int (nI D)), some (.int (nI r)), none, none, none, none]) (st' := [.int (nI D), .ref 80]) (h' := (n, sl, wKK kk, I, L, wQQ q)) 2 rfl ?_
    refine tv_cv [.int (nI D)] [] rfl rfl (by omega) rfl (Nat.le_of_ble_eq_true rfl) (Nat.le_of_ble_eq_true rfl) (Or.inr (Or.inr rfl)) (tv_m_asksOn hD hP hT hB) ?_
    rintro rv9 h9 ⟨rfl, L9, rfl, q1, q2, q3, q4, q5⟩
    refine tv_b (pc' := 28) (ls' := [some (.ref 80), some (.int (nI W)), some (.int much), some (.int (nI D)), some (.int (nI r)), some (.int 0), some (.int 0), some (.int 0), none]) (st' := []) (h' := (n, sl, wKK kk, I, L9, wQQ q)) 6 rfl ?_
    refine tv_hL ruL_self ?_
    refine tv_w (tv_m_ml ⟨by omega, by omega⟩ hW hD hT hB q3 q4 q5 m1 m2 (M r) 0 false false (L9 119) none (Nat.zero_add _) m3 m4) (fun rv h9 ho => ⟨ho.1, ?_⟩)
    obtain ⟨w9, rfl⟩ := ho.2
    exact ⟨_, rfl, fun j j1 j2 j3 => (ruL_n j2).trans (q1 j j1 j3), fun i i1 i2 => q2 i i1 i2⟩
