/-! THE JUDGE'S VERDICT BEHIND ITS LOOK -/
theorem getD_l {a b : List Nat} {j : Nat} (h : j < a.length) : (a ++ b).getD j 0 = a.getD j 0 := by
  unfold List.getD
  rw [List.getElem?_append_left h]
theorem getD_r {a b : List Nat} {j : Nat} : (a ++ b).getD (a.length + j) 0 = b.getD j 0 := by
  unfold List.getD
  rw [List.getElem?_append_right (by omega), show a.length + j - a.length = j by omega]
def vdR (vf : List Nat → Int64) (W : Nat) (much : Int32) : Bool → Bool → Bool → List (Nat × Nat × List Nat) → Int32
  | s, a, m, [] => if s = true then 2 else if a = true then (if m = true then 4 else 0) else 3
  | s, a, m, t :: r => if t.1 = 3 then vdR vf W much (if lg_cmp (vf t.2.2) 0 = 0 then s else true) a m r
    else if t.1 = 4 ∧ t.2.1 = W then vdR vf W much s (if lg_cmp (vf t.2.2) 0 = 0 then a else true) m r
    else if t.1 = 5 ∧ t.2.1 = W then vdR vf W much s a (if lg_cmp much.toInt64 (vf t.2.2) ≤ 0 then m else true) r
    else vdR vf W much s a m r
theorem bz_or1 {s : Bool} : bz s ||| 1 = bz true := by cases s <;> decide
theorem bz_or0 {s : Bool} : bz s ||| 0 = bz s := by cases s <;> decide
theorem bz_1 {b : Bool} (h : ¬ bz b = 0) : b = true := by cases b; exact absurd rfl h; rfl
set_option maxHeartbeats 4000000 in
theorem tv_j_vd {d n sl : Nat} {kk : Nat → Nat × Nat} {I : Nat → Nat → Int32} {L : Nat → Nat → Int64} {q : Nat → Nat → Option Nat} {cod ac len : Nat} {ld fc : Nat → Int64} {vf : List Nat → Int64} {W : Nat} {much day : Int32} (hW : W < 3) (hcod : 131 ≤ cod ∧ kk cod = (20, len)) (hlen : len ≤ 200000) (hld : ∀ c, c < 16777216 → ld c = sp_d_loadOf (nI c) (L 60 5) (L 60 6) I L) (hfc : ∀ i, i < 7 → fc i = L 61 i) : ∀ (l : List (Nat × Nat × List Nat)) (i p : Nat) (s a m : Bool) (w : Nat → Int64) (o1 o2 o3 : Option Value), (∀ j, j < (pa_flat l).length → I cod (p + j) = nI ((pa_flat l).getD j 0)) → p + (pa_flat l).length = len → i + l.length ≤ 20 → (∀ t ∈ l, t.1 < 6 ∧ t.2.1 < 2147483648 ∧ pa_evC ld fc jnC t.2.2 [] = some [vf t.2.2]) → am_T (d + 5) 49 56 [some (.ref 60), some (.int (nI W)), some (.int much), some (.int day), some (.ref ac), some (.ref cod), some (.int (bz s)), some (.int (bz a)), some (.int (bz m)), some (.int (nI p)), some (.int (nI i)), o1, o2, o3] [] (n, sl, wKK kk, I, (jvL L w), wQQ q) (fun rv h' => rv = some (.int (vdR vf W much s a m (l))) ∧ ∃ w', h' = (n, sl, wKK kk, I, (jvL L w'), wQQ q)) := by
  have hKc : wKK kk cod = (20, len) := (wKK_hi hcod.1).trans hcod.2
  intro l
  induction l with
  | nil =>
    intro i p s a m w o1 o2 o3 hcell hp hi hst
    have hp2 : p = len := by have : (pa_flat []).length = 0 := rfl; omega
    by_cases c60 : 20 ≤ i
    · show am_T _ _ 56 [some (.ref 60), some (.int (nI W)), some (.int much), some (.int day), some (.ref ac), some (.ref cod), some (.int (bz s)), some (.int (bz a)), some (.int (bz m)), some (.int (nI p)), some (.int (nI i)), o1, o2, o3] _ _ _
      refine tv_b (pc' := (if 20 ≤ (nI i) then 237 else 63)) (ls' := [some (.ref 60), some (.int (nI W)), some (.int much), some (.int day), some (.ref ac), some (.ref cod), some (.int (bz s)), some (.int (bz a)), some (.int (bz m)), some (.int (nI p)), some (.int (nI i)), o1, o2, o3]) (st' := []) (h' := (n, sl, wKK kk, I, (jvL L w), wQQ q)) 3 rfl ?_
      refine tv_t ((nI_leI (a := 20) (b := i) (by omega) (by omega)).mpr (c60)) ?_
      refine tv_b (pc' := (if (bz s) = 0 then 246 else 242)) (ls' := [some (.ref 60), some (.int (nI W)), some (.int much), some (.int day), some (.ref ac), some (.ref cod), some (.int (bz s)), some (.int (bz a)), some (.int (bz m)), some (.int (nI p)), some (.int (nI i)), o1, o2, o3]) (st' := []) (h' := (n, sl, wKK kk, I, (jvL L w), wQQ q)) 2 rfl ?_
      refine tv_if (fun c239 => ?_) (fun c239 => ?_)
      · refine tv_b (pc' := (if (bz a) = 0 then 251 else 255)) (ls' := [some (.ref 60), some (.int (nI W)), some (.int much), some (.int day), some (.ref ac), some (.ref cod), some (.int (bz s)), some (.int (bz a)), some (.int (bz m)), some (.int (nI p)), some (.int (nI i)), o1, o2, o3]) (st' := []) (h' := (n, sl, wKK kk, I, (jvL L w), wQQ q)) 2 rfl ?_
        refine tv_if (fun c248 => ?_) (fun c248 => ?_)
        · refine tv_b (pc' := 265) (ls' := [some (.ref 60), some (.int (nI W)), some (.int much), some (.int day), some (.ref ac), some (.ref cod), some (.int (bz s)), some (.int (bz a)), some (.int (bz m)), some (.int (nI p)), some (.int (nI i)), o1, o2, o3]) (st' := [.int 3]) (h' := (n, sl, wKK kk, I, (jvL L w), wQQ q)) 2 rfl ?_
          exact tv_ri rfl ⟨by unfold vdR; rw [if_neg (fun q => absurd c239 (by rw [q]; decide)), if_neg (fun q => absurd c248 (by rw [q]; decide))], w, rfl⟩
        · refine tv_b (pc' := (if (bz m) = 0 then 264 else 260)) (ls' := [some (.ref 60), some (.int (nI W)), some (.int much), some (.int day), some (.ref ac), some (.ref cod), some (.int (bz s)), some (.int (bz a)), some (.int (bz m)), some (.int (nI p)), some (.int (nI i)), o1, o2, o3]) (st' := []) (h' := (n, sl, wKK kk, I, (jvL L w), wQQ q)) 2 rfl ?_
          refine tv_if (fun c257 => ?_) (fun c257 => ?_)
          · refine tv_b (pc' := 265) (ls' := [some (.ref 60), some (.int (nI W)), some (.int much), some (.int day), some (.ref ac), some (.ref cod), some (.int (bz s)), some (.int (bz a)), some (.int (bz m)), some (.int (nI p)), some (.int (nI i)), o1, o2, o3]) (st' := [.int 0]) (h' := (n, sl, wKK kk, I, (jvL L w), wQQ q)) 1 rfl ?_
            exact tv_ri rfl ⟨by unfold vdR; rw [if_neg (fun q => absurd c239 (by rw [q]; decide)), if_pos (bz_1 c248), if_neg (fun q => absurd c257 (by rw [q]; decide))], w, rfl⟩
          · refine tv_b (pc' := 265) (ls' := [some (.ref 60), some (.int (nI W)), some (.int much), some (.int day), some (.ref ac), some (.ref cod), some (.int (bz s)), some (.int (bz a)), some (.int (bz m)), some (.int (nI p)), some (.int (nI i)), o1, o2, o3]) (st' := [.int 4]) (h' := (n, sl, wKK kk, I, (jvL L w), wQQ q)) 2 rfl ?_
            exact tv_ri rfl ⟨by unfold vdR; rw [if_neg (fun q => absurd c239 (by rw [q]; decide)), if_pos (bz_1 c248), if_pos (bz_1 c257)], w, rfl⟩
      · refine tv_b (pc' := 265) (ls' := [some (.ref 60), some (.int (nI W)), some (.int much), some (.int day), some (.ref ac), some (.ref cod), some (.int (bz s)), some (.int (bz a)), some (.int (bz m)), some (.int (nI p)), some (.int (nI i)), o1, o2, o3]) (st' := [.int 2]) (h' := (n, sl, wKK kk, I, (jvL L w), wQQ q)) 2 rfl ?_
        exact tv_ri rfl ⟨by unfold vdR; rw [if_pos (bz_1 c239)], w, rfl⟩
    · show am_T _ _ 56 [some (.ref 60), some (.int (nI W)), some (.int much), some (.int day), some (.ref ac), some (.ref cod), some (.int (bz s)), some (.int (bz a)), some (.int (bz m)), some (.int (nI p)), some (.int (nI i)), o1, o2, o3] _ _ _
      refine tv_b (pc' := (if 20 ≤ (nI i) then 237 else 63)) (ls' := [some (.ref 60), some (.int (nI W)), some (.int much), some (.int day), some (.ref ac), some (.ref cod), some (.int (bz s)), some (.int (bz a)), some (.int (bz m)), some (.int (nI p)), some (.int (nI i)), o1, o2, o3]) (st' := []) (h' := (n, sl, wKK kk, I, (jvL L w), wQQ q)) 3 rfl ?_
      refine tv_f (fun hq => absurd ((nI_leI (a := 20) (b := i) (by omega) (by omega)).mp hq) (c60)) ?_
      refine tv_b (pc' := (if (nI p) < 0 then 237 else 68)) (ls' := [some (.ref 60), some (.int (nI W)), some (.int much), some (.int day), some (.ref ac), some (.ref cod), some (.int (bz s)), some (.int (bz a)), some (.int (bz m)), some (.int (nI p)), some (.int (nI i)), o1, o2, o3]) (st' := []) (h' := (n, sl, wKK kk, I, (jvL L w), wQQ q)) 2 rfl ?_
      refine tv_f (fun hq => absurd ((nI_ltI (a := p) (b := 0) (by omega) (by omega)).mp hq) (by omega)) ?_
      refine tv_b (pc' := 71) (ls' := [some (.ref 60), some (.int (nI W)), some (.int much), some (.int day), some (.ref ac), some (.ref cod), some (.int (bz s)), some (.int (bz a)), some (.int (bz m)), some (.int (nI p)), some (.int (nI i)), o1, o2, o3]) (st' := [.int 2, .int (nI p)]) (h' := (n, sl, wKK kk, I, (jvL L w), wQQ q)) 2 rfl ?_
      refine tv_b (pc' := 72) (ls' := [some (.ref 60), some (.int (nI W)), some (.int much), some (.int day), some (.ref ac), some (.ref cod), some (.int (bz s)), some (.int (bz a)), some (.int (bz m)), some (.int (nI p)), some (.int (nI i)), o1, o2, o3]) (st' := [.int ((nI p) + 2)]) (h' := (n, sl, wKK kk, I, (jvL L w), wQQ q)) 1 rfl ?_
      refine tv_top (show (nI p) + 2 = nI (p + 2) from nI_add p 2) ?_
      refine tv_b (pc' := 74) (ls' := [some (.ref 60), some (.int (nI W)), some (.int much), some (.int day), some (.ref ac), some (.ref cod), some (.int (bz s)), some (.int (bz a)), some (.int (bz m)), some (.int (nI p)), some (.int (nI i)), o1, o2, o3]) (st' := [.ref cod, .int (nI (p + 2))]) (h' := (n, sl, wKK kk, I, (jvL L w), wQQ q)) 1 rfl ?_
      refine tv_len rfl hKc (by decide) ?_
      refine tv_b (pc' := (if (nI len) ≤ (nI (p + 2)) then 237 else 78)) (ls' := [some (.ref 60), some (.int (nI W)), some (.int much), some (.int day), some (.ref ac), some (.ref cod), some (.int (bz s)), some (.int (bz a)), some (.int (bz m)), some (.int (nI p)), some (.int (nI i)), o1, o2, o3]) (st' := []) (h' := (n, sl, wKK kk, I, (jvL L w), wQQ q)) 1 rfl ?_
      refine tv_t ((nI_leI (a := len) (b := p + 2) (by omega) (by omega)).mpr (by omega)) ?_
      refine tv_b (pc' := (if (bz s) = 0 then 246 else 242)) (ls' := [some (.ref 60), some (.int (nI W)), some (.int much), some (.int day), some (.ref ac), some (.ref cod), some (.int (bz s)), some (.int (bz a)), some (.int (bz m)), some (.int (nI p)), some (.int (nI i)), o1, o2, o3]) (st' := []) (h' := (n, sl, wKK kk, I, (jvL L w), wQQ q)) 2 rfl ?_
      refine tv_if (fun c239 => ?_) (fun c239 => ?_)
      · refine tv_b (pc' := (if (bz a) = 0 then 251 else 255)) (ls' := [some (.ref 60), some (.int (nI W)), some (.int much), some (.int day), some (.ref ac), some (.ref cod), some (.int (bz s)), some (.int (bz a)), some (.int (bz m)), some (.int (nI p)), some (.int (nI i)), o1, o2, o3]) (st' := []) (h' := (n, sl, wKK kk, I, (jvL L w), wQQ q)) 2 rfl ?_
        refine tv_if (fun c248 => ?_) (fun c248 => ?_)
        · refine tv_b (pc' := 265) (ls' := [some (.ref 60), some (.int (nI W)), some (.int much), some (.int day), some (.ref ac), some (.ref cod), some (.int (bz s)), some (.int (bz a)), some (.int (bz m)), some (.int (nI p)), some (.int (nI i)), o1, o2, o3]) (st' := [.int 3]) (h' := (n, sl, wKK kk, I, (jvL L w), wQQ q)) 2 rfl ?_
          exact tv_ri rfl ⟨by unfold vdR; rw [if_neg (fun q => absurd c239 (by rw [q]; decide)), if_neg (fun q => absurd c248 (by rw [q]; decide))], w, rfl⟩
        · refine tv_b (pc' := (if (bz m) = 0 then 264 else 260)) (ls' := [some (.ref 60), some (.int (nI W)), some (.int much), some (.int day), some (.ref ac), some (.ref cod), some (.int (bz s)), some (.int (bz a)), some (.int (bz m)), some (.int (nI p)), some (.int (nI i)), o1, o2, o3]) (st' := []) (h' := (n, sl, wKK kk, I, (jvL L w), wQQ q)) 2 rfl ?_
          refine tv_if (fun c257 => ?_) (fun c257 => ?_)
          · refine tv_b (pc' := 265) (ls' := [some (.ref 60), some (.int (nI W)), some (.int much), some (.int day), some (.ref ac), some (.ref cod), some (.int (bz s)), some (.int (bz a)), some (.int (bz m)), some (.int (nI p)), some (.int (nI i)), o1, o2, o3]) (st' := [.int 0]) (h' := (n, sl, wKK kk, I, (jvL L w), wQQ q)) 1 rfl ?_
            exact tv_ri rfl ⟨by unfold vdR; rw [if_neg (fun q => absurd c239 (by rw [q]; decide)), if_pos (bz_1 c248), if_neg (fun q => absurd c257 (by rw [q]; decide))], w, rfl⟩
          · refine tv_b (pc' := 265) (ls' := [some (.ref 60), some (.int (nI W)), some (.int much), some (.int day), some (.ref ac), some (.ref cod), some (.int (bz s)), some (.int (bz a)), some (.int (bz m)), some (.int (nI p)), some (.int (nI i)), o1, o2, o3]) (st' := [.int 4]) (h' := (n, sl, wKK kk, I, (jvL L w), wQQ q)) 2 rfl ?_
            exact tv_ri rfl ⟨by unfold vdR; rw [if_neg (fun q => absurd c239 (by rw [q]; decide)), if_pos (bz_1 c248), if_pos (bz_1 c257)], w, rfl⟩
      · refine tv_b (pc' := 265) (ls' := [some (.ref 60), some (.int (nI W)), some (.int much), some (.int day), some (.ref ac), some (.ref cod), some (.int (bz s)), some (.int (bz a)), some (.int (bz m)), some (.int (nI p)), some (.int (nI i)), o1, o2, o3]) (st' := [.int 2]) (h' := (n, sl, wKK kk, I, (jvL L w), wQQ q)) 2 rfl ?_
        exact tv_ri rfl ⟨by unfold vdR; rw [if_pos (bz_1 c239)], w, rfl⟩
  | cons t r ih =>
    intro i p s a m w o1 o2 o3 hcell hp hi hst
    obtain ⟨k, u, cs⟩ := t
    have ef : (pa_flat ((k, u, cs) :: r)) = k :: u :: cs.length :: (cs ++ pa_flat r) := rfl
    have el : (pa_flat ((k, u, cs) :: r)).length = cs.length + (pa_flat r).length + 3 := by rw [ef]; simp only [List.length_cons, List.length_append]
    have er : ((k, u, cs) :: r).length = r.length + 1 := rfl
    rw [er] at hi
    rw [ef] at hcell
    rw [el] at hp
    have eL2 : (k :: u :: cs.length :: (cs ++ pa_flat r)).length = cs.length + (pa_flat r).length + 3 := by simp only [List.length_cons, List.length_append]
    rw [eL2] at hcell
    obtain ⟨hk6, hu, hev⟩ := hst (k, u, cs) (List.mem_cons_self ..)
    simp only at hk6 hu hev
    have c0 : I cod p = nI k := hcell 0 (by omega)
    have c1 : I cod (p + 1) = nI u := hcell 1 (by omega)
    have c2 : I cod (p + 2) = nI cs.length := hcell 2 (by omega)
    have c3 : ∀ j, j < cs.length → I cod (p + 3 + j) = nI (cs.getD j 0) := fun j hj => by
      rw [show p + 3 + j = p + (j + 3) by omega, hcell (j + 3) (by omega)]
      show nI ((cs ++ pa_flat r).getD j 0) = _
      rw [getD_l hj]
    have c4 : ∀ j, j < (pa_flat r).length → I cod (p + 3 + cs.length + j) = nI ((pa_flat r).getD j 0) := fun j hj => by
      rw [show p + 3 + cs.length + j = p + (cs.length + j + 3) by omega, hcell (cs.length + j + 3) (by omega)]
      show nI ((cs ++ pa_flat r).getD (cs.length + j) 0) = _
      rw [getD_r]
    have ih2 := fun s a m w o1 o2 o3 => ih (i + 1) (p + 3 + cs.length) s a m w o1 o2 o3 c4 (by omega) (by omega) (fun t ht => hst t (List.mem_cons_of_mem _ ht))
    refine tv_b (pc' := (if 20 ≤ (nI i) then 237 else 63)) (ls' := [some (.ref 60), some (.int (nI W)), some (.int much), some (.int day), some (.ref ac), some (.ref cod), some (.int (bz s)), some (.int (bz a)), some (.int (bz m)), some (.int (nI p)), some (.int (nI i)), o1, o2, o3]) (st' := []) (h' := (n, sl, wKK kk, I, (jvL L w), wQQ q)) 3 rfl ?_
    refine tv_f (fun hq => absurd ((nI_leI (a := 20) (b := i) (by omega) (by omega)).mp hq) (by omega)) ?_
    refine tv_b (pc' := (if (nI p) < 0 then 237 else 68)) (ls' := [some (.ref 60), some (.int (nI W)), some (.int much), some (.int day), some (.ref ac), some (.ref cod), some (.int (bz s)), some (.int (bz a)), some (.int (bz m)), some (.int (nI p)), some (.int (nI i)), o1, o2, o3]) (st' := []) (h' := (n, sl, wKK kk, I, (jvL L w), wQQ q)) 2 rfl ?_
    refine tv_f (fun hq => absurd ((nI_ltI (a := p) (b := 0) (by omega) (by omega)).mp hq) (by omega)) ?_
    refine tv_b (pc' := 71) (ls' := [some (.ref 60), some (.int (nI W)), some (.int much), some (.int day), some (.ref ac), some (.ref cod), some (.int (bz s)), some (.int (bz a)), some (.int (bz m)), some (.int (nI p)), some (.int (nI i)), o1, o2, o3]) (st' := [.int 2, .int (nI p)]) (h' := (n, sl, wKK kk, I, (jvL L w), wQQ q)) 2 rfl ?_
    refine tv_b (pc' := 72) (ls' := [some (.ref 60), some (.int (nI W)), some (.int much), some (.int day), some (.ref ac), some (.ref cod), some (.int (bz s)), some (.int (bz a)), some (.int (bz m)), some (.int (nI p)), some (.int (nI i)), o1, o2, o3]) (st' := [.int ((nI p) + 2)]) (h' := (n, sl, wKK kk, I, (jvL L w), wQQ q)) 1 rfl ?_
    refine tv_top (show (nI p) + 2 = nI (p + 2) from nI_add p 2) ?_
    refine tv_b (pc' := 74) (ls' := [some (.ref 60), some (.int (nI W)), some (.int much), some (.int day), some (.ref ac), some (.ref cod), some (.int (bz s)), some (.int (bz a)), some (.int (bz m)), some (.int (nI p)), some (.int (nI i)), o1, o2, o3]) (st' := [.ref cod, .int (nI (p + 2))]) (h' := (n, sl, wKK kk, I, (jvL L w), wQQ q)) 1 rfl ?_
    refine tv_len rfl hKc (by decide) ?_
    refine tv_b (pc' := (if (nI len) ≤ (nI (p + 2)) then 237 else 78)) (ls' := [some (.ref 60), some (.int (nI W)), some (.int much), some (.int day), some (.ref ac), some (.ref cod), some (.int (bz s)), some (.int (bz a)), some (.int (bz m)), some (.int (nI p)), some (.int (nI i)), o1, o2, o3]) (st' := []) (h' := (n, sl, wKK kk, I, (jvL L w), wQQ q)) 1 rfl ?_
    refine tv_f (fun hq => absurd ((nI_leI (a := len) (b := p + 2) (by omega) (by omega)).mp hq) (by omega)) ?_
    refine tv_b (pc' := 82) (ls' := [some (.ref 60), some (.int (nI W)), some (.int much), some (.int day), some (.ref ac), some (.ref cod), some (.int (bz s)), some (.int (bz a)), some (.int (bz m)), some (.int (nI p)), some (.int (nI i)), o1, o2, o3]) (st' := [.int (nI p), .ref cod]) (h' := (n, sl, wKK kk, I, (jvL L w), wQQ q)) 2 rfl ?_
    refine tv_ialN (k := p) rfl (hKc) (⟨by omega, by omega⟩) ?_
    refine tv_top (c0) ?_
    refine tv_b (pc' := 90) (ls' := [some (.ref 60), some (.int (nI W)), some (.int much), some (.int day), some (.ref ac), some (.ref cod), some (.int (bz s)), some (.int (bz a)), some (.int (bz m)), some (.int (nI p)), some (.int (nI i)), some (.int (nI k)), o2, o3]) (st' := [.int 1, .int (nI p), .ref cod]) (h' := (n, sl, wKK kk, I, (jvL L w), wQQ q)) 4 rfl ?_
    refine tv_b (pc' := 91) (ls' := [some (.ref 60), some (.int (nI W)), some (.int much), some (.int day), some (.ref ac), some (.ref cod), some (.int (bz s)), some (.int (bz a)), some (.int (bz m)), some (.int (nI p)), some (.int (nI i)), some (.int (nI k)), o2, o3]) (st' := [.int ((nI p) + 1), .ref cod]) (h' := (n, sl, wKK kk, I, (jvL L w), wQQ q)) 1 rfl ?_
    refine tv_top (show (nI p) + 1 = nI (p + 1) from nI_add p 1) ?_
    refine tv_ialN (k := (p + 1)) rfl (hKc) (⟨by omega, by omega⟩) ?_
    refine tv_top (c1) ?_
    refine tv_b (pc' := (if (nI u) = (nI W) then 96 else 100)) (ls' := [some (.ref 60), some (.int (nI W)), some (.int much), some (.int day), some (.ref ac), some (.ref cod), some (.int (bz s)), some (.int (bz a)), some (.int (bz m)), some (.int (nI p)), some (.int (nI i)), some (.int (nI k)), o2, o3]) (st' := []) (h' := (n, sl, wKK kk, I, (jvL L w), wQQ q)) 2 rfl ?_
    refine tv_ifq (nI_eq (a := u) (b := W) (by omega) (by omega)) (fun c93 => ?_) (fun c93 => ?_)
    · refine tv_b (pc' := 106) (ls' := [some (.ref 60), some (.int (nI W)), some (.int much), some (.int day), some (.ref ac), some (.ref cod), some (.int (bz s)), some (.int (bz a)), some (.int (bz m)), some (.int (nI p)), some (.int (nI i)), some (.int (nI k)), some (.int 1), o3]) (st' := [.int 3, .int (nI p)]) (h' := (n, sl, wKK kk, I, (jvL L w), wQQ q)) 5 rfl ?_
      refine tv_b (pc' := 107) (ls' := [some (.ref 60), some (.int (nI W)), some (.int much), some (.int day), some (.ref ac), some (.ref cod), some (.int (bz s)), some (.int (bz a)), some (.int (bz m)), some (.int (nI p)), some (.int (nI i)), some (.int (nI k)), some (.int 1), o3]) (st' := [.int ((nI p) + 3)]) (h' := (n, sl, wKK kk, I, (jvL L w), wQQ q)) 1 rfl ?_
      refine tv_top (show (nI p) + 3 = nI (p + 3) from nI_add p 3) ?_
      refine tv_b (pc' := 116) (ls' := [some (.ref 60), some (.int (nI W)), some (.int much), some (.int day), some (.ref ac), some (.ref cod), some (.int (bz s)), some (.int (bz a)), some (.int (bz m)), some (.int (nI p)), some (.int (nI i)), some (.int (nI k)), some (.int 1), some (.int (nI (p + 3)))]) (st' := [.int 2, .int (nI p), .ref cod, .int (nI (p + 3))]) (h' := (n, sl, wKK kk, I, (jvL L w), wQQ q)) 5 rfl ?_
      refine tv_b (pc' := 117) (ls' := [some (.ref 60), some (.int (nI W)), some (.int much), some (.int day), some (.ref ac), some (.ref cod), some (.int (bz s)), some (.int (bz a)), some (.int (bz m)), some (.int (nI p)), some (.int (nI i)), some (.int (nI k)), some (.int 1), some (.int (nI (p + 3)))]) (st' := [.int ((nI p) + 2), .ref cod, .int (nI (p + 3))]) (h' := (n, sl, wKK kk, I, (jvL L w), wQQ q)) 1 rfl ?_
      refine tv_top (show (nI p) + 2 = nI (p + 2) from nI_add p 2) ?_
      refine tv_ialN (k := (p + 2)) rfl (hKc) (⟨by omega, by omega⟩) ?_
      refine tv_top (c2) ?_
      refine tv_b (pc' := 119) (ls' := [some (.ref 60), some (.int (nI W)), some (.int much), some (.int day), some (.ref ac), some (.ref cod), some (.int (bz s)), some (.int (bz a)), some (.int (bz m)), some (.int (nI p)), some (.int (nI i)), some (.int (nI k)), some (.int 1), some (.int (nI (p + 3)))]) (st' := [.int ((nI (p + 3)) + (nI cs.length))]) (h' := (n, sl, wKK kk, I, (jvL L w), wQQ q)) 1 rfl ?_
      refine tv_top (show (nI (p + 3)) + (nI cs.length) = nI ((p + 3) + cs.length) from nI_add (p + 3) cs.length) ?_
      refine tv_b (pc' := (if (nI k) = 3 then 127 else 155)) (ls' := [some (.ref 60), some (.int (nI W)), some (.int much), some (.int day), some (.ref ac), some (.ref cod), some (.int (bz s)), some (.int (bz a)), some (.int (bz m)), some (.int (nI ((p + 3) + cs.length))), some (.int (nI i)), some (.int (nI k)), some (.int 1), some (.int (nI (p + 3)))]) (st' := []) (h' := (n, sl, wKK kk, I, (jvL L w), wQQ q)) 4 rfl ?_
      refine tv_ifq (nI_eq (a := k) (b := 3) (by omega) (by omega)) (fun c124 => ?_) (fun c124 => ?_)
      · refine tv_b (pc' := 136) (ls' := [some (.ref 60), some (.int (nI W)), some (.int much), some (.int day), some (.ref ac), some (.ref cod), some (.int (bz s)), some (.int (bz a)), some (.int (bz m)), some (.int (nI ((p + 3) + cs.length))), some (.int (nI i)), some (.int (nI k)), some (.int 1), some (.int (nI (p + 3)))]) (st' := [.int (nI ((p + 3) + cs.length)), .int (nI (p + 3)), .ref cod, .ref 60, .int (bz s)]) (h' := (n, sl, wKK kk, I, (jvL L w), wQQ q)) 5 rfl ?_
        refine tv_cv [.ref cod, .int (nI (p + 3)), .int (nI ((p + 3) + cs.length))] [.int (bz s)] rfl rfl (by omega) rfl (Nat.le_of_ble_eq_true rfl) (Nat.le_of_ble_eq_true rfl) (Or.inr (Or.inr rfl)) (tv_j_value (TO := p + 3 + cs.length) (F := p + 3) hcod hlen (by omega) hld hfc c3 rfl hev) ?_
        rintro rv9 h9 ⟨rfl, w9, rfl⟩
        refine tv_b (pc' := (if (lg_cmp (vf cs) 0) = 0 then 148 else 144)) (ls' := [some (.ref 60), some (.int (nI W)), some (.int much), some (.int day), some (.ref ac), some (.ref cod), some (.int (bz s)), some (.int (bz a)), some (.int (bz m)), some (.int (nI ((p + 3) + cs.length))), some (.int (nI i)), some (.int (nI k)), some (.int 1), some (.int (nI (p + 3)))]) (st' := [.int (bz s)]) (h' := (n, sl, wKK kk, I, (jvL L w9), wQQ q)) 3 rfl ?_
        refine tv_if (fun c141 => ?_) (fun c141 => ?_)
        · refine tv_b (pc' := 150) (ls' := [some (.ref 60), some (.int (nI W)), some (.int much), some (.int day), some (.ref ac), some (.ref cod), some (.int (bz s)), some (.int (bz a)), some (.int (bz m)), some (.int (nI ((p + 3) + cs.length))), some (.int (nI i)), some (.int (nI k)), some (.int 1), some (.int (nI (p + 3)))]) (st' := [.int ((bz s) ||| 0)]) (h' := (n, sl, wKK kk, I, (jvL L w9), wQQ q)) 2 rfl ?_
          refine tv_top bz_or0 ?_
          refine tv_b (pc' := 231) (ls' := [some (.ref 60), some (.int (nI W)), some (.int much), some (.int day), some (.ref ac), some (.ref cod), some (.int (bz s)), some (.int (bz a)), some (.int (bz m)), some (.int (nI ((p + 3) + cs.length))), some (.int (nI i)), some (.int (nI k)), some (.int 1), some (.int (nI (p + 3)))]) (st' := []) (h' := (n, sl, wKK kk, I, (jvL L w9), wQQ q)) 2 rfl ?_
          refine tv_iincN (k := i) (ls' := [some (.ref 60), some (.int (nI W)), some (.int much), some (.int day), some (.ref ac), some (.ref cod), some (.int (bz s)), some (.int (bz a)), some (.int (bz m)), some (.int (nI ((p + 3) + cs.length))), some (.int (nI (i + 1))), some (.int (nI k)), some (.int 1), some (.int (nI (p + 3)))]) rfl rfl rfl ?_
          refine tv_b (pc' := 56) (ls' := [some (.ref 60), some (.int (nI W)), some (.int much), some (.int day), some (.ref ac), some (.ref cod), some (.int (bz s)), some (.int (bz a)), some (.int (bz m)), some (.int (nI ((p + 3) + cs.length))), some (.int (nI (i + 1))), some (.int (nI k)), some (.int 1), some (.int (nI (p + 3)))]) (st' := []) (h' := (n, sl, wKK kk, I, (jvL L w9), wQQ q)) 1 rfl ?_
          have e : vdR vf W much s a m ((k, u, cs) :: r) = vdR vf W much s a m r := by
            show (if k = 3 then vdR vf W much (if lg_cmp (vf cs) 0 = 0 then s else true) a m r else if k = 4 ∧ u = W then vdR vf W much s (if lg_cmp (vf cs) 0 = 0 then a else true) m r else if k = 5 ∧ u = W then vdR vf W much s a (if lg_cmp much.toInt64 (vf cs) ≤ 0 then m else true) r else vdR vf W much s a m r) = _
            rw [if_pos c124, if_pos c141]
          rw [e]
          exact ih2 s a m _ _ _ _
        · refine tv_b (pc' := 150) (ls' := [some (.ref 60), some (.int (nI W)), some (.int much), some (.int day), some (.ref ac), some (.ref cod), some (.int (bz s)), some (.int (bz a)), some (.int (bz m)), some (.int (nI ((p + 3) + cs.length))), some (.int (nI i)), some (.int (nI k)), some (.int 1), some (.int (nI (p + 3)))]) (st' := [.int ((bz s) ||| 1)]) (h' := (n, sl, wKK kk, I, (jvL L w9), wQQ q)) 3 rfl ?_
          refine tv_top bz_or1 ?_
          refine tv_b (pc' := 231) (ls' := [some (.ref 60), some (.int (nI W)), some (.int much), some (.int day), some (.ref ac), some (.ref cod), some (.int (bz true)), some (.int (bz a)), some (.int (bz m)), some (.int (nI ((p + 3) + cs.length))), some (.int (nI i)), some (.int (nI k)), some (.int 1), some (.int (nI (p + 3)))]) (st' := []) (h' := (n, sl, wKK kk, I, (jvL L w9), wQQ q)) 2 rfl ?_
          refine tv_iincN (k := i) (ls' := [some (.ref 60), some (.int (nI W)), some (.int much), some (.int day), some (.ref ac), some (.ref cod), some (.int (bz true)), some (.int (bz a)), some (.int (bz m)), some (.int (nI ((p + 3) + cs.length))), some (.int (nI (i + 1))), some (.int (nI k)), some (.int 1), some (.int (nI (p + 3)))]) rfl rfl rfl ?_
          refine tv_b (pc' := 56) (ls' := [some (.ref 60), some (.int (nI W)), some (.int much), some (.int day), some (.ref ac), some (.ref cod), some (.int (bz true)), some (.int (bz a)), some (.int (bz m)), some (.int (nI ((p + 3) + cs.length))), some (.int (nI (i + 1))), some (.int (nI k)), some (.int 1), some (.int (nI (p + 3)))]) (st' := []) (h' := (n, sl, wKK kk, I, (jvL L w9), wQQ q)) 1 rfl ?_
          have e : vdR vf W much s a m ((k, u, cs) :: r) = vdR vf W much true a m r := by
            show (if k = 3 then vdR vf W much (if lg_cmp (vf cs) 0 = 0 then s else true) a m r else if k = 4 ∧ u = W then vdR vf W much s (if lg_cmp (vf cs) 0 = 0 then a else true) m r else if k = 5 ∧ u = W then vdR vf W much s a (if lg_cmp much.toInt64 (vf cs) ≤ 0 then m else true) r else vdR vf W much s a m r) = _
            rw [if_pos c124, if_neg c141]
          rw [e]
          exact ih2 true a m _ _ _ _
      · refine tv_b (pc' := (if (nI k) = 4 then 161 else 194)) (ls' := [some (.ref 60), some (.int (nI W)), some (.int much), some (.int day), some (.ref ac), some (.ref cod), some (.int (bz s)), some (.int (bz a)), some (.int (bz m)), some (.int (nI ((p + 3) + cs.length))), some (.int (nI i)), some (.int (nI k)), some (.int 1), some (.int (nI (p + 3)))]) (st' := []) (h' := (n, sl, wKK kk, I, (jvL L w), wQQ q)) 3 rfl ?_
        refine tv_ifq (nI_eq (a := k) (b := 4) (by omega) (by omega)) (fun c158 => ?_) (fun c158 => ?_)
        · refine tv_b (pc' := 175) (ls' := [some (.ref 60), some (.int (nI W)), some (.int much), some (.int day), some (.ref ac), some (.ref cod), some (.int (bz s)), some (.int (bz a)), some (.int (bz m)), some (.int (nI ((p + 3) + cs.length))), some (.int (nI i)), some (.int (nI k)), some (.int 1), some (.int (nI (p + 3)))]) (st' := [.int (nI ((p + 3) + cs.length)), .int (nI (p + 3)), .ref cod, .ref 60, .int (bz a)]) (h' := (n, sl, wKK kk, I, (jvL L w), wQQ q)) 7 rfl ?_
          refine tv_cv [.ref cod, .int (nI (p + 3)), .int (nI ((p + 3) + cs.length))] [.int (bz a)] rfl rfl (by omega) rfl (Nat.le_of_ble_eq_true rfl) (Nat.le_of_ble_eq_true rfl) (Or.inr (Or.inr rfl)) (tv_j_value (TO := p + 3 + cs.length) (F := p + 3) hcod hlen (by omega) hld hfc c3 rfl hev) ?_
          rintro rv9 h9 ⟨rfl, w9, rfl⟩
          refine tv_b (pc' := (if (lg_cmp (vf cs) 0) = 0 then 187 else 183)) (ls' := [some (.ref 60), some (.int (nI W)), some (.int much), some (.int day), some (.ref ac), some (.ref cod), some (.int (bz s)), some (.int (bz a)), some (.int (bz m)), some (.int (nI ((p + 3) + cs.length))), some (.int (nI i)), some (.int (nI k)), some (.int 1), some (.int (nI (p + 3)))]) (st' := [.int (bz a)]) (h' := (n, sl, wKK kk, I, (jvL L w9), wQQ q)) 3 rfl ?_
          refine tv_if (fun c180 => ?_) (fun c180 => ?_)
          · refine tv_b (pc' := 189) (ls' := [some (.ref 60), some (.int (nI W)), some (.int much), some (.int day), some (.ref ac), some (.ref cod), some (.int (bz s)), some (.int (bz a)), some (.int (bz m)), some (.int (nI ((p + 3) + cs.length))), some (.int (nI i)), some (.int (nI k)), some (.int 1), some (.int (nI (p + 3)))]) (st' := [.int ((bz a) ||| 0)]) (h' := (n, sl, wKK kk, I, (jvL L w9), wQQ q)) 2 rfl ?_
            refine tv_top bz_or0 ?_
            refine tv_b (pc' := 231) (ls' := [some (.ref 60), some (.int (nI W)), some (.int much), some (.int day), some (.ref ac), some (.ref cod), some (.int (bz s)), some (.int (bz a)), some (.int (bz m)), some (.int (nI ((p + 3) + cs.length))), some (.int (nI i)), some (.int (nI k)), some (.int 1), some (.int (nI (p + 3)))]) (st' := []) (h' := (n, sl, wKK kk, I, (jvL L w9), wQQ q)) 2 rfl ?_
            refine tv_iincN (k := i) (ls' := [some (.ref 60), some (.int (nI W)), some (.int much), some (.int day), some (.ref ac), some (.ref cod), some (.int (bz s)), some (.int (bz a)), some (.int (bz m)), some (.int (nI ((p + 3) + cs.length))), some (.int (nI (i + 1))), some (.int (nI k)), some (.int 1), some (.int (nI (p + 3)))]) rfl rfl rfl ?_
            refine tv_b (pc' := 56) (ls' := [some (.ref 60), some (.int (nI W)), some (.int much), some (.int day), some (.ref ac), some (.ref cod), some (.int (bz s)), some (.int (bz a)), some (.int (bz m)), some (.int (nI ((p + 3) + cs.length))), some (.int (nI (i + 1))), some (.int (nI k)), some (.int 1), some (.int (nI (p + 3)))]) (st' := []) (h' := (n, sl, wKK kk, I, (jvL L w9), wQQ q)) 1 rfl ?_
            have e : vdR vf W much s a m ((k, u, cs) :: r) = vdR vf W much s a m r := by
              show (if k = 3 then vdR vf W much (if lg_cmp (vf cs) 0 = 0 then s else true) a m r else if k = 4 ∧ u = W then vdR vf W much s (if lg_cmp (vf cs) 0 = 0 then a else true) m r else if k = 5 ∧ u = W then vdR vf W much s a (if lg_cmp much.toInt64 (vf cs) ≤ 0 then m else true) r else vdR vf W much s a m r) = _
              rw [if_neg c124, if_pos ⟨c158, c93⟩, if_pos c180]
            rw [e]
            exact ih2 s a m _ _ _ _
          · refine tv_b (pc' := 189) (ls' := [some (.ref 60), some (.int (nI W)), some (.int much), some (.int day), some (.ref ac), some (.ref cod), some (.int (bz s)), some (.int (bz a)), some (.int (bz m)), some (.int (nI ((p + 3) + cs.length))), some (.int (nI i)), some (.int (nI k)), some (.int 1), some (.int (nI (p + 3)))]) (st' := [.int ((bz a) ||| 1)]) (h' := (n, sl, wKK kk, I, (jvL L w9), wQQ q)) 3 rfl ?_
            refine tv_top bz_or1 ?_
            refine tv_b (pc' := 231) (ls' := [some (.ref 60), some (.int (nI W)), some (.int much), some (.int day), some (.ref ac), some (.ref cod), some (.int (bz s)), some (.int (bz true)), some (.int (bz m)), some (.int (nI ((p + 3) + cs.length))), some (.int (nI i)), some (.int (nI k)), some (.int 1), some (.int (nI (p + 3)))]) (st' := []) (h' := (n, sl, wKK kk, I, (jvL L w9), wQQ q)) 2 rfl ?_
            refine tv_iincN (k := i) (ls' := [some (.ref 60), some (.int (nI W)), some (.int much), some (.int day), some (.ref ac), some (.ref cod), some (.int (bz s)), some (.int (bz true)), some (.int (bz m)), some (.int (nI ((p + 3) + cs.length))), some (.int (nI (i + 1))), some (.int (nI k)), some (.int 1), some (.int (nI (p + 3)))]) rfl rfl rfl ?_
            refine tv_b (pc' := 56) (ls' := [some (.ref 60), some (.int (nI W)), some (.int much), some (.int day), some (.ref ac), some (.ref cod), some (.int (bz s)), some (.int (bz true)), some (.int (bz m)), some (.int (nI ((p + 3) + cs.length))), some (.int (nI (i + 1))), some (.int (nI k)), some (.int 1), some (.int (nI (p + 3)))]) (st' := []) (h' := (n, sl, wKK kk, I, (jvL L w9), wQQ q)) 1 rfl ?_
            have e : vdR vf W much s a m ((k, u, cs) :: r) = vdR vf W much s true m r := by
              show (if k = 3 then vdR vf W much (if lg_cmp (vf cs) 0 = 0 then s else true) a m r else if k = 4 ∧ u = W then vdR vf W much s (if lg_cmp (vf cs) 0 = 0 then a else true) m r else if k = 5 ∧ u = W then vdR vf W much s a (if lg_cmp much.toInt64 (vf cs) ≤ 0 then m else true) r else vdR vf W much s a m r) = _
              rw [if_neg c124, if_pos ⟨c158, c93⟩, if_neg c180]
            rw [e]
            exact ih2 s true m _ _ _ _
        · refine tv_b (pc' := (if (nI k) = 5 then 200 else 231)) (ls' := [some (.ref 60), some (.int (nI W)), some (.int much), some (.int day), some (.ref ac), some (.ref cod), some (.int (bz s)), some (.int (bz a)), some (.int (bz m)), some (.int (nI ((p + 3) + cs.length))), some (.int (nI i)), some (.int (nI k)), some (.int 1), some (.int (nI (p + 3)))]) (st' := []) (h' := (n, sl, wKK kk, I, (jvL L w), wQQ q)) 3 rfl ?_
          refine tv_ifq (nI_eq (a := k) (b := 5) (by omega) (by omega)) (fun c197 => ?_) (fun c197 => ?_)
          · refine tv_b (pc' := 216) (ls' := [some (.ref 60), some (.int (nI W)), some (.int much), some (.int day), some (.ref ac), some (.ref cod), some (.int (bz s)), some (.int (bz a)), some (.int (bz m)), some (.int (nI ((p + 3) + cs.length))), some (.int (nI i)), some (.int (nI k)), some (.int 1), some (.int (nI (p + 3)))]) (st' := [.int (nI ((p + 3) + cs.length)), .int (nI (p + 3)), .ref cod, .ref 60, .long much.toInt64, .int (bz m)]) (h' := (n, sl, wKK kk, I, (jvL L w), wQQ q)) 9 rfl ?_
            refine tv_cv [.ref cod, .int (nI (p + 3)), .int (nI ((p + 3) + cs.length))] [.long much.toInt64, .int (bz m)] rfl rfl (by omega) rfl (Nat.le_of_ble_eq_true rfl) (Nat.le_of_ble_eq_true rfl) (Or.inr (Or.inr rfl)) (tv_j_value (TO := p + 3 + cs.length) (F := p + 3) hcod hlen (by omega) hld hfc c3 rfl hev) ?_
            rintro rv9 h9 ⟨rfl, w9, rfl⟩
            refine tv_b (pc' := (if (lg_cmp much.toInt64 (vf cs)) ≤ 0 then 227 else 223)) (ls' := [some (.ref 60), some (.int (nI W)), some (.int much), some (.int day), some (.ref ac), some (.ref cod), some (.int (bz s)), some (.int (bz a)), some (.int (bz m)), some (.int (nI ((p + 3) + cs.length))), some (.int (nI i)), some (.int (nI k)), some (.int 1), some (.int (nI (p + 3)))]) (st' := [.int (bz m)]) (h' := (n, sl, wKK kk, I, (jvL L w9), wQQ q)) 2 rfl ?_
            refine tv_if (fun c220 => ?_) (fun c220 => ?_)
            · refine tv_b (pc' := 229) (ls' := [some (.ref 60), some (.int (nI W)), some (.int much), some (.int day), some (.ref ac), some (.ref cod), some (.int (bz s)), some (.int (bz a)), some (.int (bz m)), some (.int (nI ((p + 3) + cs.length))), some (.int (nI i)), some (.int (nI k)), some (.int 1), some (.int (nI (p + 3)))]) (st' := [.int ((bz m) ||| 0)]) (h' := (n, sl, wKK kk, I, (jvL L w9), wQQ q)) 2 rfl ?_
              refine tv_top bz_or0 ?_
              refine tv_b (pc' := 231) (ls' := [some (.ref 60), some (.int (nI W)), some (.int much), some (.int day), some (.ref ac), some (.ref cod), some (.int (bz s)), some (.int (bz a)), some (.int (bz m)), some (.int (nI ((p + 3) + cs.length))), some (.int (nI i)), some (.int (nI k)), some (.int 1), some (.int (nI (p + 3)))]) (st' := []) (h' := (n, sl, wKK kk, I, (jvL L w9), wQQ q)) 1 rfl ?_
              refine tv_iincN (k := i) (ls' := [some (.ref 60), some (.int (nI W)), some (.int much), some (.int day), some (.ref ac), some (.ref cod), some (.int (bz s)), some (.int (bz a)), some (.int (bz m)), some (.int (nI ((p + 3) + cs.length))), some (.int (nI (i + 1))), some (.int (nI k)), some (.int 1), some (.int (nI (p + 3)))]) rfl rfl rfl ?_
              refine tv_b (pc' := 56) (ls' := [some (.ref 60), some (.int (nI W)), some (.int much), some (.int day), some (.ref ac), some (.ref cod), some (.int (bz s)), some (.int (bz a)), some (.int (bz m)), some (.int (nI ((p + 3) + cs.length))), some (.int (nI (i + 1))), some (.int (nI k)), some (.int 1), some (.int (nI (p + 3)))]) (st' := []) (h' := (n, sl, wKK kk, I, (jvL L w9), wQQ q)) 1 rfl ?_
              have e : vdR vf W much s a m ((k, u, cs) :: r) = vdR vf W much s a m r := by
                show (if k = 3 then vdR vf W much (if lg_cmp (vf cs) 0 = 0 then s else true) a m r else if k = 4 ∧ u = W then vdR vf W much s (if lg_cmp (vf cs) 0 = 0 then a else true) m r else if k = 5 ∧ u = W then vdR vf W much s a (if lg_cmp much.toInt64 (vf cs) ≤ 0 then m else true) r else vdR vf W much s a m r) = _
                rw [if_neg c124, if_neg (fun q => c158 q.1), if_pos ⟨c197, c93⟩, if_pos c220]
              rw [e]
              exact ih2 s a m _ _ _ _
            · refine tv_b (pc' := 229) (ls' := [some (.ref 60), some (.int (nI W)), some (.int much), some (.int day), some (.ref ac), some (.ref cod), some (.int (bz s)), some (.int (bz a)), some (.int (bz m)), some (.int (nI ((p + 3) + cs.length))), some (.int (nI i)), some (.int (nI k)), some (.int 1), some (.int (nI (p + 3)))]) (st' := [.int ((bz m) ||| 1)]) (h' := (n, sl, wKK kk, I, (jvL L w9), wQQ q)) 3 rfl ?_
              refine tv_top bz_or1 ?_
              refine tv_b (pc' := 231) (ls' := [some (.ref 60), some (.int (nI W)), some (.int much), some (.int day), some (.ref ac), some (.ref cod), some (.int (bz s)), some (.int (bz a)), some (.int (bz true)), some (.int (nI ((p + 3) + cs.length))), some (.int (nI i)), some (.int (nI k)), some (.int 1), some (.int (nI (p + 3)))]) (st' := []) (h' := (n, sl, wKK kk, I, (jvL L w9), wQQ q)) 1 rfl ?_
              refine tv_iincN (k := i) (ls' := [some (.ref 60), some (.int (nI W)), some (.int much), some (.int day), some (.ref ac), some (.ref cod), some (.int (bz s)), some (.int (bz a)), some (.int (bz true)), some (.int (nI ((p + 3) + cs.length))), some (.int (nI (i + 1))), some (.int (nI k)), some (.int 1), some (.int (nI (p + 3)))]) rfl rfl rfl ?_
              refine tv_b (pc' := 56) (ls' := [some (.ref 60), some (.int (nI W)), some (.int much), some (.int day), some (.ref ac), some (.ref cod), some (.int (bz s)), some (.int (bz a)), some (.int (bz true)), some (.int (nI ((p + 3) + cs.length))), some (.int (nI (i + 1))), some (.int (nI k)), some (.int 1), some (.int (nI (p + 3)))]) (st' := []) (h' := (n, sl, wKK kk, I, (jvL L w9), wQQ q)) 1 rfl ?_
              have e : vdR vf W much s a m ((k, u, cs) :: r) = vdR vf W much s a true r := by
                show (if k = 3 then vdR vf W much (if lg_cmp (vf cs) 0 = 0 then s else true) a m r else if k = 4 ∧ u = W then vdR vf W much s (if lg_cmp (vf cs) 0 = 0 then a else true) m r else if k = 5 ∧ u = W then vdR vf W much s a (if lg_cmp much.toInt64 (vf cs) ≤ 0 then m else true) r else vdR vf W much s a m r) = _
                rw [if_neg c124, if_neg (fun q => c158 q.1), if_pos ⟨c197, c93⟩, if_neg c220]
              rw [e]
              exact ih2 s a true _ _ _ _
          · refine tv_iincN (k := i) (ls' := [some (.ref 60), some (.int (nI W)), some (.int much), some (.int day), some (.ref ac), some (.ref cod), some (.int (bz s)), some (.int (bz a)), some (.int (bz m)), some (.int (nI ((p + 3) + cs.length))), some (.int (nI (i + 1))), some (.int (nI k)), some (.int 1), some (.int (nI (p + 3)))]) rfl rfl rfl ?_
            refine tv_b (pc' := 56) (ls' := [some (.ref 60), some (.int (nI W)), some (.int much), some (.int day), some (.ref ac), some (.ref cod), some (.int (bz s)), some (.int (bz a)), some (.int (bz m)), some (.int (nI ((p + 3) + cs.length))), some (.int (nI (i + 1))), some (.int (nI k)), some (.int 1), some (.int (nI (p + 3)))]) (st' := []) (h' := (n, sl, wKK kk, I, (jvL L w), wQQ q)) 1 rfl ?_
            have e : vdR vf W much s a m ((k, u, cs) :: r) = vdR vf W much s a m r := by
              show (if k = 3 then vdR vf W much (if lg_cmp (vf cs) 0 = 0 then s else true) a m r else if k = 4 ∧ u = W then vdR vf W much s (if lg_cmp (vf cs) 0 = 0 then a else true) m r else if k = 5 ∧ u = W then vdR vf W much s a (if lg_cmp much.toInt64 (vf cs) ≤ 0 then m else true) r else vdR vf W much s a m r) = _
              rw [if_neg c124, if_neg (fun q => c158 q.1), if_neg (fun q => c197 q.1)]
            rw [e]
            exact ih2 s a m _ _ _ _
    · refine tv_b (pc' := 106) (ls' := [some (.ref 60), some (.int (nI W)), some (.int much), some (.int day), some (.ref ac), some (.ref cod), some (.int (bz s)), some (.int (bz a)), some (.int (bz m)), some (.int (nI p)), some (.int (nI i)), some (.int (nI k)), some (.int 0), o3]) (st' := [.int 3, .int (nI p)]) (h' := (n, sl, wKK kk, I, (jvL L w), wQQ q)) 4 rfl ?_
      refine tv_b (pc' := 107) (ls' := [some (.ref 60), some (.int (nI W)), some (.int much), some (.int day), some (.ref ac), some (.ref cod), some (.int (bz s)), some (.int (bz a)), some (.int (bz m)), some (.int (nI p)), some (.int (nI i)), some (.int (nI k)), some (.int 0), o3]) (st' := [.int ((nI p) + 3)]) (h' := (n, sl, wKK kk, I, (jvL L w), wQQ q)) 1 rfl ?_
      refine tv_top (show (nI p) + 3 = nI (p + 3) from nI_add p 3) ?_
      refine tv_b (pc' := 116) (ls' := [some (.ref 60), some (.int (nI W)), some (.int much), some (.int day), some (.ref ac), some (.ref cod), some (.int (bz s)), some (.int (bz a)), some (.int (bz m)), some (.int (nI p)), some (.int (nI i)), some (.int (nI k)), some (.int 0), some (.int (nI (p + 3)))]) (st' := [.int 2, .int (nI p), .ref cod, .int (nI (p + 3))]) (h' := (n, sl, wKK kk, I, (jvL L w), wQQ q)) 5 rfl ?_
      refine tv_b (pc' := 117) (ls' := [some (.ref 60), some (.int (nI W)), some (.int much), some (.int day), some (.ref ac), some (.ref cod), some (.int (bz s)), some (.int (bz a)), some (.int (bz m)), some (.int (nI p)), some (.int (nI i)), some (.int (nI k)), some (.int 0), some (.int (nI (p + 3)))]) (st' := [.int ((nI p) + 2), .ref cod, .int (nI (p + 3))]) (h' := (n, sl, wKK kk, I, (jvL L w), wQQ q)) 1 rfl ?_
      refine tv_top (show (nI p) + 2 = nI (p + 2) from nI_add p 2) ?_
      refine tv_ialN (k := (p + 2)) rfl (hKc) (⟨by omega, by omega⟩) ?_
      refine tv_top (c2) ?_
      refine tv_b (pc' := 119) (ls' := [some (.ref 60), some (.int (nI W)), some (.int much), some (.int day), some (.ref ac), some (.ref cod), some (.int (bz s)), some (.int (bz a)), some (.int (bz m)), some (.int (nI p)), some (.int (nI i)), some (.int (nI k)), some (.int 0), some (.int (nI (p + 3)))]) (st' := [.int ((nI (p + 3)) + (nI cs.length))]) (h' := (n, sl, wKK kk, I, (jvL L w), wQQ q)) 1 rfl ?_
      refine tv_top (show (nI (p + 3)) + (nI cs.length) = nI ((p + 3) + cs.length) from nI_add (p + 3) cs.length) ?_
      refine tv_b (pc' := (if (nI k) = 3 then 127 else 155)) (ls' := [some (.ref 60), some (.int (nI W)), some (.int much), some (.int day), some (.ref ac), some (.ref cod), some (.int (bz s)), some (.int (bz a)), some (.int (bz m)), some (.int (nI ((p + 3) + cs.length))), some (.int (nI i)), some (.int (nI k)), some (.int 0), some (.int (nI (p + 3)))]) (st' := []) (h' := (n, sl, wKK kk, I, (jvL L w), wQQ q)) 4 rfl ?_
      refine tv_ifq (nI_eq (a := k) (b := 3) (by omega) (by omega)) (fun c124 => ?_) (fun c124 => ?_)
      · refine tv_b (pc' := 136) (ls' := [some (.ref 60), some (.int (nI W)), some (.int much), some (.int day), some (.ref ac), some (.ref cod), some (.int (bz s)), some (.int (bz a)), some (.int (bz m)), some (.int (nI ((p + 3) + cs.length))), some (.int (nI i)), some (.int (nI k)), some (.int 0), some (.int (nI (p + 3)))]) (st' := [.int (nI ((p + 3) + cs.length)), .int (nI (p + 3)), .ref cod, .ref 60, .int (bz s)]) (h' := (n, sl, wKK kk, I, (jvL L w), wQQ q)) 5 rfl ?_
        refine tv_cv [.ref cod, .int (nI (p + 3)), .int (nI ((p + 3) + cs.length))] [.int (bz s)] rfl rfl (by omega) rfl (Nat.le_of_ble_eq_true rfl) (Nat.le_of_ble_eq_true rfl) (Or.inr (Or.inr rfl)) (tv_j_value (TO := p + 3 + cs.length) (F := p + 3) hcod hlen (by omega) hld hfc c3 rfl hev) ?_
        rintro rv9 h9 ⟨rfl, w9, rfl⟩
        refine tv_b (pc' := (if (lg_cmp (vf cs) 0) = 0 then 148 else 144)) (ls' := [some (.ref 60), some (.int (nI W)), some (.int much), some (.int day), some (.ref ac), some (.ref cod), some (.int (bz s)), some (.int (bz a)), some (.int (bz m)), some (.int (nI ((p + 3) + cs.length))), some (.int (nI i)), some (.int (nI k)), some (.int 0), some (.int (nI (p + 3)))]) (st' := [.int (bz s)]) (h' := (n, sl, wKK kk, I, (jvL L w9), wQQ q)) 3 rfl ?_
        refine tv_if (fun c141 => ?_) (fun c141 => ?_)
        · refine tv_b (pc' := 150) (ls' := [some (.ref 60), some (.int (nI W)), some (.int much), some (.int day), some (.ref ac), some (.ref cod), some (.int (bz s)), some (.int (bz a)), some (.int (bz m)), some (.int (nI ((p + 3) + cs.length))), some (.int (nI i)), some (.int (nI k)), some (.int 0), some (.int (nI (p + 3)))]) (st' := [.int ((bz s) ||| 0)]) (h' := (n, sl, wKK kk, I, (jvL L w9), wQQ q)) 2 rfl ?_
          refine tv_top bz_or0 ?_
          refine tv_b (pc' := 231) (ls' := [some (.ref 60), some (.int (nI W)), some (.int much), some (.int day), some (.ref ac), some (.ref cod), some (.int (bz s)), some (.int (bz a)), some (.int (bz m)), some (.int (nI ((p + 3) + cs.length))), some (.int (nI i)), some (.int (nI k)), some (.int 0), some (.int (nI (p + 3)))]) (st' := []) (h' := (n, sl, wKK kk, I, (jvL L w9), wQQ q)) 2 rfl ?_
          refine tv_iincN (k := i) (ls' := [some (.ref 60), some (.int (nI W)), some (.int much), some (.int day), some (.ref ac), some (.ref cod), some (.int (bz s)), some (.int (bz a)), some (.int (bz m)), some (.int (nI ((p + 3) + cs.length))), some (.int (nI (i + 1))), some (.int (nI k)), some (.int 0), some (.int (nI (p + 3)))]) rfl rfl rfl ?_
          refine tv_b (pc' := 56) (ls' := [some (.ref 60), some (.int (nI W)), some (.int much), some (.int day), some (.ref ac), some (.ref cod), some (.int (bz s)), some (.int (bz a)), some (.int (bz m)), some (.int (nI ((p + 3) + cs.length))), some (.int (nI (i + 1))), some (.int (nI k)), some (.int 0), some (.int (nI (p + 3)))]) (st' := []) (h' := (n, sl, wKK kk, I, (jvL L w9), wQQ q)) 1 rfl ?_
          have e : vdR vf W much s a m ((k, u, cs) :: r) = vdR vf W much s a m r := by
            show (if k = 3 then vdR vf W much (if lg_cmp (vf cs) 0 = 0 then s else true) a m r else if k = 4 ∧ u = W then vdR vf W much s (if lg_cmp (vf cs) 0 = 0 then a else true) m r else if k = 5 ∧ u = W then vdR vf W much s a (if lg_cmp much.toInt64 (vf cs) ≤ 0 then m else true) r else vdR vf W much s a m r) = _
            rw [if_pos c124, if_pos c141]
          rw [e]
          exact ih2 s a m _ _ _ _
        · refine tv_b (pc' := 150) (ls' := [some (.ref 60), some (.int (nI W)), some (.int much), some (.int day), some (.ref ac), some (.ref cod), some (.int (bz s)), some (.int (bz a)), some (.int (bz m)), some (.int (nI ((p + 3) + cs.length))), some (.int (nI i)), some (.int (nI k)), some (.int 0), some (.int (nI (p + 3)))]) (st' := [.int ((bz s) ||| 1)]) (h' := (n, sl, wKK kk, I, (jvL L w9), wQQ q)) 3 rfl ?_
          refine tv_top bz_or1 ?_
          refine tv_b (pc' := 231) (ls' := [some (.ref 60), some (.int (nI W)), some (.int much), some (.int day), some (.ref ac), some (.ref cod), some (.int (bz true)), some (.int (bz a)), some (.int (bz m)), some (.int (nI ((p + 3) + cs.length))), some (.int (nI i)), some (.int (nI k)), some (.int 0), some (.int (nI (p + 3)))]) (st' := []) (h' := (n, sl, wKK kk, I, (jvL L w9), wQQ q)) 2 rfl ?_
          refine tv_iincN (k := i) (ls' := [some (.ref 60), some (.int (nI W)), some (.int much), some (.int day), some (.ref ac), some (.ref cod), some (.int (bz true)), some (.int (bz a)), some (.int (bz m)), some (.int (nI ((p + 3) + cs.length))), some (.int (nI (i + 1))), some (.int (nI k)), some (.int 0), some (.int (nI (p + 3)))]) rfl rfl rfl ?_
          refine tv_b (pc' := 56) (ls' := [some (.ref 60), some (.int (nI W)), some (.int much), some (.int day), some (.ref ac), some (.ref cod), some (.int (bz true)), some (.int (bz a)), some (.int (bz m)), some (.int (nI ((p + 3) + cs.length))), some (.int (nI (i + 1))), some (.int (nI k)), some (.int 0), some (.int (nI (p + 3)))]) (st' := []) (h' := (n, sl, wKK kk, I, (jvL L w9), wQQ q)) 1 rfl ?_
          have e : vdR vf W much s a m ((k, u, cs) :: r) = vdR vf W much true a m r := by
            show (if k = 3 then vdR vf W much (if lg_cmp (vf cs) 0 = 0 then s else true) a m r else if k = 4 ∧ u = W then vdR vf W much s (if lg_cmp (vf cs) 0 = 0 then a else true) m r else if k = 5 ∧ u = W then vdR vf W much s a (if lg_cmp much.toInt64 (vf cs) ≤ 0 then m else true) r else vdR vf W much s a m r) = _
            rw [if_pos c124, if_neg c141]
          rw [e]
          exact ih2 true a m _ _ _ _
      · refine tv_b (pc' := (if (nI k) = 4 then 161 else 194)) (ls' := [some (.ref 60), some (.int (nI W)), some (.int much), some (.int day), some (.ref ac), some (.ref cod), some (.int (bz s)), some (.int (bz a)), some (.int (bz m)), some (.int (nI ((p + 3) + cs.length))), some (.int (nI i)), some (.int (nI k)), some (.int 0), some (.int (nI (p + 3)))]) (st' := []) (h' := (n, sl, wKK kk, I, (jvL L w), wQQ q)) 3 rfl ?_
        refine tv_ifq (nI_eq (a := k) (b := 4) (by omega) (by omega)) (fun c158 => ?_) (fun c158 => ?_)
        · refine tv_b (pc' := (if (nI k) = 5 then 200 else 231)) (ls' := [some (.ref 60), some (.int (nI W)), some (.int much), some (.int day), some (.ref ac), some (.ref cod), some (.int (bz s)), some (.int (bz a)), some (.int (bz m)), some (.int (nI ((p + 3) + cs.length))), some (.int (nI i)), some (.int (nI k)), some (.int 0), some (.int (nI (p + 3)))]) (st' := []) (h' := (n, sl, wKK kk, I, (jvL L w), wQQ q)) 5 rfl ?_
          refine tv_ifq (nI_eq (a := k) (b := 5) (by omega) (by omega)) (fun c197 => ?_) (fun c197 => ?_)
          · refine tv_b (pc' := 231) (ls' := [some (.ref 60), some (.int (nI W)), some (.int much), some (.int day), some (.ref ac), some (.ref cod), some (.int (bz s)), some (.int (bz a)), some (.int (bz m)), some (.int (nI ((p + 3) + cs.length))), some (.int (nI i)), some (.int (nI k)), some (.int 0), some (.int (nI (p + 3)))]) (st' := []) (h' := (n, sl, wKK kk, I, (jvL L w), wQQ q)) 2 rfl ?_
            refine tv_iincN (k := i) (ls' := [some (.ref 60), some (.int (nI W)), some (.int much), some (.int day), some (.ref ac), some (.ref cod), some (.int (bz s)), some (.int (bz a)), some (.int (bz m)), some (.int (nI ((p + 3) + cs.length))), some (.int (nI (i + 1))), some (.int (nI k)), some (.int 0), some (.int (nI (p + 3)))]) rfl rfl rfl ?_
            refine tv_b (pc' := 56) (ls' := [some (.ref 60), some (.int (nI W)), some (.int much), some (.int day), some (.ref ac), some (.ref cod), some (.int (bz s)), some (.int (bz a)), some (.int (bz m)), some (.int (nI ((p + 3) + cs.length))), some (.int (nI (i + 1))), some (.int (nI k)), some (.int 0), some (.int (nI (p + 3)))]) (st' := []) (h' := (n, sl, wKK kk, I, (jvL L w), wQQ q)) 1 rfl ?_
            have e : vdR vf W much s a m ((k, u, cs) :: r) = vdR vf W much s a m r := by
              show (if k = 3 then vdR vf W much (if lg_cmp (vf cs) 0 = 0 then s else true) a m r else if k = 4 ∧ u = W then vdR vf W much s (if lg_cmp (vf cs) 0 = 0 then a else true) m r else if k = 5 ∧ u = W then vdR vf W much s a (if lg_cmp much.toInt64 (vf cs) ≤ 0 then m else true) r else vdR vf W much s a m r) = _
              rw [if_neg c124, if_neg (fun q => c93 q.2), if_neg (fun q => c93 q.2)]
            rw [e]
            exact ih2 s a m _ _ _ _
          · refine tv_iincN (k := i) (ls' := [some (.ref 60), some (.int (nI W)), some (.int much), some (.int day), some (.ref ac), some (.ref cod), some (.int (bz s)), some (.int (bz a)), some (.int (bz m)), some (.int (nI ((p + 3) + cs.length))), some (.int (nI (i + 1))), some (.int (nI k)), some (.int 0), some (.int (nI (p + 3)))]) rfl rfl rfl ?_
            refine tv_b (pc' := 56) (ls' := [some (.ref 60), some (.int (nI W)), some (.int much), some (.int day), some (.ref ac), some (.ref cod), some (.int (bz s)), some (.int (bz a)), some (.int (bz m)), some (.int (nI ((p + 3) + cs.length))), some (.int (nI (i + 1))), some (.int (nI k)), some (.int 0), some (.int (nI (p + 3)))]) (st' := []) (h' := (n, sl, wKK kk, I, (jvL L w), wQQ q)) 1 rfl ?_
            have e : vdR vf W much s a m ((k, u, cs) :: r) = vdR vf W much s a m r := by
              show (if k = 3 then vdR vf W much (if lg_cmp (vf cs) 0 = 0 then s else true) a m r else if k = 4 ∧ u = W then vdR vf W much s (if lg_cmp (vf cs) 0 = 0 then a else true) m r else if k = 5 ∧ u = W then vdR vf W much s a (if lg_cmp much.toInt64 (vf cs) ≤ 0 then m else true) r else vdR vf W much s a m r) = _
              rw [if_neg c124, if_neg (fun q => c93 q.2), if_neg (fun q => c197 q.1)]
            rw [e]
            exact ih2 s a m _ _ _ _
        · refine tv_b (pc' := (if (nI k) = 5 then 200 else 231)) (ls' := [some (.ref 60), some (.int (nI W)), some (.int much), some (.int day), some (.ref ac), some (.ref cod), some (.int (bz s)), some (.int (bz a)), some (.int (bz m)), some (.int (nI ((p + 3) + cs.length))), some (.int (nI i)), some (.int (nI k)), some (.int 0), some (.int (nI (p + 3)))]) (st' := []) (h' := (n, sl, wKK kk, I, (jvL L w), wQQ q)) 3 rfl ?_
          refine tv_ifq (nI_eq (a := k) (b := 5) (by omega) (by omega)) (fun c197 => ?_) (fun c197 => ?_)
          · refine tv_b (pc' := 231) (ls' := [some (.ref 60), some (.int (nI W)), some (.int much), some (.int day), some (.ref ac), some (.ref cod), some (.int (bz s)), some (.int (bz a)), some (.int (bz m)), some (.int (nI ((p + 3) + cs.length))), some (.int (nI i)), some (.int (nI k)), some (.int 0), some (.int (nI (p + 3)))]) (st' := []) (h' := (n, sl, wKK kk, I, (jvL L w), wQQ q)) 2 rfl ?_
            refine tv_iincN (k := i) (ls' := [some (.ref 60), some (.int (nI W)), some (.int much), some (.int day), some (.ref ac), some (.ref cod), some (.int (bz s)), some (.int (bz a)), some (.int (bz m)), some (.int (nI ((p + 3) + cs.length))), some (.int (nI (i + 1))), some (.int (nI k)), some (.int 0), some (.int (nI (p + 3)))]) rfl rfl rfl ?_
            refine tv_b (pc' := 56) (ls' := [some (.ref 60), some (.int (nI W)), some (.int much), some (.int day), some (.ref ac), some (.ref cod), some (.int (bz s)), some (.int (bz a)), some (.int (bz m)), some (.int (nI ((p + 3) + cs.length))), some (.int (nI (i + 1))), some (.int (nI k)), some (.int 0), some (.int (nI (p + 3)))]) (st' := []) (h' := (n, sl, wKK kk, I, (jvL L w), wQQ q)) 1 rfl ?_
            have e : vdR vf W much s a m ((k, u, cs) :: r) = vdR vf W much s a m r := by
              show (if k = 3 then vdR vf W much (if lg_cmp (vf cs) 0 = 0 then s else true) a m r else if k = 4 ∧ u = W then vdR vf W much s (if lg_cmp (vf cs) 0 = 0 then a else true) m r else if k = 5 ∧ u = W then vdR vf W much s a (if lg_cmp much.toInt64 (vf cs) ≤ 0 then m else true) r else vdR vf W much s a m r) = _
              rw [if_neg c124, if_neg (fun q => c158 q.1), if_neg (fun q => c93 q.2)]
            rw [e]
            exact ih2 s a m _ _ _ _
          · refine tv_iincN (k := i) (ls' := [some (.ref 60), some (.int (nI W)), some (.int much), some (.int day), some (.ref ac), some (.ref cod), some (.int (bz s)), some (.int (bz a)), some (.int (bz m)), some (.int (nI ((p + 3) + cs.length))), some (.int (nI (i + 1))), some (.int (nI k)), some (.int 0), some (.int (nI (p + 3)))]) rfl rfl rfl ?_
            refine tv_b (pc' := 56) (ls' := [some (.ref 60), some (.int (nI W)), some (.int much), some (.int day), some (.ref ac), some (.ref cod), some (.int (bz s)), some (.int (bz a)), some (.int (bz m)), some (.int (nI ((p + 3) + cs.length))), some (.int (nI (i + 1))), some (.int (nI k)), some (.int 0), some (.int (nI (p + 3)))]) (st' := []) (h' := (n, sl, wKK kk, I, (jvL L w), wQQ q)) 1 rfl ?_
            have e : vdR vf W much s a m ((k, u, cs) :: r) = vdR vf W much s a m r := by
              show (if k = 3 then vdR vf W much (if lg_cmp (vf cs) 0 = 0 then s else true) a m r else if k = 4 ∧ u = W then vdR vf W much s (if lg_cmp (vf cs) 0 = 0 then a else true) m r else if k = 5 ∧ u = W then vdR vf W much s a (if lg_cmp much.toInt64 (vf cs) ≤ 0 then m else true) r else vdR vf W much s a m r) = _
              rw [if_neg c124, if_neg (fun q => c158 q.1), if_neg (fun q => c197 q.1)]
            rw [e]
            exact ih2 s a m _ _ _ _
