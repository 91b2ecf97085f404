/-! THE CLASS'S READER: pieces of the grammar, their ends -/
def pa_wr (cd : Nat → Int32) (ce : Nat) : List Nat → Nat → Int32
  | [] => cd
  | c :: cs => pa_wr (upd cd ce (nI c)) (ce + 1) cs
theorem pa_wr_app (a c : List Nat) : ∀ (cd : Nat → Int32) (ce : Nat), pa_wr (pa_wr cd ce a) (ce + a.length) c = pa_wr cd ce (a ++ c) := by
  induction a with
  | nil => intro cd ce; rfl
  | cons x a ih =>
    intro cd ce
    show pa_wr (pa_wr (upd cd ce (nI x)) (ce + 1) a) (ce + (a.length + 1)) c = pa_wr (upd cd ce (nI x)) (ce + 1) (a ++ c)
    rw [← ih, show ce + (a.length + 1) = ce + 1 + a.length by omega]
/-- number and count at the token at p -/
def rdQ (tx : Nat → Nat) (T G p : Nat) (nm gn : Int32) : Prop := (pa_tk tx T p = 21 → nm = nI (pa_nm tx T p)) ∧ rdX tx T G p gn
/-- the store behind a piece of the grammar -/
def rdO (tx : Nat → Nat) (T G : Nat) (r : pa_E) (ce : Nat) (cd : Nat → Int32) (I I' : Nat → Nat → Int32) : Prop := match r with
  | .inl (k, pl) => rdE k pl I I'
  | .inr (p', cs) => p' ≤ T ∧ ce + cs.length ≤ p' ∧ ∃ nm gn, rdQ tx T G p' nm gn ∧ I' = rdT tx T I p' nm gn (ce + cs.length) (pa_wr cd ce cs)
section RO
variable {tx : Nat → Nat} {T G ce : Nat} {cd : Nat → Int32} {I I' : Nat → Nat → Int32} {r : pa_E} {f : Nat → pa_E}
theorem rdO_c (h : rdO tx T G r ce cd I I') : (∃ k pl s w nm g xf xl c cd', r = .inl (k, pl) ∧ rdP k pl w xf xl ∧ c ≤ 800 ∧ I' = rdI I s w 39 nm g xf xl (nI c) cd') ∨ (∃ p' cs nm gn, r = .inr (p', cs) ∧ (p' ≤ T ∧ ce + cs.length ≤ p') ∧ rdQ tx T G p' nm gn ∧ I' = rdT tx T I p' nm gn (ce + cs.length) (pa_wr cd ce cs)) := by
  rcases r with ⟨k, pl⟩ | ⟨p', cs⟩
  · obtain ⟨s, w, nm, g, xf, xl, c, cd', h1, h2, h3⟩ := h
    exact Or.inl ⟨k, pl, s, w, nm, g, xf, xl, c, cd', rfl, h2, h1, h3⟩
  · obtain ⟨h1, h2, nm, gn, h3, h4⟩ := h
    exact Or.inr ⟨p', cs, nm, gn, rfl, ⟨h1, h2⟩, h3, h4⟩
theorem rdO_b {p : Nat} {cs : List Nat} (hr : r = .inr (p, cs)) (h : rdO tx T G (f p) (ce + cs.length) (pa_wr cd ce cs) I I') : rdO tx T G (pa_bnd r f) ce cd I I' := by
  rcases hf : f p with ⟨k, pl⟩ | ⟨p', ds⟩
  · rw [hf] at h
    have e : pa_bnd r f = .inl (k, pl) := by rw [hr]; show (match f p with
      | .inl e => .inl e
      | .inr (p', ds) => .inr (p', cs ++ ds) : pa_E) = _; rw [hf]
    rw [e]
    exact h
  · rw [hf] at h
    have e : pa_bnd r f = .inr (p', cs ++ ds) := by rw [hr]; show (match f p with
      | .inl e => .inl e
      | .inr (p', ds) => .inr (p', cs ++ ds) : pa_E) = _; rw [hf]
    rw [e]
    obtain ⟨h1, h2, nm, gn, h3, h4⟩ := h
    refine ⟨h1, by rw [List.length_append]; omega, nm, gn, h3, ?_⟩
    rw [h4, pa_wr_app, List.length_append, Nat.add_assoc]
theorem rdO_bl {e : Nat × Nat} (hr : r = .inl e) (h : rdO tx T G r ce cd I I') : rdO tx T G (pa_bnd r f) ce cd I I' := by
  unfold pa_bnd
  rw [hr] at h ⊢
  exact h
theorem rdO_F {k pl c : Nat} {s w nm g xf xl : Int32} {cd' : Nat → Int32} (hr : r = .inl (k, pl)) (hk : rdP k pl w xf xl ∧ c ≤ 800) (hI : I' = rdI I s w 39 nm g xf xl (nI c) cd') : rdO tx T G r ce cd I I' := by
  rw [hr]
  exact ⟨s, w, nm, g, xf, xl, c, cd', hk.2, hk.1, hI⟩
theorem rdO_N {p' : Nat} {cs : List Nat} {nm gn : Int32} (hr : r = .inr (p', cs)) (hp : p' ≤ T ∧ ce + cs.length ≤ p') (hn : rdQ tx T G p' nm gn) (hI : I' = rdT tx T I p' nm gn (ce + cs.length) (pa_wr cd ce cs)) : rdO tx T G r ce cd I I' := by
  rw [hr]
  exact ⟨hp.1, hp.2, nm, gn, hn, hI⟩
theorem rdO_d {rv : Option Value} (h1 : rv = some (.int 1) ∨ rv = some (.int 0)) (h2 : ∀ w, r = .inr w → rv = some (.int 1)) (h : rdO tx T G r ce cd I I') : (∃ k pl s w nm g xf xl c cd', r = .inl (k, pl) ∧ rdP k pl w xf xl ∧ c ≤ 800 ∧ I' = rdI I s w 39 nm g xf xl (nI c) cd' ∧ rv = some (.int 1)) ∨ (∃ k pl s w nm g xf xl c cd', r = .inl (k, pl) ∧ rdP k pl w xf xl ∧ c ≤ 800 ∧ I' = rdI I s w 39 nm g xf xl (nI c) cd' ∧ rv = some (.int 0)) ∨ (∃ p' cs nm gn, r = .inr (p', cs) ∧ (p' ≤ T ∧ ce + cs.length ≤ p') ∧ rdQ tx T G p' nm gn ∧ I' = rdT tx T I p' nm gn (ce + cs.length) (pa_wr cd ce cs) ∧ rv = some (.int 1)) := by
  rcases rdO_c h with ⟨k, pl, s, w, nm, g, xf, xl, c, cd', a1, a2, a3, a4⟩ | ⟨p', cs, nm, gn, a1, a2, a3, a4⟩
  · rcases h1 with h1 | h1
    · exact Or.inl ⟨k, pl, s, w, nm, g, xf, xl, c, cd', a1, a2, a3, a4, h1⟩
    · exact Or.inr (Or.inl ⟨k, pl, s, w, nm, g, xf, xl, c, cd', a1, a2, a3, a4, h1⟩)
  · exact Or.inr (Or.inr ⟨p', cs, nm, gn, a1, a2, a3, a4, h2 _ a1⟩)
/-- a fault that was told just now -/
theorem rd_L {k l : Nat} {w xf : Int32} (h : k ≠ 0 ∧ k ≤ 5) (hx : xf = nI k) : rdP k l w xf (nI l) := ⟨h, Or.inl ⟨hx, rfl⟩⟩
end RO
