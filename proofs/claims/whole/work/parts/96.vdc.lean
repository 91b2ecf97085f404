/-! THE VERDICT UNDER OTHER ROWS -/
theorem rN_c {X Y : Nat → Nat → Int32} (h : rE Y X) {D : Nat} : ∀ k, rN Y D k = rN X D k := by
  have hk := (kn_c h).2.2
  have hr := h.1
  have hd : ∀ n, dyN Y n = dyN X n := fun n => by unfold dyN; rw [hr 108 (by decide) (by decide)]
  intro k
  induction k with
  | zero => rfl
  | succ k ih =>
    show (if kn Y (k + 1) = true ∧ Y 107 (k + 1) = 4 ∧ dyN Y (k + 1) ≤ D ∧ (rN Y D k = 0 ∨ dyN Y (rN Y D k) ≤ dyN Y (k + 1)) then k + 1 else rN Y D k) = (if kn X (k + 1) = true ∧ X 107 (k + 1) = 4 ∧ dyN X (k + 1) ≤ D ∧ (rN X D k = 0 ∨ dyN X (rN X D k) ≤ dyN X (k + 1)) then k + 1 else rN X D k)
    rw [ih, hk, hr 107 (by decide) (by decide), hd, hd]
theorem vdZ_c {X Y : Nat → Nat → Int32} (h : rE Y X) {M : Nat → List (Nat × Nat × List Nat)} {W D : Nat} {much : Int32} : vdZ Y M W much D = vdZ X M W much D := by
  obtain ⟨k1, k2, k3⟩ := kn_c h
  have hg := g_c h (kn X)
  obtain ⟨d1, d2, d3, d4, d5⟩ := dG_c h
  have hws := ws_c h (fun d => by rw [k3]; exact hg.2.2.2.1 d)
  have e1 : ldF Y D = ldF X D := by funext c; unfold ldF; rw [d1, d2, pS_c h]
  have e2 : fcF Y D = fcF X D := by
    funext i
    unfold fcF fcZ
    rw [pS_c h, pS_c h, (hws D).1, (hws D).2, d3, k3, hg.1]
  have e3 : vfZ Y D = vfZ X D := by funext cs; unfold vfZ; rw [e1, e2]
  unfold vdZ
  rw [k2, rN_c h, e3]
