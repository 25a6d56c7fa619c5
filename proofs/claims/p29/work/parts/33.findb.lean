/-! findBestSlices -/
def fbW (u : av_W) (s b : Nat → Int) : av_W := wst (wst u 10 (arO 6 s)) 13 (arO 6 b)
theorem fbW_9 (u : av_W) (s b s2 : Nat → Int) : wst (fbW u s b) 10 (arO 6 s2) = fbW u s2 b := by
  unfold fbW
  rw [wst_comm _ (arO 6 b) (arO 6 s2) (by decide), wst_wst]
theorem fbW_13 (u : av_W) (s b b2 : Nat → Int) : wst (fbW u s b) 13 (arO 6 b2) = fbW u s b2 := by
  unfold fbW
  rw [wst_wst]
theorem fbW_id {u : av_W} {s b : Nat → Int} (h1 : u.2.2 10 = arO 6 s) (h2 : u.2.2 13 = arO 6 b) : fbW u s b = u := by
  unfold fbW
  rw [wst_id h1, wst_id h2]
theorem fbW_ag (u : av_W) (s b : Nat → Int) : agO 10 14 u (fbW u s b) := (agO.wst _ (by omega)).trans (agO.wst _ (by omega))
theorem fbW_C {u : av_W} {v p sh ln pr gd co : Int} {c s0 : Nat → Int} (h : Cd u 8 9 10 v p sh ln pr gd co c s0) (s b : Nat → Int) : Cd (fbW u s b) 8 9 10 v p sh ln pr gd co c s := (h.slc s).out _ (by decide) (by decide) (by decide)
theorem fbW_G {u : av_W} {F G : Nat → Int} (h : Sg u 8 7 11 12 F G) (s b : Nat → Int) : Sg (fbW u s b) 8 7 11 12 F G := by
  obtain ⟨⟨q1, q2⟩, ⟨q3, q4⟩, ⟨q5, q6⟩, q7⟩ := h
  unfold fbW
  exact ⟨⟨q1, by rw [wst_ne (by decide), wst_ne (by decide)]; exact q2⟩, ⟨q3, by rw [wst_ne (by decide), wst_ne (by decide)]; exact q4⟩, ⟨q5, by rw [wst_ne (by decide), wst_ne (by decide)]; exact q6⟩, q7⟩
theorem mul_rg {a b A B : Int} (h1 : 0 ≤ a ∧ a ≤ A) (h2 : 0 ≤ b ∧ b ≤ B) : 0 ≤ a * b ∧ a * b ≤ A * B := ⟨Int.mul_nonneg h1.1 h2.1, Int.mul_le_mul h1.2 h2.2 h2.1 (by omega)⟩
theorem gaF_rg {p : Int} (hp : 2 ≤ p ∧ p ≤ 6) (s f : Nat → Int) {g : Nat → Int} (hg : ∀ j, j < 6 → 0 ≤ g j ∧ g j ≤ 19) : 0 ≤ gaF p s f g ∧ gaF p s f g ≤ 1368 := by
  have h := sm_rg (n := p.toNat) (f := fun st => g st * ghF s f (st : Int)) (L := 0) (H := 228) (fun j hj => by
    have := mul_rg (hg j (by omega)) (ghF_rg s f (j : Int))
    omega)
  unfold gaF
  omega
theorem nx_SR {v p : Int} {s : Nat → Int} {i : Nat} (hv : 2 ≤ v ∧ v ≤ 4) (hS : SR s) (hi : i < 6) (ho : okN v s i) : SR (nxF p s i p) := by
  intro j hj
  unfold nxF
  have h1 := ho.1
  have h2 := hS i hi
  have h3 := hS j hj
  split
  · omega
  · split <;> omega
