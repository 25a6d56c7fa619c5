def tr (u m x : Int) : Int := if x = u then m else if x = m then u else x
theorem tr_tr (u m x : Int) : tr u m (tr u m x) = x := by
  unfold tr
  split <;> split <;> (try split) <;> omega
theorem tr_iff {u m x y : Int} : tr u m x = y ↔ x = tr u m y := by
  constructor
  · intro h
    rw [← h, tr_tr]
  · intro h
    rw [h, tr_tr]
theorem tr_inj {u m x y : Int} : tr u m x = tr u m y ↔ x = y := by
  rw [tr_iff, tr_tr]
theorem sD_tr {u m : Int} (hu : 0 ≤ u) (hm : 0 ≤ m) (s : Nat → Int) (x : Int) : sD (fun j => tr u m (s j)) x = tr u m (sD s x) := by
  unfold sD
  split
  · rfl
  · unfold tr
    rw [if_neg (by omega), if_neg (by omega)]
theorem GA_tr {u m p sh ln : Int} (hu : 0 ≤ u) (hm : 0 ≤ m) (s : Nat → Int) : GA p sh ln (fun j => tr u m (s j)) = GA p sh ln s := by
  unfold GA gaF
  refine sm_congr (fun st _ => ?_)
  have e : ghF (fun j => tr u m (s j)) (ssF p sh ln) st = ghF s (ssF p sh ln) st := by
    refine sm_congr (fun r _ => bz_iff ?_)
    show ((0 : Int) < r ∧ sD (fun j => tr u m (s j)) _ ≠ sD (fun j => tr u m (s j)) _) ∨ ((r : Int) < 11 ∧ sD (fun j => tr u m (s j)) _ ≠ sD (fun j => tr u m (s j)) _) ↔ _
    rw [sD_tr hu hm, sD_tr hu hm, sD_tr hu hm]
    exact or_congr (and_congr Iff.rfl (not_congr tr_inj)) (and_congr Iff.rfl (not_congr tr_inj))
  try dsimp only
  rw [e]
theorem cnS_tr {u m p y : Int} (s : Nat → Int) : cnS p (fun j => tr u m (s j)) y = cnS p s (tr u m y) := sm_congr (fun j _ => bz_iff tr_iff)
theorem tr_rg {u m v x : Int} (hu : 0 ≤ u ∧ u < v) (hm : 0 ≤ m ∧ m < v) (hx : 0 ≤ x ∧ x < v) : 0 ≤ tr u m x ∧ tr u m x < v := by
  unfold tr
  split
  · exact hm
  · split
    · exact hu
    · exact hx
theorem cov_tr {u m v p : Int} {s : Nat → Int} (hu : 0 ≤ u ∧ u < v) (hm : 0 ≤ m ∧ m < v) (h : cov v p s) : cov v p (fun j => tr u m (s j)) := by
  rcases h with h | h
  · exact Or.inl h
  · refine Or.inr (fun y hy => ?_)
    have a := tr_rg hu hm (x := (y : Int)) (by omega)
    rw [cnS_tr]
    have b := h (tr u m (y : Int)).toNat (by omega)
    rw [tn a.1] at b
    exact b
/-- all orders of views, not the canonical alone -/
def dgs (v : Int) (p : Nat) (x : Nat → Int) : Prop := ∀ j : Nat, j < p → 0 ≤ x j ∧ x j < v
theorem best_Rg {v p sh ln : Int} {b : Nat → Int} (hp : 2 ≤ p) (hb : dgs v p.toNat b) (hc : cov v p b) (hm : ∀ x, dgs v p.toNat x → cov v p x → lx p.toNat x b → GA p sh ln b < GA p sh ln x) : Rg v p.toNat b := by
  have key : ∀ j : Nat, j < p.toNat → ∀ m : Int, 0 ≤ m → (∀ i : Nat, i < j → b i < m) → b j ≤ m := by
    intro j hj m h0 hi
    apply Classical.byContradiction
    intro q
    have q : m < b j := by omega
    have r := hb j hj
    have l : lx p.toNat (fun i => tr (b j) m (b i)) b := by
      refine ⟨j, hj, fun i hij => ?_, ?_⟩
      · have := hi i hij
        show tr (b j) m (b i) = b i
        unfold tr
        rw [if_neg (by omega), if_neg (by omega)]
      · show tr (b j) m (b j) < b j
        unfold tr
        rw [if_pos rfl]
        exact q
    have c := hm (fun i => tr (b j) m (b i)) (fun i hi2 => tr_rg r (by omega) (hb i hi2)) (cov_tr r (by omega) hc) l
    rw [GA_tr (by omega) h0] at c
    omega
  refine ⟨?_, fun j h1 hj => ?_⟩
  · have a := key 0 (by omega) 0 (by omega) (fun i hi => by omega)
    have c := hb 0 (by omega)
    omega
  · have c := hb j hj
    refine ⟨c.1, c.2, key j hj (hg j b + 1) (by have := hg_0le j b; omega) (fun i hi => ?_)⟩
    have := hg_le (s := b) hi
    omega
theorem cnS_ex {p x : Int} {s : Nat → Int} : cnS p s x ≠ 0 ↔ ∃ j : Nat, j < p.toNat ∧ s j = x := by
  constructor
  · intro h
    apply Classical.byContradiction
    intro q
    exact h (sm_0 (fun j hj => bz_f (fun e => q ⟨j, hj, e⟩)))
  · rintro ⟨j, hj, e⟩
    exact cnS_pos hj e
theorem bestO_eq {v p sh ln : Int} {b b2 : Nat → Int} (h : bestO v p sh ln b) (h2 : bestO v p sh ln b2) : eqp p.toNat b b2 := by
  obtain ⟨r1, c1, -, m1⟩ := h
  obtain ⟨r2, c2, -, m2⟩ := h2
  have a1 := m1 b2 r2 c2
  have a2 := m2 b r1 c1
  rcases lx_tri p.toNat b b2 with q | q | q
  · have := a2.2 q
    omega
  · exact q
  · have := a1.2 q
    omega
