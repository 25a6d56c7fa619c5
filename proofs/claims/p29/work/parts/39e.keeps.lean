/-! what the acts keep: a card's values in range -/
theorem CVe.symm {V U : CV} (h : CVe V U) : CVe U V := by
  obtain ⟨⟨a1, a2, a3, a4, a5, a6, a7⟩, a8, a9⟩ := h
  exact ⟨⟨a1.symm, a2.symm, a3.symm, a4.symm, a5.symm, a6.symm, a7.symm⟩, fun j hj => (a8 j hj).symm, fun j hj => (a9 j hj).symm⟩
theorem inT_in {v : Int} (hv : 2 ≤ v ∧ v ≤ 4) (s : Nat → Int) : SR (preF 6 (inT v) s) ∧ ∀ j : Nat, (j : Int) < 6 → preF 6 (inT v) s j < v := by
  have e : ∀ j : Nat, (j : Int) < 6 → 0 ≤ preF 6 (inT v) s j ∧ preF 6 (inT v) s j < v := fun j hj => by
    rw [preF_lt hj]
    exact ⟨Int.emod_nonneg _ (by omega), Int.emod_lt_of_pos _ (by omega)⟩
  exact ⟨fun j hj => by have := e j (by omega); omega, fun j hj => (e j hj).2⟩

/-! texts: one fault; a good text's card -/
theorem bad_uniq {t : Nat → Int} {tl q1 q2 : Int} (h1 : badC t tl q1) (h2 : badC t tl q2) : q1 = q2 := by
  have key : ∀ a b : Int, badC t tl a → badC t tl b → ¬ a < b := by
    intro a b ha hb q
    obtain ⟨a1, a2, a3⟩ := ha
    obtain ⟨b1, b2, b3⟩ := hb
    have c := b2 a.toNat (by omega)
    rcases a3 with ⟨-, a3⟩ | ⟨a3, -⟩
    · rw [tn a1.1] at c
      exact a3 c
    · omega
  have a := key q1 q2 h1 h2
  have b := key q2 q1 h2 h1
  omega
theorem good_bad {t : Nat → Int} {tl q : Int} (h1 : goodC t tl) (h2 : badC t tl q) : False := by
  obtain ⟨a1, a2⟩ := h1
  obtain ⟨b1, b2, b3⟩ := h2
  rcases b3 with ⟨b4, b3⟩ | ⟨-, b3⟩
  · have c := a1 q.toNat (by omega)
    rw [tn b1.1] at c
    exact b3 c
  · exact b3 a2
theorem coF_le {t : Nat → Int} {i j : Nat} (h : i ≤ j) : coF t i ≤ coF t j := by
  induction j with
  | zero => rw [show i = 0 by omega]; exact Int.le_refl _
  | succ j ih =>
    by_cases q : i = j + 1
    · rw [q]; exact Int.le_refl _
    · have a := ih (by omega)
      show _ ≤ (if chZ t j = 58 then (j : Int) else coF t j)
      split
      · have := (coF_rg t j).2
        omega
      · exact a
theorem coF_ge {t : Nat → Int} {k j : Nat} (h : chZ t k = 58) (hj : k < j) : (k : Int) ≤ coF t j := by
  have a : coF t (k + 1) = k := if_pos h
  rw [← a]
  exact coF_le hj
theorem al_dg {t : Nat → Int} {i : Int} (h : alC t (-1) i) (h1 : (i + 1) % 13 ≠ 0) : dgZ t i ≠ -1 := by
  unfold alC at h
  rw [if_pos rfl, if_neg h1] at h
  exact h
theorem al_k {t : Nat → Int} {k i : Int} (h : alC t k i) (hk : k ≠ -1) : i - k ≤ 6 ∧ 0 ≤ dgZ t i ∧ dgZ t i ≤ (k + 1) / 13 - 1 := by
  unfold alC at h
  rw [if_neg hk] at h
  exact h
theorem dgZ_58 {t : Nat → Int} {i : Int} (h : chZ t i = 58) : dgZ t i = -1 := by
  unfold dgZ
  rw [if_neg (by omega)]
theorem dgc_rg {t : Nat → Int} {K : Int} (h : ∀ i : Nat, (i : Int) < K → coF t i = -1 ∧ alC t (-1) i) {rv : Int} (hr : 13 * rv - 1 ≤ K) {j : Nat} (hj : (j : Int) < rv * 12) : 0 ≤ dgc t j ∧ dgc t j ≤ 9 := by
  unfold dgc
  have a := (h ((j : Int) / 12 * 13 + (j : Int) % 12).toNat (by omega)).2
  rw [tn (by omega)] at a
  have b := al_dg a (by omega)
  have c := dgZ_rg (c := t) ((j : Int) / 12 * 13 + (j : Int) % 12)
  omega
