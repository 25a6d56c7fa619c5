/-! what a card keeps -/
/-! the reference looks at its card -/
def KW (V : CV) : Prop := KV V ∧ ∀ j : Nat, (j : Int) < V.2.1 → V.2.2.2.2.2.2.2.2 j < V.1
theorem bz_nz {c : Prop} [Decidable c] (h : bz c ≠ 0) : c := by
  by_cases q : c
  · exact q
  · exact absurd (bz_f q) h
theorem bz_z {c : Prop} [Decidable c] (h : bz c = 0) : ¬ c := by
  intro q
  have := bz_t q
  omega
