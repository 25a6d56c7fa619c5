theorem coF_none {c : Nat → Int} {n : Nat} (h : ∀ j : Nat, j < n → chZ c j ≠ 58) : coF c n = -1 := by
  induction n with
  | zero => rfl
  | succ n ih =>
    show (if chZ c n = 58 then (n : Int) else coF c n) = -1
    rw [if_neg (h n (by omega))]
    exact ih (fun j hj => h j (by omega))
theorem coF_one {c : Nat → Int} {k n : Nat} (hk : chZ c k = 58) (hkn : k < n) (h : ∀ j : Nat, k < j → j < n → chZ c j ≠ 58) : coF c n = k := by
  induction n with
  | zero => omega
  | succ n ih =>
    show (if chZ c n = 58 then (n : Int) else coF c n) = k
    by_cases hn : n = k
    · rw [hn, if_pos hk]
    · rw [if_neg (h n (by omega) (by omega))]
      exact ih (by omega) (fun j h1 h2 => h j h1 (by omega))
/-- views so far: digits, and a stroke behind each view -/
def pat (t : Nat → Int) (n : Int) : Prop := ∀ j : Nat, (j : Int) < n → (((j : Int) + 1) % 13 = 0 → t j = 47) ∧ (((j : Int) + 1) % 13 ≠ 0 → 48 ≤ t j ∧ t j ≤ 57)
