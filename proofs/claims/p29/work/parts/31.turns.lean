/-! orders in which the views come up in turn, and their order -/
def lx (p : Nat) (x y : Nat → Int) : Prop := ∃ j : Nat, j < p ∧ (∀ i : Nat, i < j → x i = y i) ∧ x j < y j
def eqp (p : Nat) (x y : Nat → Int) : Prop := ∀ j : Nat, j < p → x j = y j
def Rg (v : Int) (p : Nat) (s : Nat → Int) : Prop := s 0 = 0 ∧ ∀ j : Nat, 1 ≤ j → j < p → 0 ≤ s j ∧ s j < v ∧ s j ≤ hg j s + 1
theorem lx_tri (p : Nat) (x y : Nat → Int) : lx p x y ∨ eqp p x y ∨ lx p y x := by
  induction p with
  | zero => exact Or.inr (Or.inl (fun j h => by omega))
  | succ p ih =>
    rcases ih with ⟨j, h1, h2, h3⟩ | h | ⟨j, h1, h2, h3⟩
    · exact Or.inl ⟨j, by omega, h2, h3⟩
    · rcases (show x p < y p ∨ x p = y p ∨ y p < x p by omega) with h1 | h1 | h1
      · exact Or.inl ⟨p, by omega, h, h1⟩
      · refine Or.inr (Or.inl (fun j hj => ?_))
        by_cases hjp : j = p
        · rw [hjp]; exact h1
        · exact h j (by omega)
      · exact Or.inr (Or.inr ⟨p, by omega, fun i hi => (h i hi).symm, h1⟩)
    · exact Or.inr (Or.inr ⟨j, by omega, h2, h3⟩)
theorem lx_irr {p : Nat} {x y : Nat → Int} (h : lx p x y) (he : eqp p x y) : False := by
  obtain ⟨j, h1, h2, h3⟩ := h
  have := he j h1
  omega
theorem lx_trans {p : Nat} {x y z : Nat → Int} (h1 : lx p x y) (h2 : lx p y z) : lx p x z := by
  obtain ⟨j, a1, a2, a3⟩ := h1
  obtain ⟨k, b1, b2, b3⟩ := h2
  rcases (show j < k ∨ j = k ∨ k < j by omega) with h | h | h
  · exact ⟨j, a1, fun i hi => (a2 i hi).trans (b2 i (by omega)), by rw [← b2 j h]; exact a3⟩
  · subst h
    exact ⟨j, a1, fun i hi => (a2 i hi).trans (b2 i hi), by omega⟩
  · exact ⟨k, b1, fun i hi => (a2 i (by omega)).trans (b2 i hi), by rw [a2 k h]; exact b3⟩
theorem lx_asym {p : Nat} {x y : Nat → Int} (h1 : lx p x y) (h2 : lx p y x) : False := lx_irr (lx_trans h1 h2) (fun _ _ => rfl)
theorem lx_eq_l {p : Nat} {x y z : Nat → Int} (h : lx p x y) (he : eqp p x z) : lx p z y := by
  obtain ⟨j, a1, a2, a3⟩ := h
  exact ⟨j, a1, fun i hi => (he i (by omega)).symm.trans (a2 i hi), by rw [← he j a1]; exact a3⟩
theorem lx_eq_r {p : Nat} {x y z : Nat → Int} (h : lx p x y) (he : eqp p y z) : lx p x z := by
  obtain ⟨j, a1, a2, a3⟩ := h
  exact ⟨j, a1, fun i hi => (a2 i hi).trans (he i (by omega)), by rw [← he j a1]; exact a3⟩
theorem hg_congr {n : Nat} {x y : Nat → Int} (h : ∀ i : Nat, i < n → x i = y i) : hg n x = hg n y := by
  induction n with
  | zero => rfl
  | succ n ih =>
    show max (hg n x) (x n) = max (hg n y) (y n)
    rw [ih (fun i hi => h i (by omega)), h n (by omega)]
theorem hg_mono {s : Nat → Int} {m n : Nat} (h : m ≤ n) : hg m s ≤ hg n s := by
  induction h with
  | refl => exact Int.le_refl _
  | @step k _ ih =>
    show hg m s ≤ max (hg k s) (s k)
    omega
theorem hg_le {s : Nat → Int} {j n : Nat} (h : j < n) : s j ≤ hg n s := by
  have h1 : hg (j + 1) s = max (hg j s) (s j) := rfl
  have h2 := hg_mono (s := s) (show j + 1 ≤ n from h)
  omega
theorem hg_0le (n : Nat) (s : Nat → Int) : 0 ≤ hg n s := hg_mono (m := 0) (Nat.zero_le n)
theorem Rg_eq {v : Int} {p : Nat} {s x : Nat → Int} (h : Rg v p s) (hp : 0 < p) (he : eqp p s x) : Rg v p x := by
  refine ⟨by rw [← he 0 hp]; exact h.1, fun j h1 h2 => ?_⟩
  have h3 := h.2 j h1 h2
  rw [← he j h2, ← hg_congr (n := j) (fun i hi => he i (by omega))]
  exact h3
theorem nxF_lo {p k : Int} {s : Nat → Int} {i j : Nat} (h : j < i) : nxF p s i k j = s j := by
  unfold nxF
  rw [if_neg (by omega), if_neg (by omega)]
theorem nxF_i {p k : Int} {s : Nat → Int} {i : Nat} : nxF p s i k i = s i + 1 := if_pos rfl
theorem nxF_hi {p : Int} {s : Nat → Int} {i j : Nat} (h : i < j) (hj : (j : Int) < p) : nxF p s i p j = 0 := by
  unfold nxF
  rw [if_neg (by omega), if_pos (by omega)]
theorem nx_Rg {v p : Int} {s : Nat → Int} {i : Nat} (h : Rg v p.toNat s) (hv : 2 ≤ v) (hi : 1 ≤ i ∧ (i : Int) < p) (ho : okN v s i) : Rg v p.toNat (nxF p s i p) := by
  refine ⟨by rw [nxF_lo (by omega)]; exact h.1, fun j h1 h2 => ?_⟩
  rcases (show j < i ∨ j = i ∨ i < j by omega) with h3 | h3 | h3
  · rw [nxF_lo h3, hg_congr (y := s) (fun m hm => nxF_lo (by omega))]
    exact h.2 j h1 h2
  · subst h3
    rw [nxF_i, hg_congr (y := s) (fun m hm => nxF_lo hm)]
    have h4 := h.2 j h1 h2
    have h5 := ho.1
    have h6 := ho.2
    omega
  · rw [nxF_hi h3 (by omega)]
    have := hg_0le j (nxF p s i p)
    omega
theorem nx_lt {p : Int} {s : Nat → Int} {i : Nat} (hi : (i : Int) < p) : lx p.toNat s (nxF p s i p) := ⟨i, by omega, fun j hj => (nxF_lo hj).symm, by rw [nxF_i]; omega⟩
/-- none comes between an order and the next one -/
theorem nx_gap {v p : Int} {s x : Nat → Int} {i : Nat} (hi : 1 ≤ i ∧ (i : Int) < p) (hno : ∀ j : Nat, i < j → (j : Int) < p → ¬ okN v s j) (hx : Rg v p.toNat x) (h0 : s 0 = 0) (h : lx p.toNat x (nxF p s i p)) : lx p.toNat x s ∨ eqp p.toNat x s := by
  rcases lx_tri p.toNat x s with h1 | h1 | h1
  · exact Or.inl h1
  · exact Or.inr h1
  · exfalso
    obtain ⟨j, a1, a2, a3⟩ := h1
    have hj0 : j ≠ 0 := by
      intro q
      subst q
      have := hx.1
      omega
    have hxj := hx.2 j (by omega) a1
    have hok : okN v s j := by
      rw [hg_congr (y := s) (fun m hm => (a2 m hm).symm)] at hxj
      exact ⟨by omega, by omega⟩
    have hji : ¬ i < j := fun q => hno j q (by omega) hok
    obtain ⟨k, b1, b2, b3⟩ := h
    rcases (show k < j ∨ k = j ∨ j < k by omega) with h2 | h2 | h2
    · rw [nxF_lo (show k < i by omega), a2 k h2] at b3
      omega
    · subst h2
      by_cases hki : k = i
      · subst hki
        rw [nxF_i] at b3
        omega
      · rw [nxF_lo (by omega)] at b3
        omega
    · have h3 := b2 j h2
      by_cases hki : j = i
      · subst hki
        rw [nxF_i] at h3
        rw [nxF_hi h2 (by omega)] at b3
        have := hx.2 k (by omega) b1
        omega
      · rw [nxF_lo (by omega)] at h3
        omega
theorem nx_last {v p : Int} {s x : Nat → Int} (hno : ∀ j : Nat, 1 ≤ j → (j : Int) < p → ¬ okN v s j) (hx : Rg v p.toNat x) (h0 : s 0 = 0) : lx p.toNat x s ∨ eqp p.toNat x s := by
  rcases lx_tri p.toNat x s with h1 | h1 | h1
  · exact Or.inl h1
  · exact Or.inr h1
  · exfalso
    obtain ⟨j, a1, a2, a3⟩ := h1
    have hj0 : j ≠ 0 := by
      intro q
      subst q
      have := hx.1
      omega
    have hxj := hx.2 j (by omega) a1
    rw [hg_congr (y := s) (fun m hm => (a2 m hm).symm)] at hxj
    exact hno j (by omega) (by omega) ⟨by omega, by omega⟩
/-- the number of an order -/
def nc (v : Int) (s : Nat → Int) : Nat → Int
  | 0 => 0
  | n + 1 => nc v s n * v + s n
theorem nc_eq {v : Int} {n : Nat} {x y : Nat → Int} (h : eqp n x y) : nc v x n = nc v y n := by
  induction n with
  | zero => rfl
  | succ n ih =>
    show nc v x n * v + x n = nc v y n * v + y n
    rw [ih (fun j hj => h j (by omega)), h n (by omega)]
theorem nc_lt {v : Int} (hv : 2 ≤ v ∧ v ≤ 4) {n : Nat} {x y : Nat → Int} (hx : ∀ j : Nat, j < n → 0 ≤ x j ∧ x j < v) (hy : ∀ j : Nat, j < n → 0 ≤ y j ∧ y j < v) (h : lx n x y) : nc v x n < nc v y n := by
  induction n with
  | zero =>
    obtain ⟨j, h1, -⟩ := h
    omega
  | succ n ih =>
    show nc v x n * v + x n < nc v y n * v + y n
    have h1 := hx n (by omega)
    have h2 := hy n (by omega)
    obtain ⟨j, a1, a2, a3⟩ := h
    by_cases hj : j = n
    · subst hj
      rw [nc_eq (v := v) (show eqp j x y from a2)]
      omega
    · have h3 := ih (fun j hj => hx j (by omega)) (fun j hj => hy j (by omega)) ⟨j, by omega, a2, a3⟩
      rcases (show v = 2 ∨ v = 3 ∨ v = 4 by omega) with q | q | q <;> subst q <;> omega
theorem nc_rg {v : Int} (hv : 2 ≤ v ∧ v ≤ 4) {n : Nat} {x : Nat → Int} (hx : ∀ j : Nat, j < n → 0 ≤ x j ∧ x j < v) : 0 ≤ nc v x n ∧ nc v x n < 4 ^ n := by
  induction n with
  | zero => simp [nc]
  | succ n ih =>
    have h1 := ih (fun j hj => hx j (by omega))
    have h2 := hx n (by omega)
    have e : (4 : Int) ^ (n + 1) = 4 ^ n * 4 := Int.pow_succ 4 n
    rw [e]
    show 0 ≤ nc v x n * v + x n ∧ nc v x n * v + x n < 4 ^ n * 4
    rcases (show v = 2 ∨ v = 3 ∨ v = 4 by omega) with q | q | q <;> subst q <;> omega
theorem Rg_rg {v : Int} (hv : 2 ≤ v) {p : Nat} {s : Nat → Int} (h : Rg v p s) : ∀ j : Nat, j < p → 0 ≤ s j ∧ s j < v := by
  intro j hj
  by_cases h0 : j = 0
  · subst h0
    rw [h.1]
    omega
  · have := h.2 j (by omega) hj
    omega
