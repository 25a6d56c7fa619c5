/-! the text of a card: views of twelve digits with strokes, a colon, the slices -/
def TXf (D : Int → Int) (i : Int) : Int := if (i + 1) % 13 = 0 then 47 else 48 + D (i / 13 * 12 + i % 13)
def CT (D : Int → Int) (t : Nat → Int) (m : Int) : Prop := ∀ i : Int, 0 ≤ i → i < m → t i.toNat = TXf D i
def lenK (k : Int) : Int := if k = 0 then 0 else k + (k - 1) / 12
def FT (D E : Int → Int) (n : Int) (t : Nat → Int) (j : Int) : Prop := CT D t (13 * n - 1) ∧ t (13 * n - 1).toNat = 58 ∧ ∀ i : Int, 0 ≤ i → i < j → t (13 * n + i).toNat = 48 + E i
section TXS
variable {D E : Int → Int} {t : Nat → Int} {m n q k : Int}
theorem CT_add {x : Int} (h : CT D t m) (hm : 0 ≤ m) (hx : x = TXf D m) : CT D (updZ t m.toNat x) (m + 1) := by
  intro i h0 h1
  rw [upd_at]
  by_cases e : i = m
  · rw [e, if_pos rfl, hx]
  · rw [if_neg (by omega), h i h0 (by omega)]
theorem lenK_a (h0 : 0 ≤ k ∧ k < 48) (h : k = 0 ∨ 0 < k % 12) : (0 ≤ lenK k ∧ lenK k < 60) ∧ TXf D (lenK k) = 48 + D k ∧ lenK k + 1 = lenK (k + 1) := by
  have e : lenK k = k + k / 12 := by
    unfold lenK
    split <;> omega
  have e2 : lenK (k + 1) = k + 1 + k / 12 := by
    unfold lenK
    rw [if_neg (by omega)]
    omega
  rw [e, e2]
  refine ⟨by omega, ?_, by omega⟩
  unfold TXf
  rw [if_neg (by omega), show (k + k / 12) / 13 * 12 + (k + k / 12) % 13 = k by omega]
theorem lenK_b (h0 : 0 < k ∧ k < 48) (h : k % 12 = 0) : (0 ≤ lenK k ∧ lenK k < 60) ∧ TXf D (lenK k) = 47 ∧ TXf D (lenK k + 1) = 48 + D k ∧ lenK k + 1 + 1 = lenK (k + 1) := by
  have e : lenK k = k + k / 12 - 1 := by
    unfold lenK
    rw [if_neg (by omega)]
    omega
  have e2 : lenK (k + 1) = k + 1 + k / 12 := by
    unfold lenK
    rw [if_neg (by omega)]
    omega
  rw [e, e2]
  refine ⟨by omega, ?_, ?_, by omega⟩
  · unfold TXf
    rw [if_pos (by omega)]
  · unfold TXf
    rw [if_neg (by omega), show (k + k / 12 - 1 + 1) / 13 * 12 + (k + k / 12 - 1 + 1) % 13 = k by omega]
theorem lenK_e (hn : 2 ≤ n ∧ n ≤ 4) : lenK (12 * n) = 13 * n - 1 := by
  unfold lenK
  rw [if_neg (by omega)]
  omega
theorem FT_0 (h : CT D t (13 * n - 1)) (hn : 2 ≤ n ∧ n ≤ 4) : FT D E n (updZ t (13 * n - 1).toNat 58) 0 := by
  refine ⟨fun i h0 h1 => ?_, if_pos rfl, fun i h0 h1 => by omega⟩
  rw [upd_at, if_neg (by omega)]
  exact h i h0 h1
theorem FT_add {j x : Int} (h : FT D E n t j) (hn : 2 ≤ n ∧ n ≤ 4) (hj : 0 ≤ j) (hx : x = 48 + E j) : FT D E n (updZ t (13 * n + j).toNat x) (j + 1) := by
  obtain ⟨a1, a2, a3⟩ := h
  refine ⟨fun i h0 h1 => ?_, ?_, fun i h0 h1 => ?_⟩
  · rw [upd_at, if_neg (by omega)]
    exact a1 i h0 h1
  · rw [upd_at, if_neg (by omega)]
    exact a2
  · rw [upd_at]
    by_cases e : i = j
    · rw [e, if_pos rfl, hx]
    · rw [if_neg (by omega)]
      exact a3 i h0 (by omega)
theorem ch_in (h0 : 0 ≤ k ∧ k < 80) : chZ t k = t k.toNat := if_pos h0
theorem FT_co (h : FT D E n t q) (hn : 2 ≤ n ∧ n ≤ 4) (hq : 2 ≤ q ∧ q ≤ 6) (hD : ∀ k : Int, 0 ≤ k → k < 12 * n → 0 ≤ D k ∧ D k ≤ 9) (hE : ∀ j : Int, 0 ≤ j → j < q → 0 ≤ E j ∧ E j < n) (j : Nat) :
    ((j : Int) ≤ 13 * n - 1 → coF t j = -1) ∧ (13 * n - 1 < (j : Int) → (j : Int) ≤ 13 * n + q → coF t j = 13 * n - 1) := by
  obtain ⟨a1, a2, a3⟩ := h
  have no : ∀ i : Nat, (i : Int) < 13 * n - 1 → chZ t i ≠ 58 := by
    intro i hi
    rw [ch_in (by omega), a1 i (by omega) hi]
    unfold TXf
    split
    · omega
    · have := hD ((i : Int) / 13 * 12 + (i : Int) % 13) (by omega) (by omega)
      omega
  refine ⟨fun hj => coF_none (fun i hi => no i (by omega)), fun h1 h2 => ?_⟩
  have e := coF_one (c := t) (k := (13 * n - 1).toNat) (n := j) (by rw [ch_in (by omega), tn (by omega)]; exact a2) (by omega) (fun i h3 h4 => by
    have a := a3 ((i : Int) - 13 * n) (by omega) (by omega)
    have b := hE ((i : Int) - 13 * n) (by omega) (by omega)
    rw [show 13 * n + ((i : Int) - 13 * n) = (i : Int) by omega] at a
    rw [ch_in (by omega), a]
    omega)
  rw [e]
  omega
theorem dg_in {x : Int} (h0 : 0 ≤ k ∧ k < 80) (h : t k.toNat = 48 + x) (hx : 0 ≤ x ∧ x ≤ 9) : dgZ t k = x := by
  unfold dgZ
  rw [ch_in h0, h, if_pos (by omega)]
  omega
theorem FT_dg (h : FT D E n t q) (hn : 2 ≤ n ∧ n ≤ 4) (hD : ∀ k : Int, 0 ≤ k → k < 12 * n → 0 ≤ D k ∧ D k ≤ 9) {i : Int} (h0 : 0 ≤ i) (h1 : i < 13 * n - 1) (h2 : (i + 1) % 13 ≠ 0) : dgZ t i = D (i / 13 * 12 + i % 13) := by
  refine dg_in (by omega) ?_ (hD _ (by omega) (by omega))
  rw [h.1 i h0 h1]
  exact if_neg h2
theorem FT_sl (h : FT D E n t q) (hn : 2 ≤ n ∧ n ≤ 4) (hq : 2 ≤ q ∧ q ≤ 6) (hE : ∀ j : Int, 0 ≤ j → j < q → 0 ≤ E j ∧ E j < n) {j : Int} (h0 : 0 ≤ j) (h1 : j < q) : dgZ t (13 * n + j) = E j := by
  have := hE j h0 h1
  exact dg_in (by omega) (h.2.2 j h0 h1) (by omega)
theorem FT_good (h : FT D E n t q) (hn : 2 ≤ n ∧ n ≤ 4) (hq : 2 ≤ q ∧ q ≤ 6) (hD : ∀ k : Int, 0 ≤ k → k < 12 * n → 0 ≤ D k ∧ D k ≤ 9) (hE : ∀ j : Int, 0 ≤ j → j < q → 0 ≤ E j ∧ E j < n) : goodC t (13 * n + q) := by
  have co := FT_co h hn hq hD hE
  refine ⟨fun j hj => ?_, ?_⟩
  · by_cases q1 : (j : Int) < 13 * n - 1
    · rw [(co j).1 (by omega)]
      show if (-1 : Int) = -1 then _ else _
      rw [if_pos rfl]
      by_cases q2 : ((j : Int) + 1) % 13 = 0
      · rw [if_pos q2]
        refine Or.inl ⟨?_, by omega⟩
        rw [ch_in (by omega), h.1 j (by omega) q1]
        exact if_pos q2
      · rw [if_neg q2, FT_dg h hn hD (by omega) q1 q2]
        have := hD ((j : Int) / 13 * 12 + (j : Int) % 13) (by omega) (by omega)
        omega
    · by_cases q3 : (j : Int) = 13 * n - 1
      · rw [(co j).1 (by omega)]
        show if (-1 : Int) = -1 then _ else _
        rw [if_pos rfl, if_pos (by omega)]
        refine Or.inr ⟨?_, by omega⟩
        rw [ch_in (by omega), q3]
        exact h.2.1
      · rw [(co j).2 (by omega) (by omega)]
        show if 13 * n - 1 = -1 then _ else _
        rw [if_neg (by omega)]
        have a := FT_sl h hn hq hE (j := (j : Int) - 13 * n) (by omega) (by omega)
        have b := hE ((j : Int) - 13 * n) (by omega) (by omega)
        rw [show 13 * n + ((j : Int) - 13 * n) = (j : Int) by omega] at a
        rw [a]
        omega
  · have e := (co (13 * n + q).toNat).2 (by omega) (by omega)
    rw [e]
    show if 13 * n - 1 = -1 then _ else _
    rw [if_neg (by omega)]
    omega
/-- what a card is behind such a text -/
theorem FT_rd {v p sh ln pr gd co : Int} {c s : Nat → Int} (h : FT D E n t q) (hn : 2 ≤ n ∧ n ≤ 4) (hq : 2 ≤ q ∧ q ≤ 6) (hD : ∀ k : Int, 0 ≤ k → k < 12 * n → 0 ≤ D k ∧ D k ≤ 9) (hE : ∀ j : Int, 0 ≤ j → j < q → 0 ≤ E j ∧ E j < n) :
    ∃ c3 s3 : Nat → Int, rdV (v, p, sh, ln, pr, gd, co, c, s) t (13 * n + q) = (n, q, sh, ln, pr, gd, co, c3, s3) ∧ (∀ x y : Int, (0 ≤ x ∧ x < n) → (0 ≤ y ∧ y ≤ 11) → c3 (x * 12 + y).toNat = D (x * 12 + y)) ∧ ∀ j : Nat, (j : Int) < q → s3 j = E j := by
  have e := (FT_co h hn hq hD hE (13 * n + q).toNat).2 (by omega) (by omega)
  have e2 : rdV (v, p, sh, ln, pr, gd, co, c, s) t (13 * n + q) = ((13 * n - 1 + 1) / 13, 13 * n + q - (13 * n - 1) - 1, sh, ln, pr, gd, co, preF ((13 * n - 1 + 1) / 13 * 12) (dgc t) c, preF (13 * n + q - (13 * n - 1) - 1) (fun j => dgZ t (13 * n - 1 + 1 + j)) (preF 6 (inT ((13 * n - 1 + 1) / 13)) s)) := by
    unfold rdV
    dsimp only
    rw [e]
    exact if_neg (by omega)
  rw [show (13 * n - 1 + 1) / 13 = n by omega, show 13 * n + q - (13 * n - 1) - 1 = q by omega] at e2
  refine ⟨_, _, e2, fun x y hx hy => ?_, fun j hj => ?_⟩
  · rw [preF_lt (by omega), dgc_at hx.1 hy, FT_dg h hn hD (by omega) (by omega) (by omega)]
    congr 1
    omega
  · rw [preF_lt hj]
    show dgZ t (13 * n - 1 + 1 + (j : Int)) = E j
    rw [show 13 * n - 1 + 1 + (j : Int) = 13 * n + (j : Int) by omega]
    exact FT_sl h hn hq hE (by omega) hj
end TXS
