/-! the order that the reference finds is the class's best order -/
theorem nc_lf {v : Int} (hv : 2 ≤ v) {p : Nat} {x : Nat → Int} (hx : ∀ j : Nat, j < p → 0 ≤ x j ∧ x j < v) : ∀ i : Nat, i ≤ p → lfR v (nc v x p) i = nc v x (p - i) := by
  intro i
  induction i with
  | zero => intro _; rfl
  | succ i ih =>
    intro hi
    show lfR v (nc v x p) i / v = _
    obtain ⟨k, hk⟩ : ∃ k, p - i = k + 1 := ⟨p - i - 1, by omega⟩
    have a := hx k (by omega)
    rw [ih (by omega), hk, show p - (i + 1) = k by omega]
    show (nc v x k * v + x k) / v = _
    rw [Int.add_comm, Int.add_mul_ediv_right _ _ (by omega), Int.ediv_eq_zero_of_lt a.1 a.2]
    omega
theorem nc_dg {v : Int} (hv : 2 ≤ v) {p : Int} {x : Nat → Int} (hx : ∀ j : Nat, j < p.toNat → 0 ≤ x j ∧ x j < v) {j : Nat} (hj : j < p.toNat) : dgO v p (nc v x p.toNat) j = x j := by
  have a := hx j hj
  unfold dgO
  rw [nc_lf hv hx _ (by omega), show p.toNat - (p.toNat - 1 - j) = j + 1 by omega]
  show (nc v x j * v + x j) % v = x j
  rw [Int.add_comm, Int.add_mul_emod_self_right, Int.emod_eq_of_lt a.1 a.2]
theorem mn_st {v p : Int} {k : Nat} (h : (k : Int) < p) : mnR v p (k + 1) = mnR v p k * v := by
  show mnR v p k * (if (k : Int) < p then v else 1) = _
  rw [if_pos h]
theorem mn_end {v p : Int} (hp : 0 ≤ p) (k : Nat) (h : p.toNat ≤ k) : mnR v p k = mnR v p p.toNat := by
  induction k with
  | zero => rw [show p.toNat = 0 by omega]
  | succ k ih =>
    by_cases q : p.toNat = k + 1
    · rw [q]
    · show mnR v p k * (if (k : Int) < p then v else 1) = _
      rw [if_neg (by omega), ih (by omega)]
      omega
theorem nc_mn {v p : Int} (hv : 2 ≤ v) {x : Nat → Int} (hx : ∀ j : Nat, j < p.toNat → 0 ≤ x j ∧ x j < v) : ∀ k : Nat, k ≤ p.toNat → 0 ≤ nc v x k ∧ nc v x k + 1 ≤ mnR v p k := by
  intro k
  induction k with
  | zero => intro _; exact ⟨Int.le_refl _, Int.le_refl _⟩
  | succ k ih =>
    intro hk
    have a := hx k (by omega)
    have b := ih (by omega)
    rw [mn_st (by omega)]
    show 0 ≤ nc v x k * v + x k ∧ nc v x k * v + x k + 1 ≤ _
    have c := Int.mul_le_mul_of_nonneg_right b.2 (show 0 ≤ v by omega)
    have d := Int.mul_nonneg b.1 (show 0 ≤ v by omega)
    rw [Int.add_mul] at c
    omega
theorem lf_mn {v p : Int} (hv : 2 ≤ v) {N : Int} (h : N < mnR v p p.toNat) : ∀ i : Nat, i ≤ p.toNat → lfR v N i < mnR v p (p.toNat - i) := by
  intro i
  induction i with
  | zero => intro _; exact h
  | succ i ih =>
    intro hi
    have a := ih (by omega)
    show lfR v N i / v < _
    rw [show p.toNat - i = (p.toNat - (i + 1)) + 1 by omega, mn_st (by omega)] at a
    exact Int.ediv_lt_of_lt_mul (by omega) a
theorem dg_nc {v p : Int} (hv : 2 ≤ v) {N : Int} (h0 : 0 ≤ N) (h : N < mnR v p p.toNat) : ∀ k : Nat, k ≤ p.toNat → nc v (dgO v p N) k = lfR v N (p.toNat - k) := by
  intro k
  induction k with
  | zero =>
    intro _
    have a := lf_mn hv h p.toNat (by omega)
    have b := lfR_nn hv h0 p.toNat
    rw [show p.toNat - p.toNat = 0 by omega] at a
    have a : lfR v N p.toNat < 1 := a
    show (0 : Int) = lfR v N p.toNat
    omega
  | succ k ih =>
    intro hk
    show nc v (dgO v p N) k * v + dgO v p N k = _
    rw [ih (by omega), show p.toNat - k = (p.toNat - 1 - k) + 1 by omega, show p.toNat - (k + 1) = p.toNat - 1 - k by omega]
    show lfR v N (p.toNat - 1 - k) / v * v + lfR v N (p.toNat - 1 - k) % v = _
    exact Int.ediv_mul_add_emod _ _
def tr (u m x : Int) : Int := if x = u then m else if x = m then u else x
theorem tr_tr (u m x : Int) : tr u m (tr u m x) = x := by
  unfold tr
  split <;> split <;> (try split) <;> omega
theorem tr_iff {u m x y : Int} : tr u m x = y ↔ x = tr u m y := by
  constructor
  · intro h
    rw [← h, tr_tr]
  · intro h
    rw [h, tr_tr]
theorem tr_inj {u m x y : Int} : tr u m x = tr u m y ↔ x = y := by
  rw [tr_iff, tr_tr]
theorem sD_tr {u m : Int} (hu : 0 ≤ u) (hm : 0 ≤ m) (s : Nat → Int) (x : Int) : sD (fun j => tr u m (s j)) x = tr u m (sD s x) := by
  unfold sD
  split
  · rfl
  · unfold tr
    rw [if_neg (by omega), if_neg (by omega)]
theorem GA_tr {u m p sh ln : Int} (hu : 0 ≤ u) (hm : 0 ≤ m) (s : Nat → Int) : GA p sh ln (fun j => tr u m (s j)) = GA p sh ln s := by
  unfold GA gaF
  refine sm_congr (fun st _ => ?_)
  have e : ghF (fun j => tr u m (s j)) (ssF p sh ln) st = ghF s (ssF p sh ln) st := by
    refine sm_congr (fun r _ => bz_iff ?_)
    show ((0 : Int) < r ∧ sD (fun j => tr u m (s j)) _ ≠ sD (fun j => tr u m (s j)) _) ∨ ((r : Int) < 11 ∧ sD (fun j => tr u m (s j)) _ ≠ sD (fun j => tr u m (s j)) _) ↔ _
    rw [sD_tr hu hm, sD_tr hu hm, sD_tr hu hm]
    exact or_congr (and_congr Iff.rfl (not_congr tr_inj)) (and_congr Iff.rfl (not_congr tr_inj))
  try dsimp only
  rw [e]
theorem cnS_tr {u m p y : Int} (s : Nat → Int) : cnS p (fun j => tr u m (s j)) y = cnS p s (tr u m y) := sm_congr (fun j _ => bz_iff tr_iff)
theorem tr_rg {u m v x : Int} (hu : 0 ≤ u ∧ u < v) (hm : 0 ≤ m ∧ m < v) (hx : 0 ≤ x ∧ x < v) : 0 ≤ tr u m x ∧ tr u m x < v := by
  unfold tr
  split
  · exact hm
  · split
    · exact hu
    · exact hx
theorem cov_tr {u m v p : Int} {s : Nat → Int} (hu : 0 ≤ u ∧ u < v) (hm : 0 ≤ m ∧ m < v) (h : cov v p s) : cov v p (fun j => tr u m (s j)) := by
  rcases h with h | h
  · exact Or.inl h
  · refine Or.inr (fun y hy => ?_)
    have a := tr_rg hu hm (x := (y : Int)) (by omega)
    rw [cnS_tr]
    have b := h (tr u m (y : Int)).toNat (by omega)
    rw [tn a.1] at b
    exact b
/-- all orders of views, not the canonical alone -/
def dgs (v : Int) (p : Nat) (x : Nat → Int) : Prop := ∀ j : Nat, j < p → 0 ≤ x j ∧ x j < v
theorem best_Rg {v p sh ln : Int} {b : Nat → Int} (hp : 2 ≤ p) (hb : dgs v p.toNat b) (hc : cov v p b) (hm : ∀ x, dgs v p.toNat x → cov v p x → lx p.toNat x b → GA p sh ln b < GA p sh ln x) : Rg v p.toNat b := by
  have key : ∀ j : Nat, j < p.toNat → ∀ m : Int, 0 ≤ m → (∀ i : Nat, i < j → b i < m) → b j ≤ m := by
    intro j hj m h0 hi
    apply Classical.byContradiction
    intro q
    have q : m < b j := by omega
    have r := hb j hj
    have l : lx p.toNat (fun i => tr (b j) m (b i)) b := by
      refine ⟨j, hj, fun i hij => ?_, ?_⟩
      · have := hi i hij
        show tr (b j) m (b i) = b i
        unfold tr
        rw [if_neg (by omega), if_neg (by omega)]
      · show tr (b j) m (b j) < b j
        unfold tr
        rw [if_pos rfl]
        exact q
    have c := hm (fun i => tr (b j) m (b i)) (fun i hi2 => tr_rg r (by omega) (hb i hi2)) (cov_tr r (by omega) hc) l
    rw [GA_tr (by omega) h0] at c
    omega
  refine ⟨?_, fun j h1 hj => ?_⟩
  · have a := key 0 (by omega) 0 (by omega) (fun i hi => by omega)
    have c := hb 0 (by omega)
    omega
  · have c := hb j hj
    refine ⟨c.1, c.2, key j hj (hg j b + 1) (by have := hg_0le j b; omega) (fun i hi => ?_)⟩
    have := hg_le (s := b) hi
    omega
theorem cnS_ex {p x : Int} {s : Nat → Int} : cnS p s x ≠ 0 ↔ ∃ j : Nat, j < p.toNat ∧ s j = x := by
  constructor
  · intro h
    apply Classical.byContradiction
    intro q
    exact h (sm_0 (fun j hj => bz_f (fun e => q ⟨j, hj, e⟩)))
  · rintro ⟨j, hj, e⟩
    exact cnS_pos hj e
theorem cv_iff {v p N : Int} : cvO v p N ↔ cov v p (dgO v p N) := or_congr Iff.rfl (forall_congr' (fun _ => forall_congr' (fun _ => cnS_ex.symm)))
theorem bsR_inv (g so : Nat → Int) (n : Nat) : ((bsR g so n).1 < 0 ∧ (bsR g so n).2 = -1 ∧ ∀ m : Nat, m < n → ¬ cvO (g 0) (g 1) m) ∨ (0 ≤ (bsR g so n).1 ∧ (0 ≤ (bsR g so n).2 ∧ (bsR g so n).2 < n) ∧ cvO (g 0) (g 1) (bsR g so n).2 ∧ (bsR g so n).1 = mgG (odF (g 0) (g 1) (bsR g so n).2 (-1) g) so ∧ ∀ m : Nat, m < n → cvO (g 0) (g 1) m → (bsR g so n).1 ≤ mgG (odF (g 0) (g 1) m (-1) g) so ∧ ((m : Int) < (bsR g so n).2 → (bsR g so n).1 < mgG (odF (g 0) (g 1) m (-1) g) so)) := by
  induction n with
  | zero => exact Or.inl ⟨show (-1 : Int) < 0 by decide, rfl, fun m hm => absurd hm (Nat.not_lt_zero m)⟩
  | succ n ih =>
    have e : bsR g so (n + 1) = if cvO (g 0) (g 1) n ∧ ((bsR g so n).1 < 0 ∨ mgG (odF (g 0) (g 1) n (-1) g) so < (bsR g so n).1) then (mgG (odF (g 0) (g 1) n (-1) g) so, (n : Int)) else bsR g so n := rfl
    have G0 := (mgG_rg (odF (g 0) (g 1) n (-1) g) so).1
    rw [e]
    by_cases q : cvO (g 0) (g 1) n ∧ ((bsR g so n).1 < 0 ∨ mgG (odF (g 0) (g 1) n (-1) g) so < (bsR g so n).1)
    · rw [if_pos q]
      refine Or.inr ⟨G0, ⟨by dsimp only; omega, by dsimp only; omega⟩, q.1, rfl, fun m hm hcv => ?_⟩
      dsimp only
      by_cases q2 : m = n
      · subst q2
        exact ⟨Int.le_refl _, fun x => by omega⟩
      · rcases ih with ⟨-, -, h3⟩ | ⟨h1, h2, h3, h4, h5⟩
        · exact absurd hcv (h3 m (by omega))
        · have h6 := (h5 m (by omega) hcv).1
          rcases q.2 with q3 | q3
          · omega
          · exact ⟨by omega, fun _ => by omega⟩
    · rw [if_neg q]
      rcases ih with ⟨h1, h2, h3⟩ | ⟨h1, h2, h3, h4, h5⟩
      · refine Or.inl ⟨h1, h2, fun m hm => ?_⟩
        by_cases q2 : m = n
        · subst q2
          exact fun hcv => q ⟨hcv, Or.inl h1⟩
        · exact h3 m (by omega)
      · refine Or.inr ⟨h1, ⟨h2.1, by omega⟩, h3, h4, fun m hm hcv => ?_⟩
        by_cases q2 : m = n
        · subst q2
          refine ⟨?_, fun x => by omega⟩
          apply Classical.byContradiction
          intro q3
          exact q ⟨hcv, Or.inr (by omega)⟩
        · exact h5 m (by omega) hcv
theorem GL_od {v p sh ln N : Int} {g so : Nat → Int} (hv : 2 ≤ v ∧ v ≤ 4) (hp : 2 ≤ p ∧ p ≤ 6) : GL p sh ln (dgO v p N) (odF v p N (-1) g) (preF 228 (loF p sh ln) so) := by
  refine ⟨hp, fun j hj => ?_, fun j _ => ?_, fun j hj => preF_lt (by omega)⟩
  · show (if 7 + (-1) < ((7 + j : Nat) : Int) ∧ ((7 + j : Nat) : Int) < 7 + p then dgO v p N (7 + j - 7) else g (7 + j)) = _
    rw [if_pos (by omega), show 7 + j - 7 = j by omega]
  · have a := dgO_rg (p := p) (n := N) hv.1 j
    omega
theorem bs_best {v p sh ln : Int} {g so : Nat → Int} (e0 : g 0 = v) (e1 : g 1 = p) (hv : 2 ≤ v ∧ v ≤ 4) (hp : 2 ≤ p ∧ p ≤ 6) : 0 ≤ (bsR g (preF 228 (loF p sh ln) so) (mnR v p 6).toNat).2 ∧ bestO v p sh ln (dgO v p (bsR g (preF 228 (loF p sh ln) so) (mnR v p 6).toNat).2) := by
  have mr := mnR_rg (p := p) hv 6 (by omega)
  have me : mnR v p 6 = mnR v p p.toNat := mn_end (by omega) 6 (by omega)
  have hnum : ∀ x, dgs v p.toNat x → cov v p x → ∃ m : Nat, m < (mnR v p 6).toNat ∧ (m : Int) = nc v x p.toNat ∧ eqp p.toNat (dgO v p m) x ∧ cvO v p m := by
    intro x hx hc
    have a := nc_mn hv.1 hx p.toNat (Nat.le_refl _)
    have b : eqp p.toNat (dgO v p (nc v x p.toNat)) x := fun j hj => nc_dg hv.1 hx hj
    refine ⟨(nc v x p.toNat).toNat, by omega, tn a.1, ?_, ?_⟩
    · rw [tn a.1]
      exact b
    · rw [tn a.1]
      exact cv_iff.2 ((cov_congr b).2 hc)
  have inv := bsR_inv g (preF 228 (loF p sh ln) so) (mnR v p 6).toNat
  rw [e0, e1] at inv
  rcases inv with ⟨-, -, h3⟩ | ⟨h1, h2, h3, h4, h5⟩
  · obtain ⟨m, hm, -, -, hcv⟩ := hnum (stF v) (Rg_rg hv.1 (stF_Rg hv.1 p.toNat)) (ex_cov hv.1 hp.1)
    exact absurd hcv (h3 m hm)
  · generalize bsR g (preF 228 (loF p sh ln) so) (mnR v p 6).toNat = q at h1 h2 h3 h4 h5
    obtain ⟨ql, N⟩ := q
    dsimp only at h1 h2 h3 h4 h5 ⊢
    rw [mgG_GA (GL_od hv hp)] at h4
    have hb : dgs v p.toNat (dgO v p N) := fun j _ => by
      have a := dgO_rg (p := p) (n := N) hv.1 j
      omega
    have hall : ∀ x, dgs v p.toNat x → cov v p x → GA p sh ln (dgO v p N) ≤ GA p sh ln x ∧ (lx p.toNat x (dgO v p N) → GA p sh ln (dgO v p N) < GA p sh ln x) := by
      intro x hx hc
      obtain ⟨m, hm, em, heq, hcv⟩ := hnum x hx hc
      have a := h5 m hm hcv
      rw [mgG_GA (GL_od hv hp), GA_s hp heq, h4] at a
      refine ⟨a.1, fun hl => a.2 ?_⟩
      have c := nc_lt hv hx hb hl
      rw [dg_nc hv.1 h2.1 (by omega) p.toNat (Nat.le_refl _), show p.toNat - p.toNat = 0 by omega] at c
      rw [em]
      exact c
    have hcov := cv_iff.1 h3
    refine ⟨h2.1, best_Rg hp.1 hb hcov (fun x hx hc hl => (hall x hx hc).2 hl), hcov, fun j _ => ?_, fun x hx hc => hall x (Rg_rg hv.1 hx) hc⟩
    have a := dgO_rg (p := p) (n := N) hv.1 j
    omega
theorem bestO_eq {v p sh ln : Int} {b b2 : Nat → Int} (h : bestO v p sh ln b) (h2 : bestO v p sh ln b2) : eqp p.toNat b b2 := by
  obtain ⟨r1, c1, -, m1⟩ := h
  obtain ⟨r2, c2, -, m2⟩ := h2
  have a1 := m1 b2 r2 c2
  have a2 := m2 b r1 c1
  rcases lx_tri p.toNat b b2 with q | q | q
  · have := a2.2 q
    omega
  · exact q
  · have := a1.2 q
    omega
/-- the reference's array of the best order, on its slices -/
theorem bsB_best {v p sh ln : Int} {g so be : Nat → Int} (e0 : g 0 = v) (e1 : g 1 = p) (hv : 2 ≤ v ∧ v ≤ 4) (hp : 2 ≤ p ∧ p ≤ 6) {b : Nat → Int} (hb : bestO v p sh ln b) : ∀ j : Nat, j < p.toNat → bsB g be (bsR g (preF 228 (loF p sh ln) so) (mnR v p 6).toNat).2 j = b j := by
  intro j hj
  have h := bs_best (sh := sh) (ln := ln) (so := so) e0 e1 hv hp
  have u := bestO_eq h.2 hb j hj
  unfold bsB
  rw [if_neg (by omega), preF_lt (by omega), ← u, e0, e1]
  exact (GL_od (sh := sh) (ln := ln) (so := so) (g := g) hv hp).2.1 j (by omega)
