/-! the reference's sums over angles are the class's sums over steps -/
theorem nn_inj {x y : Int} (hx : -1 ≤ x) (hy : -1 ≤ y) : nn x = nn y ↔ x = y := by
  unfold nn
  split <;> split <;> omega
theorem nn_of {x : Int} (hx : x ≠ -1) : nn x = x := if_neg hx
theorem sm_0 {n : Nat} {f : Nat → Int} (h : ∀ j, j < n → f j = 0) : sm n f = 0 := by
  induction n with
  | zero => rfl
  | succ n ih =>
    show sm n f + f n = 0
    rw [ih (fun j hj => h j (by omega)), h n (by omega)]
    rfl
theorem sm_add (n : Nat) (f g : Nat → Int) : sm n (fun j => f j + g j) = sm n f + sm n g := by
  induction n with
  | zero => rfl
  | succ n ih =>
    show sm n (fun j => f j + g j) + (f n + g n) = (sm n f + f n) + (sm n g + g n)
    rw [ih]
    omega
theorem sm_bz {n : Nat} {z : Int} (hz : 0 ≤ z) (h : Nat → Int) : sm n (fun st => bz (z = (st : Int)) * h st) = if z < (n : Int) then h z.toNat else 0 := by
  induction n with
  | zero => rw [if_neg (by omega)]; rfl
  | succ n ih =>
    show sm n (fun st => bz (z = (st : Int)) * h st) + bz (z = (n : Int)) * h n = _
    rw [ih]
    by_cases q : z = (n : Int)
    · rw [if_neg (by omega), if_pos (by omega), bz_t q, show z.toNat = n by omega]
      omega
    · rw [bz_f q]
      by_cases q2 : z < (n : Int)
      · rw [if_pos q2, if_pos (by omega)]
        omega
      · rw [if_neg q2, if_neg (by omega)]
        omega
theorem sm_cn {p : Int} (hp : 2 ≤ p ∧ p ≤ 6) (h : Nat → Int) (n : Nat) (hn : n ≤ 19) : sm p.toNat (fun st => cnA p n st * h st) = sm n (fun i => h (stZ p ((i : Int) - 9)).toNat) := by
  induction n with
  | zero =>
    refine sm_0 (fun j _ => ?_)
    show (0 : Int) * h j = 0
    omega
  | succ n ih =>
    have z := stZ_rg (an := (n : Int) - 9) hp (by omega)
    rw [sm_congr (g := fun st => cnA p n st * h st + bz (stZ p ((n : Int) - 9) = (st : Int)) * h st) (fun j _ => by
      show (cnA p n j + bz (stZ p ((n : Int) - 9) = (j : Int))) * h j = _
      exact Int.add_mul _ _ _), sm_add, ih (by omega), sm_bz z.1, if_pos (by omega)]
    rfl
theorem sD_neg (s : Nat → Int) : sD s (-1) = -1 := if_neg (by omega)
theorem bz_iff {c d : Prop} [Decidable c] [Decidable d] (h : c ↔ d) : bz c = bz d := by
  by_cases q : c
  · rw [bz_t q, bz_t (h.1 q)]
  · rw [bz_f q, bz_f (fun q2 => q (h.2 q2))]
theorem sm_all {n : Nat} {f : Nat → Int} (h : ∀ j, j < n → f j ≤ 1) (e : sm n f = n) : ∀ j, j < n → f j = 1 := by
  induction n with
  | zero => intro j hj; omega
  | succ n ih =>
    have e2 : sm n f + f n = ((n + 1 : Nat) : Int) := e
    have a := h n (by omega)
    have le : ∀ m : Nat, m ≤ n → sm m f ≤ m := by
      intro m
      induction m with
      | zero => intro _; exact Int.le_refl _
      | succ m ihm =>
        intro hm
        have := ihm (by omega)
        have := h m (by omega)
        show sm m f + f m ≤ _
        omega
    have b := le n (by omega)
    intro j hj
    by_cases q : j = n
    · subst q
      omega
    · exact ih (fun i hi => h i (by omega)) (by omega) j (by omega)
theorem bz_le {c : Prop} [Decidable c] : bz c ≤ 1 := bz_rg.2
theorem wh_rs {s f : Nat → Int} {st x : Int} (hx : 0 ≤ x) : whF s f st = x ↔ rsF s f st x = 12 := by
  unfold whF
  constructor
  · intro h
    split at h
    · rename_i q
      rw [← h]
      exact q
    · omega
  · intro h
    have q := sm_all (f := fun r => bz (vS s f st (r : Int) = x)) (fun j _ => bz_le) h 0 (by omega)
    have q2 : vS s f st 0 = x := bz_nz (by show bz (vS s f st ((0 : Nat) : Int) = x) ≠ 0; rw [q]; decide)
    rw [if_pos (by rw [q2]; exact h)]
    exact q2
theorem asF_sm {p : Int} {s f : Nat → Int} {x : Int} (hp : 2 ≤ p ∧ p ≤ 6) : asF p s f (cnA p 19) x = sm 19 (fun i => bz (whF s f (stZ p ((i : Int) - 9)) = x)) := by
  unfold asF
  rw [sm_congr (g := fun st => cnA p 19 st * bz (whF s f (st : Int) = x)) (fun j _ => by
    try dsimp only
    by_cases q : whF s f (j : Int) = x
    · rw [if_pos q, bz_t q]; omega
    · rw [if_neg q, bz_f q]; omega), sm_cn hp _ 19 (by omega)]
  refine sm_congr (fun j hj => ?_)
  have z := stZ_rg (an := (j : Int) - 9) hp (by omega)
  try dsimp only
  rw [tn z.1]
theorem sm_cong2 {n : Nat} {f g : Nat → Int} (h : ∀ j, j < n → f j = g j) : sm n f = sm n g := sm_congr h
theorem sm_swap (m n : Nat) (f : Nat → Nat → Int) : sm m (fun i => sm n (fun j => f i j)) = sm n (fun j => sm m (fun i => f i j)) := by
  induction m with
  | zero =>
    symm
    exact sm_0 (fun j _ => rfl)
  | succ m ih =>
    show sm m (fun i => sm n (fun j => f i j)) + sm n (fun j => f m j) = _
    rw [ih, ← sm_add]
    rfl
theorem sm_one {n : Nat} {z : Int} (hz : 0 ≤ z ∧ z < (n : Int)) : sm n (fun x => bz (z = (x : Int))) = 1 := by
  have h := sm_bz (n := n) hz.1 (fun _ => 1)
  rw [if_pos hz.2] at h
  rw [← h]
  exact sm_congr (fun j _ => by try dsimp only
                                omega)
theorem sm_none {n : Nat} {z : Int} (hz : z < 0) : sm n (fun x => bz (z = (x : Int))) = 0 := sm_0 (fun j _ => bz_f (by omega))
theorem sm_const (n : Nat) (c : Int) : sm n (fun _ => c) = n * c := by
  induction n with
  | zero => show (0 : Int) = ((0 : Nat) : Int) * c; omega
  | succ n ih =>
    show sm n (fun _ => c) + c = ((n + 1 : Nat) : Int) * c
    rw [ih, show ((n + 1 : Nat) : Int) = (n : Int) + 1 by omega, Int.add_mul]
    omega
theorem vS_lt {p sh ln v : Int} {s : Nat → Int} (hp : 2 ≤ p ∧ p ≤ 6) (hv : 0 ≤ v) (hs : ∀ j : Nat, (j : Int) < p → s j < v) (st r : Int) : (0 ≤ st ∧ st < 6) → (0 ≤ r ∧ r ≤ 11) → vS s (ssF p sh ln) st r < v := by
  intro hst hr
  have z2 := slZ_rg (p := p) (sh := sh) (r := r) (pl := plZ p ln st r) hp
  show sD s (ssF p sh ln (st * 12 + r).toNat) < v
  rw [ssF_at hst.1 hr]
  unfold sD
  split
  · exact hs _ (by omega)
  · omega
theorem whF_lt {p sh ln v : Int} {s : Nat → Int} (hp : 2 ≤ p ∧ p ≤ 6) (hv : 0 ≤ v) (hs : ∀ j : Nat, (j : Int) < p → s j < v) (st : Int) (hst : 0 ≤ st ∧ st < 6) : whF s (ssF p sh ln) st < v := by
  unfold whF
  split
  · exact vS_lt hp hv hs st 0 hst (by omega)
  · omega
