/-! the reference's sums over angles are the class's sums over steps -/
theorem nn_inj {x y : Int} (hx : -1 ≤ x) (hy : -1 ≤ y) : nn x = nn y ↔ x = y := by
  unfold nn
  split <;> split <;> omega
theorem nn_of {x : Int} (hx : x ≠ -1) : nn x = x := if_neg hx
theorem sm_0 {n : Nat} {f : Nat → Int} (h : ∀ j, j < n → f j = 0) : sm n f = 0 := by
  induction n with
  | zero => rfl
  | succ n ih =>
    show sm n f + f n = 0
    rw [ih (fun j hj => h j (by omega)), h n (by omega)]
    rfl
theorem sm_add (n : Nat) (f g : Nat → Int) : sm n (fun j => f j + g j) = sm n f + sm n g := by
  induction n with
  | zero => rfl
  | succ n ih =>
    show sm n (fun j => f j + g j) + (f n + g n) = (sm n f + f n) + (sm n g + g n)
    rw [ih]
    omega
theorem sm_bz {n : Nat} {z : Int} (hz : 0 ≤ z) (h : Nat → Int) : sm n (fun st => bz (z = (st : Int)) * h st) = if z < (n : Int) then h z.toNat else 0 := by
  induction n with
  | zero => rw [if_neg (by omega)]; rfl
  | succ n ih =>
    show sm n (fun st => bz (z = (st : Int)) * h st) + bz (z = (n : Int)) * h n = _
    rw [ih]
    by_cases q : z = (n : Int)
    · rw [if_neg (by omega), if_pos (by omega), bz_t q, show z.toNat = n by omega]
      omega
    · rw [bz_f q]
      by_cases q2 : z < (n : Int)
      · rw [if_pos q2, if_pos (by omega)]
        omega
      · rw [if_neg q2, if_neg (by omega)]
        omega
theorem sm_cn {p : Int} (hp : 2 ≤ p ∧ p ≤ 6) (h : Nat → Int) (n : Nat) (hn : n ≤ 19) : sm p.toNat (fun st => cnA p n st * h st) = sm n (fun i => h (stZ p ((i : Int) - 9)).toNat) := by
  induction n with
  | zero =>
    refine sm_0 (fun j _ => ?_)
    show (0 : Int) * h j = 0
    omega
  | succ n ih =>
    have z := stZ_rg (an := (n : Int) - 9) hp (by omega)
    rw [sm_congr (g := fun st => cnA p n st * h st + bz (stZ p ((n : Int) - 9) = (st : Int)) * h st) (fun j _ => by
      show (cnA p n j + bz (stZ p ((n : Int) - 9) = (j : Int))) * h j = _
      exact Int.add_mul _ _ _), sm_add, ih (by omega), sm_bz z.1, if_pos (by omega)]
    rfl
/-- the slices and slots of the reference are the class's -/
def GL (p sh ln : Int) (s g so : Nat → Int) : Prop := (2 ≤ p ∧ p ≤ 6) ∧ (∀ j : Nat, (j : Int) < p → g (7 + j) = s j) ∧ SR s ∧ (∀ j : Nat, j < 228 → so j = loF p sh ln j)
theorem sD_neg (s : Nat → Int) : sD s (-1) = -1 := if_neg (by omega)
theorem mS_vS {p sh ln : Int} {s g so : Nat → Int} (h : GL p sh ln s g so) {an r : Int} (ha : -9 ≤ an ∧ an ≤ 9) (hr : 0 ≤ r ∧ r ≤ 11) : mS g so an r = nn (vS s (ssF p sh ln) (stZ p an) r) := by
  obtain ⟨hp, hg, hS, hso⟩ := h
  have z1 := stZ_rg hp ha
  have z2 := slZ_rg (p := p) (sh := sh) (r := r) (pl := plZ p ln (stZ p an) r) hp
  show (if so (12 * (an + 9) + r).toNat = -105 then -105 else g (7 + so (12 * (an + 9) + r).toNat).toNat) = nn (sD s (ssF p sh ln (stZ p an * 12 + r).toNat))
  rw [hso _ (by omega), loF_at ha.1 hr, ssF_at z1.1 hr]
  unfold slM
  by_cases q : slZ p sh r (plZ p ln (stZ p an) r) = -1
  · rw [if_pos q, if_pos rfl, q, sD_neg]
    rfl
  · rw [if_neg q, if_neg (by omega)]
    have e : sD s (slZ p sh r (plZ p ln (stZ p an) r)) = s (slZ p sh r (plZ p ln (stZ p an) r)).toNat := if_pos (by omega)
    have e2 := hS (slZ p sh r (plZ p ln (stZ p an) r)).toNat (by omega)
    rw [e, nn_of (by omega), show (7 + slZ p sh r (plZ p ln (stZ p an) r)).toNat = 7 + (slZ p sh r (plZ p ln (stZ p an) r)).toNat by omega]
    exact hg _ (by omega)
theorem mS_ne {p sh ln : Int} {s g so : Nat → Int} (h : GL p sh ln s g so) {an r r2 : Int} (ha : -9 ≤ an ∧ an ≤ 9) (hr : 0 ≤ r ∧ r ≤ 11) (hr2 : 0 ≤ r2 ∧ r2 ≤ 11) : mS g so an r ≠ mS g so an r2 ↔ vS s (ssF p sh ln) (stZ p an) r ≠ vS s (ssF p sh ln) (stZ p an) r2 := by
  have a := vS_rg h.2.2.1 (f := ssF p sh ln) (stZ p an) r
  have b := vS_rg h.2.2.1 (f := ssF p sh ln) (stZ p an) r2
  rw [mS_vS h ha hr, mS_vS h ha hr2]
  exact not_congr (nn_inj a.1 b.1)
theorem mgC_gh {p sh ln : Int} {s g so : Nat → Int} (h : GL p sh ln s g so) {an r : Int} (ha : -9 ≤ an ∧ an ≤ 9) (hr : 0 ≤ r ∧ r ≤ 11) : mgC g so an r ↔ ghC s (ssF p sh ln) (stZ p an) r := by
  constructor
  · rintro (⟨h1, h2⟩ | ⟨h1, h2⟩)
    · exact Or.inl ⟨h1, (mS_ne h ha (by omega) hr).1 h2⟩
    · exact Or.inr ⟨h1, (mS_ne h ha (by omega) hr).1 h2⟩
  · rintro (⟨h1, h2⟩ | ⟨h1, h2⟩)
    · exact Or.inl ⟨h1, (mS_ne h ha (by omega) hr).2 h2⟩
    · exact Or.inr ⟨h1, (mS_ne h ha (by omega) hr).2 h2⟩
theorem bz_iff {c d : Prop} [Decidable c] [Decidable d] (h : c ↔ d) : bz c = bz d := by
  by_cases q : c
  · rw [bz_t q, bz_t (h.1 q)]
  · rw [bz_f q, bz_f (fun q2 => q (h.2 q2))]
theorem mgA_gh {p sh ln : Int} {s g so : Nat → Int} (h : GL p sh ln s g so) {an : Int} (ha : -9 ≤ an ∧ an ≤ 9) : mgA g so an = ghF s (ssF p sh ln) (stZ p an) :=
  sm_congr (fun j hj => bz_iff (mgC_gh h ha (by omega)))
theorem mgG_GA {p sh ln : Int} {s g so : Nat → Int} (h : GL p sh ln s g so) : mgG g so = GA p sh ln s := by
  unfold mgG GA gaF
  rw [sm_cn h.1 (fun st => ghF s (ssF p sh ln) st) 19 (by omega)]
  refine sm_congr (fun j hj => ?_)
  have z := stZ_rg (an := (j : Int) - 9) h.1 (by omega)
  try dsimp only
  rw [mgA_gh h (by omega), tn z.1]
theorem msH_rs {p sh ln : Int} {s g so : Nat → Int} (h : GL p sh ln s g so) {an x : Int} (ha : -9 ≤ an ∧ an ≤ 9) (hx : -1 ≤ x) : msH g so an (nn x) = rsF s (ssF p sh ln) (stZ p an) x := by
  refine sm_congr (fun j hj => bz_iff ?_)
  have a := vS_rg h.2.2.1 (f := ssF p sh ln) (stZ p an) (j : Int)
  rw [mS_vS h ha (by omega)]
  exact nn_inj a.1 hx
theorem msH_rv {p sh ln : Int} {s g so : Nat → Int} (h : GL p sh ln s g so) {an x : Int} (ha : -9 ≤ an ∧ an ≤ 9) (hx : 0 ≤ x) : msH g so an x = rsF s (ssF p sh ln) (stZ p an) x := by
  have q := msH_rs h ha (x := x) (by omega)
  rw [nn_of (by omega)] at q
  exact q
theorem sm_all {n : Nat} {f : Nat → Int} (h : ∀ j, j < n → f j ≤ 1) (e : sm n f = n) : ∀ j, j < n → f j = 1 := by
  induction n with
  | zero => intro j hj; omega
  | succ n ih =>
    have e2 : sm n f + f n = ((n + 1 : Nat) : Int) := e
    have a := h n (by omega)
    have le : ∀ m : Nat, m ≤ n → sm m f ≤ m := by
      intro m
      induction m with
      | zero => intro _; exact Int.le_refl _
      | succ m ihm =>
        intro hm
        have := ihm (by omega)
        have := h m (by omega)
        show sm m f + f m ≤ _
        omega
    have b := le n (by omega)
    intro j hj
    by_cases q : j = n
    · subst q
      omega
    · exact ih (fun i hi => h i (by omega)) (by omega) j (by omega)
theorem bz_le {c : Prop} [Decidable c] : bz c ≤ 1 := bz_rg.2
theorem wh_rs {s f : Nat → Int} {st x : Int} (hx : 0 ≤ x) : whF s f st = x ↔ rsF s f st x = 12 := by
  unfold whF
  constructor
  · intro h
    split at h
    · rename_i q
      rw [← h]
      exact q
    · omega
  · intro h
    have q := sm_all (f := fun r => bz (vS s f st (r : Int) = x)) (fun j _ => bz_le) h 0 (by omega)
    have q2 : vS s f st 0 = x := bz_nz (by show bz (vS s f st ((0 : Nat) : Int) = x) ≠ 0; rw [q]; decide)
    rw [if_pos (by rw [q2]; exact h)]
    exact q2
theorem asF_sm {p : Int} {s f : Nat → Int} {x : Int} (hp : 2 ≤ p ∧ p ≤ 6) : asF p s f (cnA p 19) x = sm 19 (fun i => bz (whF s f (stZ p ((i : Int) - 9)) = x)) := by
  unfold asF
  rw [sm_congr (g := fun st => cnA p 19 st * bz (whF s f (st : Int) = x)) (fun j _ => by
    try dsimp only
    by_cases q : whF s f (j : Int) = x
    · rw [if_pos q, bz_t q]; omega
    · rw [if_neg q, bz_f q]; omega), sm_cn hp _ 19 (by omega)]
  refine sm_congr (fun j hj => ?_)
  have z := stZ_rg (an := (j : Int) - 9) hp (by omega)
  try dsimp only
  rw [tn z.1]
theorem mwA_as {p sh ln : Int} {s g so : Nat → Int} (h : GL p sh ln s g so) {x : Int} (hx : 0 ≤ x) : mwA g so x = asF p s (ssF p sh ln) (cnA p 19) x := by
  rw [asF_sm h.1]
  refine sm_congr (fun j hj => bz_iff ?_)
  rw [msH_rv h (by omega) hx]
  exact (wh_rs hx).symm
theorem sm_cong2 {n : Nat} {f g : Nat → Int} (h : ∀ j, j < n → f j = g j) : sm n f = sm n g := sm_congr h
theorem wv_eq {p sh ln v : Int} {s g so : Nat → Int} (h : GL p sh ln s g so) : sm v.toNat (fun x => bz (0 < mwA g so (x : Int))) = wvF p v s (ssF p sh ln) (cnA p 19) := by
  refine sm_congr (fun j hj => ?_)
  try dsimp only
  rw [mwA_as h (by omega)]
theorem sm_swap (m n : Nat) (f : Nat → Nat → Int) : sm m (fun i => sm n (fun j => f i j)) = sm n (fun j => sm m (fun i => f i j)) := by
  induction m with
  | zero =>
    symm
    exact sm_0 (fun j _ => rfl)
  | succ m ih =>
    show sm m (fun i => sm n (fun j => f i j)) + sm n (fun j => f m j) = _
    rw [ih, ← sm_add]
    rfl
theorem sm_one {n : Nat} {z : Int} (hz : 0 ≤ z ∧ z < (n : Int)) : sm n (fun x => bz (z = (x : Int))) = 1 := by
  have h := sm_bz (n := n) hz.1 (fun _ => 1)
  rw [if_pos hz.2] at h
  rw [← h]
  exact sm_congr (fun j _ => by try dsimp only
                                omega)
theorem sm_none {n : Nat} {z : Int} (hz : z < 0) : sm n (fun x => bz (z = (x : Int))) = 0 := sm_0 (fun j _ => bz_f (by omega))
theorem sm_const (n : Nat) (c : Int) : sm n (fun _ => c) = n * c := by
  induction n with
  | zero => show (0 : Int) = ((0 : Nat) : Int) * c; omega
  | succ n ih =>
    show sm n (fun _ => c) + c = ((n + 1 : Nat) : Int) * c
    rw [ih, show ((n + 1 : Nat) : Int) = (n : Int) + 1 by omega, Int.add_mul]
    omega
theorem wh_sum {p sh ln v : Int} {s g so : Nat → Int} (h : GL p sh ln s g so) (hv : 0 ≤ v) (hw : ∀ st : Int, (0 ≤ st ∧ st < 6) → whF s (ssF p sh ln) st < v) : sm v.toNat (fun x => mwA g so (x : Int)) = 19 - asF p s (ssF p sh ln) (cnA p 19) (-1) := by
  have e1 : sm v.toNat (fun x => mwA g so (x : Int)) = sm v.toNat (fun x => sm 19 (fun i => bz (whF s (ssF p sh ln) (stZ p ((i : Int) - 9)) = (x : Int)))) :=
    sm_congr (fun j _ => by show _ = _; rw [mwA_as h (by omega), asF_sm h.1])
  rw [e1, sm_swap, asF_sm h.1]
  have e2 : sm 19 (fun j => sm v.toNat (fun i => bz (whF s (ssF p sh ln) (stZ p ((j : Int) - 9)) = (i : Int)))) + sm 19 (fun i => bz (whF s (ssF p sh ln) (stZ p ((i : Int) - 9)) = -1)) = 19 := by
    rw [← sm_add, sm_congr (g := fun _ => 1) (fun j _ => by
      try dsimp only
      have a := whF_rg h.2.2.1 (f := ssF p sh ln) (stZ p ((j : Int) - 9))
      have z := stZ_rg (an := (j : Int) - 9) h.1 (by omega)
      have hp6 := h.1
      have b := hw (stZ p ((j : Int) - 9)) (by omega)
      by_cases q : whF s (ssF p sh ln) (stZ p ((j : Int) - 9)) = -1
      · rw [bz_t q, sm_none (by omega)]; rfl
      · rw [bz_f q, sm_one (by omega)]; rfl), sm_const]
    rfl
  omega
theorem mwT_wh {p sh ln : Int} {s g so : Nat → Int} (h : GL p sh ln s g so) {an : Int} (ha : -9 ≤ an ∧ an ≤ 9) (n : Nat) : mwT g so an n = if 0 ≤ whF s (ssF p sh ln) (stZ p an) ∧ whF s (ssF p sh ln) (stZ p an) < (n : Int) then whF s (ssF p sh ln) (stZ p an) else -105 := by
  induction n with
  | zero => rw [if_neg (by omega)]; rfl
  | succ n ih =>
    show (if msH g so an n = 12 then (n : Int) else mwT g so an n) = _
    rw [msH_rv h ha (by omega), ih]
    have e := wh_rs (s := s) (f := ssF p sh ln) (st := stZ p an) (x := (n : Int)) (by omega)
    by_cases q : rsF s (ssF p sh ln) (stZ p an) n = 12
    · have q2 := e.2 q
      rw [if_pos q, if_pos (by omega), q2]
    · have q2 : whF s (ssF p sh ln) (stZ p an) ≠ n := fun q3 => q (e.1 q3)
      rw [if_neg q]
      by_cases q4 : 0 ≤ whF s (ssF p sh ln) (stZ p an) ∧ whF s (ssF p sh ln) (stZ p an) < (n : Int)
      · rw [if_pos q4, if_pos (by omega)]
      · rw [if_neg q4, if_neg (by omega)]
theorem mwT_nn {p sh ln v : Int} {s g so : Nat → Int} (h : GL p sh ln s g so) {an : Int} (ha : -9 ≤ an ∧ an ≤ 9) (hw : whF s (ssF p sh ln) (stZ p an) < v) : mwT g so an v.toNat = nn (whF s (ssF p sh ln) (stZ p an)) := by
  have a := whF_rg h.2.2.1 (f := ssF p sh ln) (stZ p an)
  rw [mwT_wh h ha]
  unfold nn
  by_cases q : whF s (ssF p sh ln) (stZ p an) = -1
  · rw [if_pos q, if_neg (by omega)]
  · rw [if_neg q, if_pos (by omega)]
theorem mmF_mv {p sh ln : Int} {s g so : Nat → Int} (h : GL p sh ln s g so) {an : Int} (ha : -9 ≤ an ∧ an ≤ 9) (n : Nat) : (mmF g so an n).1 = nn (mvF s (ssF p sh ln) (stZ p an) n).2 ∧ (mmF g so an n).2 = (mvF s (ssF p sh ln) (stZ p an) n).1 := by
  induction n with
  | zero => exact ⟨rfl, rfl⟩
  | succ n ih =>
    have e1 : mmF g so an (n + 1) = if (mmF g so an n).2 < msH g so an n then ((n : Int), msH g so an n) else mmF g so an n := rfl
    have e2 : mvF s (ssF p sh ln) (stZ p an) (n + 1) = if (mvF s (ssF p sh ln) (stZ p an) n).1 < rsF s (ssF p sh ln) (stZ p an) n then (rsF s (ssF p sh ln) (stZ p an) n, (n : Int)) else mvF s (ssF p sh ln) (stZ p an) n := rfl
    rw [e1, e2, ih.2, msH_rv h ha (by omega)]
    by_cases q : (mvF s (ssF p sh ln) (stZ p an) n).1 < rsF s (ssF p sh ln) (stZ p an) n
    · rw [if_pos q, if_pos q]
      exact ⟨(nn_of (by omega)).symm, rfl⟩
    · rw [if_neg q, if_neg q]
      exact ih
theorem mcF_cl {p sh ln : Int} {s g so : Nat → Int} (h : GL p sh ln s g so) {x : Int} (hx : 0 ≤ x) (n : Nat) (hn : n ≤ 18) : clF p s (ssF p sh ln) x (n + 1) = (mcF g so x n, rsF s (ssF p sh ln) (stZ p (mcF g so x n)) x, ghF s (ssF p sh ln) (stZ p (mcF g so x n))) := by
  induction n with
  | zero =>
    have a := rsF_rg s (ssF p sh ln) (stZ p (-9)) x
    show (if (-1 : Int) < rsF s (ssF p sh ln) (stZ p (-9)) x ∨ _ then ((-9 : Int), rsF s (ssF p sh ln) (stZ p (-9)) x, ghF s (ssF p sh ln) (stZ p (-9))) else _) = _
    exact if_pos (Or.inl (by omega))
  | succ n ih =>
    have ih := ih (by omega)
    have mr := mcF_rg g so x n (by omega)
    have e1 : clF p s (ssF p sh ln) x (n + 1 + 1) = if (clF p s (ssF p sh ln) x (n + 1)).2.1 < rsF s (ssF p sh ln) (stZ p (((n + 1 : Nat) : Int) - 9)) x ∨ (rsF s (ssF p sh ln) (stZ p (((n + 1 : Nat) : Int) - 9)) x = (clF p s (ssF p sh ln) x (n + 1)).2.1 ∧ ghF s (ssF p sh ln) (stZ p (((n + 1 : Nat) : Int) - 9)) < (clF p s (ssF p sh ln) x (n + 1)).2.2) then (((n + 1 : Nat) : Int) - 9, rsF s (ssF p sh ln) (stZ p (((n + 1 : Nat) : Int) - 9)) x, ghF s (ssF p sh ln) (stZ p (((n + 1 : Nat) : Int) - 9))) else clF p s (ssF p sh ln) x (n + 1) := rfl
    have e2 : mcF g so x (n + 1) = if msH g so (mcF g so x n) x < msH g so ((n : Int) - 8) x ∨ (msH g so ((n : Int) - 8) x = msH g so (mcF g so x n) x ∧ mgA g so ((n : Int) - 8) < mgA g so (mcF g so x n)) then (n : Int) - 8 else mcF g so x n := rfl
    rw [msH_rv h mr hx, msH_rv h (by omega) hx, mgA_gh h mr, mgA_gh h (by omega)] at e2
    rw [e1, ih, e2, show ((n + 1 : Nat) : Int) - 9 = (n : Int) - 8 by omega]
    try dsimp only
    split
    · rfl
    · rfl
theorem vS_lt {p sh ln v : Int} {s : Nat → Int} (hp : 2 ≤ p ∧ p ≤ 6) (hv : 0 ≤ v) (hs : ∀ j : Nat, (j : Int) < p → s j < v) (st r : Int) : (0 ≤ st ∧ st < 6) → (0 ≤ r ∧ r ≤ 11) → vS s (ssF p sh ln) st r < v := by
  intro hst hr
  have z2 := slZ_rg (p := p) (sh := sh) (r := r) (pl := plZ p ln st r) hp
  show sD s (ssF p sh ln (st * 12 + r).toNat) < v
  rw [ssF_at hst.1 hr]
  unfold sD
  split
  · exact hs _ (by omega)
  · omega
theorem whF_lt {p sh ln v : Int} {s : Nat → Int} (hp : 2 ≤ p ∧ p ≤ 6) (hv : 0 ≤ v) (hs : ∀ j : Nat, (j : Int) < p → s j < v) (st : Int) (hst : 0 ≤ st ∧ st < 6) : whF s (ssF p sh ln) st < v := by
  unfold whF
  split
  · exact vS_lt hp hv hs st 0 hst (by omega)
  · omega
