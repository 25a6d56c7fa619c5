/-! one card by itself: what is seen lies behind; ghosts, whole views, bits -/
section WLL
theorem sm_zero {n : Nat} {f : Nat → Int} (h : ∀ j, j < n → 0 ≤ f j) (e : sm n f = 0) : ∀ j, j < n → f j = 0 := by
  have nn0 : ∀ m : Nat, m ≤ n → 0 ≤ sm m f := by
    intro m
    induction m with
    | zero => intro _; exact Int.le_refl _
    | succ m ih =>
      intro hm
      have a := ih (by omega)
      have b := h m (by omega)
      show 0 ≤ sm m f + f m
      omega
  induction n with
  | zero => intro j hj; omega
  | succ n ih =>
    have e2 : sm n f + f n = 0 := e
    have a := nn0 n (by omega)
    have b := h n (by omega)
    intro j hj
    by_cases q : j = n
    · rw [q]
      omega
    · exact ih (fun i hi => h i (by omega)) (by omega) (fun m hm => nn0 m (by omega)) j (by omega)
theorem sm_nn {n : Nat} {f : Nat → Int} (h : ∀ j, 0 ≤ f j) : 0 ≤ sm n f := by
  induction n with
  | zero => exact Int.le_refl _
  | succ n ih =>
    have := h n
    show 0 ≤ sm n f + f n
    omega
theorem sm_ge1 {n : Nat} {f : Nat → Int} (h : ∀ j, 0 ≤ f j) {i : Nat} (hi : i < n) (e : f i = 1) : 1 ≤ sm n f := by
  induction n with
  | zero => omega
  | succ n ih =>
    have a := h n
    have b := sm_nn (n := n) h
    show 1 ≤ sm n f + f n
    by_cases q : i = n
    · rw [q] at e
      omega
    · have := ih (by omega)
      omega
theorem sm_ge2 {n : Nat} {f : Nat → Int} (h : ∀ j, 0 ≤ f j) {i j : Nat} (hij : i < j) (hj : j < n) (e1 : f i = 1) (e2 : f j = 1) : 2 ≤ sm n f := by
  induction n with
  | zero => omega
  | succ n ih =>
    have a := h n
    show 2 ≤ sm n f + f n
    by_cases q : j = n
    · have b := sm_ge1 (n := n) h (show i < n by omega) e1
      rw [q] at e2
      omega
    · have := ih (by omega)
      omega
theorem sm_not {n : Nat} {c : Nat → Prop} [∀ i, Decidable (c i)] : sm n (fun i => bz (¬ c i)) = n - sm n (fun i => bz (c i)) := by
  induction n with
  | zero => rfl
  | succ n ih =>
    show sm n (fun i => bz (¬ c i)) + bz (¬ c n) = ((n + 1 : Nat) : Int) - (sm n (fun i => bz (c i)) + bz (c n))
    rw [ih]
    by_cases q : c n
    · rw [bz_t q, bz_f (fun z => z q)]
      omega
    · rw [bz_f q, bz_t q]
      omega
variable {v p sh ln pr gd co : Int} {c s : Nat → Int}
theorem vS_at {st r : Int} (hst : 0 ≤ st) (hr : 0 ≤ r ∧ r ≤ 11) : vS s (ssF p sh ln) st r = sD s (slZ p sh r (plZ p ln st r)) := by
  show sD s (ssF p sh ln (st * 12 + r).toNat) = _
  rw [ssF_at hst hr]
theorem nn_105 {x : Int} (hx : -1 ≤ x) : nn x = -105 ↔ x = -1 := by
  unfold nn
  split <;> omega
theorem gh_al {st : Int} {f : Nat → Int} : ghF s f st = 0 ↔ rsF s f st (vS s f st 0) = 12 := by
  constructor
  · intro h
    have z := sm_zero (f := fun r => bz (ghC s f st (r : Int))) (fun j _ => bz_rg.1) h
    have eq : ∀ j : Nat, j < 12 → vS s f st (j : Int) = vS s f st 0 := by
      intro j
      induction j with
      | zero => intro _; rfl
      | succ j ih =>
        intro hj
        have a := bz_z (z j (by omega))
        have b := ih (by omega)
        rw [← b]
        apply Classical.byContradiction
        intro q
        exact a (Or.inr ⟨by omega, q⟩)
    have e : rsF s f st (vS s f st 0) = sm 12 (fun _ => 1) := sm_congr (fun j hj => bz_t (eq j hj))
    rw [e]
    rfl
  · intro h
    have a := sm_all (f := fun r => bz (vS s f st (r : Int) = vS s f st 0)) (fun j _ => bz_rg.2) h
    have eq : ∀ r : Int, 0 ≤ r → r ≤ 11 → vS s f st r = vS s f st 0 := fun r h0 h1 => by
      have b := a r.toNat (by omega)
      have b2 : vS s f st ((r.toNat : Nat) : Int) = vS s f st 0 := bz_nz (by show bz _ ≠ 0; rw [b]; decide)
      rw [tn h0] at b2
      exact b2
    refine sm_0 (fun j hj => bz_f (fun q => ?_))
    rcases q with q | q
    · exact q.2 ((eq _ (by omega) (by omega)).trans (eq _ (by omega) (by omega)).symm)
    · exact q.2 ((eq _ (by omega) (by omega)).trans (eq _ (by omega) (by omega)).symm)
theorem gh_1 {st : Int} {f : Nat → Int} : ghF s f st ≠ 1 := by
  intro h
  have n0 : ∀ j : Nat, 0 ≤ bz (ghC s f st (j : Int)) := fun j => bz_rg.1
  have ex : ∃ j : Nat, j < 12 ∧ ghC s f st (j : Int) := by
    apply Classical.byContradiction
    intro q
    have : ghF s f st = 0 := sm_0 (fun j hj => bz_f (fun q2 => q ⟨j, hj, q2⟩))
    omega
  obtain ⟨j, hj, hg⟩ := ex
  have h2 : (2 : Int) ≤ ghF s f st := by
    rcases hg with q | q
    · have g2 : ghC s f st (((j - 1 : Nat) : Nat) : Int) := Or.inr ⟨by omega, by
        rw [show (((j - 1 : Nat) : Nat) : Int) = (j : Int) - 1 by omega, show (j : Int) - 1 + 1 = (j : Int) by omega]
        exact fun e => q.2 e.symm⟩
      exact sm_ge2 n0 (show j - 1 < j by omega) hj (bz_t g2) (bz_t (Or.inl q))
    · have g2 : ghC s f st (((j + 1 : Nat) : Nat) : Int) := Or.inl ⟨by omega, by
        rw [show (((j + 1 : Nat) : Nat) : Int) = (j : Int) + 1 by omega, show (j : Int) + 1 - 1 = (j : Int) by omega]
        exact fun e => q.2 e.symm⟩
      exact sm_ge2 n0 (show j < j + 1 by omega) (by omega) (bz_t (Or.inr q)) (bz_t g2)
  omega
theorem st_mono {a : Int} (hp : 2 ≤ p ∧ p ≤ 6) : stZ p (a - 1) ≤ stZ p a := by
  unfold stZ
  rcases (show p = 2 ∨ p = 3 ∨ p = 4 ∨ p = 5 ∨ p = 6 by omega) with h | h | h | h | h <;> subst h <;> omega
theorem w_place (hp : 2 ≤ p ∧ p ≤ 6) {a b : Int} (ha : -9 ≤ a ∧ a ≤ 9) (hb : 0 ≤ b ∧ b ≤ 11) : 0 ≤ o_seen (v, p, sh, ln, pr, gd, co, c, s) a b 2 ∧ o_seen (v, p, sh, ln, pr, gd, co, c, s) a b 2 ≤ p - 1 := by
  rw [seen_2 ha hb]
  exact plZ_rg hp
theorem w_b0 (hp : 2 ≤ p ∧ p ≤ 6) {a b : Int} (ha : -9 ≤ a ∧ a ≤ 9) (hb : 0 ≤ b ∧ b ≤ 11) : o_behind (v, p, sh, ln, pr, gd, co, c, s) b (o_seen (v, p, sh, ln, pr, gd, co, c, s) a b 2) 0 = o_seen (v, p, sh, ln, pr, gd, co, c, s) a b 0 := by
  have := plZ_rg (ln := ln) (st := stZ p a) (r := b) hp
  rw [seen_2 ha hb, seen_0 ha hb]
  exact (if_neg (by omega)).trans (if_pos rfl)
theorem w_b1 (hp : 2 ≤ p ∧ p ≤ 6) {a b : Int} (ha : -9 ≤ a ∧ a ≤ 9) (hb : 0 ≤ b ∧ b ≤ 11) : o_behind (v, p, sh, ln, pr, gd, co, c, s) b (o_seen (v, p, sh, ln, pr, gd, co, c, s) a b 2) 1 = o_seen (v, p, sh, ln, pr, gd, co, c, s) a b 1 := by
  have := plZ_rg (ln := ln) (st := stZ p a) (r := b) hp
  rw [seen_2 ha hb, seen_1 ha hb]
  exact (if_neg (by omega)).trans ((if_neg (by omega)).trans (if_pos rfl))
theorem w_b2 {a b : Int} (hp : 2 ≤ p ∧ p ≤ 6) (ha : 0 ≤ a ∧ a ≤ 11) (hb : 0 ≤ b ∧ b ≤ p - 1) : o_behind (v, p, sh, ln, pr, gd, co, c, s) a b 2 = nn (rdZ p sh a b) := (if_neg (by omega)).trans ((if_neg (by omega)).trans ((if_neg (by omega)).trans (if_pos rfl)))
theorem w_mono (hp : 2 ≤ p ∧ p ≤ 6) {a b : Int} (ha : -8 ≤ a ∧ a ≤ 9) (hb : 0 ≤ b ∧ b ≤ 11) : o_seen (v, p, sh, ln, pr, gd, co, c, s) (a - 1) b 2 ≤ o_seen (v, p, sh, ln, pr, gd, co, c, s) a b 2 := by
  rw [seen_2 (by omega) hb, seen_2 (by omega) hb]
  have := st_mono (a := a) hp
  unfold plZ
  omega
theorem w_col (hv : 2 ≤ v ∧ v ≤ 4) (hp : 2 ≤ p ∧ p ≤ 6) (k5 : RS v p s) (k6 : ∀ j : Nat, j < 48 → 0 ≤ c j ∧ c j ≤ 9) {a b : Int} (ha : -9 ≤ a ∧ a ≤ 9) (hb : 0 ≤ b ∧ b ≤ 11) (h : o_seen (v, p, sh, ln, pr, gd, co, c, s) a b 0 ≠ -105) :
    o_colourOf (v, p, sh, ln, pr, gd, co, c, s) (o_seen (v, p, sh, ln, pr, gd, co, c, s) a b 0) (o_behind (v, p, sh, ln, pr, gd, co, c, s) b (o_seen (v, p, sh, ln, pr, gd, co, c, s) a b 2) 2) = o_seen (v, p, sh, ln, pr, gd, co, c, s) a b 1 := by
  have hpl := plZ_rg (ln := ln) (st := stZ p a) (r := b) hp
  rw [seen_2 ha hb, w_b2 hp hb hpl]
  rw [seen_0 ha hb] at h ⊢
  rw [seen_1 ha hb]
  generalize plZ p ln (stZ p a) b = pl at *
  have z := slZ_rg (sh := sh) (r := b) (pl := pl) hp
  have z2 := rdZ_rg (sh := sh) (r := b) (pl := pl) hp
  have r := sD_rgv (s := s) (x := slZ p sh b pl) (show 0 ≤ v by omega) hp k5 (by omega)
  have n1 : sD s (slZ p sh b pl) ≠ -1 := fun q => h ((nn_105 r.1).mpr q)
  have n2 : rdZ p sh b pl ≠ -1 := by
    intro q
    apply n1
    have sp := spZ_rg (sh := sh) (r := b) (pl := pl) hp
    have e : spZ p sh b pl = -1 := by
      apply Classical.byContradiction
      intro q2
      unfold rdZ at q
      rw [if_neg q2] at q
      have := Int.ediv_nonneg (show 0 ≤ spZ p sh b pl by omega) (show 0 ≤ p by omega)
      omega
    unfold slZ
    rw [if_pos e, sD_neg]
  have e1 : nn (sD s (slZ p sh b pl)) = sD s (slZ p sh b pl) := if_neg n1
  have e2 : nn (rdZ p sh b pl) = rdZ p sh b pl := if_neg n2
  rw [e1, e2]
  have e3 : colI c (sD s (slZ p sh b pl)) (rdZ p sh b pl) = c (sD s (slZ p sh b pl) * 12 + rdZ p sh b pl).toNat := if_pos (by omega)
  have k9 := k6 (sD s (slZ p sh b pl) * 12 + rdZ p sh b pl).toNat (by omega)
  have e4 : nn (colI c (sD s (slZ p sh b pl)) (rdZ p sh b pl)) = colI c (sD s (slZ p sh b pl)) (rdZ p sh b pl) := if_neg (by omega)
  rw [e4]
  exact if_neg (by omega)
/-- sums over the ridges of an angle -/
theorem w_gi {a : Int} (ha : -9 ≤ a ∧ a ≤ 9) : sm 12 (fun r => o_seen (v, p, sh, ln, pr, gd, co, c, s) a (r : Int) 3) = o_at (v, p, sh, ln, pr, gd, co, c, s) a 0 := by
  rw [at_0 ha]
  exact sm_congr (fun r hr => seen_3 ha (by omega))
theorem w_nt (hp : 2 ≤ p ∧ p ≤ 6) (hv : 2 ≤ v ∧ v ≤ 4) (k5 : RS v p s) {a : Int} (ha : -9 ≤ a ∧ a ≤ 9) : sm 12 (fun r => bz (o_seen (v, p, sh, ln, pr, gd, co, c, s) a (r : Int) 0 = -105)) = o_at (v, p, sh, ln, pr, gd, co, c, s) a 4 := by
  rw [at_4 ha]
  refine sm_congr (fun r hr => bz_iff ?_)
  have z := stZ_rg (an := a) hp ha
  have q := vS_rgv (sh := sh) (ln := ln) hv hp k5 (stZ p a) (r : Int)
  rw [seen_0 ha (by omega), ← vS_at z.1 (by omega)]
  exact nn_105 q.1
theorem w_al (hp : 2 ≤ p ∧ p ≤ 6) (hv : 2 ≤ v ∧ v ≤ 4) (k5 : RS v p s) {a : Int} (ha : -9 ≤ a ∧ a ≤ 9) : sm 12 (fun r => bz (o_seen (v, p, sh, ln, pr, gd, co, c, s) a (r : Int) 0 = o_seen (v, p, sh, ln, pr, gd, co, c, s) a 0 0)) = rsF s (ssF p sh ln) (stZ p a) (vS s (ssF p sh ln) (stZ p a) 0) := by
  refine sm_congr (fun r hr => bz_iff ?_)
  have z := stZ_rg (an := a) hp ha
  have q := vS_rgv (sh := sh) (ln := ln) hv hp k5 (stZ p a) (r : Int)
  have q0 := vS_rgv (sh := sh) (ln := ln) hv hp k5 (stZ p a) 0
  rw [seen_0 ha (by omega), seen_0 ha (by omega), ← vS_at z.1 (by omega), ← vS_at z.1 (by omega)]
  exact nn_inj q.1 q0.1
/-- an angle's ghosts and whole view -/
theorem w_an (hp : 2 ≤ p ∧ p ≤ 6) (hv : 2 ≤ v ∧ v ≤ 4) (k5 : RS v p s) {a al : Int} (ha : -9 ≤ a ∧ a ≤ 9) (hal : al = sm 12 (fun r => bz (o_seen (v, p, sh, ln, pr, gd, co, c, s) a (r : Int) 0 = o_seen (v, p, sh, ln, pr, gd, co, c, s) a 0 0))) :
    (o_at (v, p, sh, ln, pr, gd, co, c, s) a 0 = 0 ↔ al = 12) ∧ o_at (v, p, sh, ln, pr, gd, co, c, s) a 0 ≠ 1 ∧ (¬ o_at (v, p, sh, ln, pr, gd, co, c, s) a 1 = -105 ↔ (al = 12 ∧ o_at (v, p, sh, ln, pr, gd, co, c, s) a 4 = 0)) := by
  rw [w_al hp hv k5 ha] at hal
  rw [at_0 ha, at_1 ha, at_4 ha, hal]
  have w := whF_rgv (sh := sh) (ln := ln) hv hp k5 (stZ p a)
  refine ⟨gh_al, gh_1, ?_⟩
  rw [nn_105 w.1]
  unfold whF
  by_cases q : rsF s (ssF p sh ln) (stZ p a) (vS s (ssF p sh ln) (stZ p a) 0) = 12
  · rw [if_pos q]
    have all := sm_all (f := fun r => bz (vS s (ssF p sh ln) (stZ p a) (r : Int) = vS s (ssF p sh ln) (stZ p a) 0)) (fun j _ => bz_rg.2) q
    have eq : ∀ r : Nat, r < 12 → vS s (ssF p sh ln) (stZ p a) (r : Int) = vS s (ssF p sh ln) (stZ p a) 0 := fun r hr => bz_nz (by show bz _ ≠ 0; rw [all r hr]; decide)
    constructor
    · intro n0
      exact ⟨q, sm_0 (fun r hr => bz_f (fun e => n0 ((eq r hr).symm.trans e)))⟩
    · rintro ⟨-, e⟩ n0
      rw [← n0, q] at e
      omega
  · rw [if_neg q]
    exact ⟨fun h => (h rfl).elim, fun h => (q h.1).elim⟩
/-- whole views as bits -/
def fB (V : CV) (n : Nat) (x : Int) : Int := bz (0 < sm n (fun i => bz (o_at V ((i : Int) - 9) 1 = x)))
def btB (V : CV) (n : Nat) : Int := fB V n 0 + 2 * fB V n 1 + 4 * fB V n 2 + 8 * fB V n 3
theorem fB_add (V : CV) {a : Int} (ha : 0 ≤ a + 9) (x : Int) : fB V (a + 1 + 9).toNat x = if o_at V a 1 = x then 1 else fB V (a + 9).toNat x := by
  have e : sm (a + 1 + 9).toNat (fun i => bz (o_at V ((i : Int) - 9) 1 = x)) = sm (a + 9).toNat (fun i => bz (o_at V ((i : Int) - 9) 1 = x)) + bz (o_at V a 1 = x) := by
    rw [show a + 1 + 9 = (a + 9) + 1 by omega, sm_step ha]
    try dsimp only
    rw [tn ha, show a + 9 - 9 = a by omega]
  have n0 : 0 ≤ sm (a + 9).toNat (fun i => bz (o_at V ((i : Int) - 9) 1 = x)) := sm_nn (fun j => bz_rg.1)
  unfold fB
  rw [e]
  by_cases q : o_at V a 1 = x
  · rw [if_pos q, bz_t q]
    exact bz_t (by omega)
  · rw [if_neg q, bz_f q]
    exact bz_iff (by omega)
theorem or_bt {a0 a1 a2 a3 x : Int} (h0 : a0 = 0 ∨ a0 = 1) (h1 : a1 = 0 ∨ a1 = 1) (h2 : a2 = 0 ∨ a2 = 1) (h3 : a3 = 0 ∨ a3 = 1) (hx : 0 ≤ x ∧ x ≤ 3) : orZ (a0 + 2 * a1 + 4 * a2 + 8 * a3) (shlZ 1 x) = (if x = 0 then 1 else a0) + 2 * (if x = 1 then 1 else a1) + 4 * (if x = 2 then 1 else a2) + 8 * (if x = 3 then 1 else a3) := by
  rcases (show x = 0 ∨ x = 1 ∨ x = 2 ∨ x = 3 by omega) with rfl | rfl | rfl | rfl <;> rcases h0 with rfl | rfl <;> rcases h1 with rfl | rfl <;> rcases h2 with rfl | rfl <;> rcases h3 with rfl | rfl <;> decide
theorem or_b0 {a0 a1 a2 a3 : Int} (h0 : a0 = 0 ∨ a0 = 1) (h1 : a1 = 0 ∨ a1 = 1) (h2 : a2 = 0 ∨ a2 = 1) (h3 : a3 = 0 ∨ a3 = 1) : orZ (a0 + 2 * a1 + 4 * a2 + 8 * a3) 0 = a0 + 2 * a1 + 4 * a2 + 8 * a3 ∧ andZ (a0 + 2 * a1 + 4 * a2 + 8 * a3) 1 + andZ (shrZ (a0 + 2 * a1 + 4 * a2 + 8 * a3) 1) 1 + andZ (shrZ (a0 + 2 * a1 + 4 * a2 + 8 * a3) 2) 1 + andZ (shrZ (a0 + 2 * a1 + 4 * a2 + 8 * a3) 3) 1 = a0 + a1 + a2 + a3 := by
  rcases h0 with rfl | rfl <;> rcases h1 with rfl | rfl <;> rcases h2 with rfl | rfl <;> rcases h3 with rfl | rfl <;> decide
theorem bt_or (V : CV) {a : Int} (ha : 0 ≤ a + 9) (hw : 0 ≤ o_at V a 1 ∧ o_at V a 1 ≤ 3) : orZ (btB V (a + 9).toNat) (shlZ 1 (o_at V a 1)) = btB V (a + 1 + 9).toNat := by
  unfold btB
  rw [fB_add V ha, fB_add V ha, fB_add V ha, fB_add V ha]
  exact or_bt bz_01 bz_01 bz_01 bz_01 hw
theorem bt_no (V : CV) {a : Int} (ha : 0 ≤ a + 9) (hw : o_at V a 1 = -105) : orZ (btB V (a + 9).toNat) 0 = btB V (a + 1 + 9).toNat := by
  unfold btB
  rw [fB_add V ha, fB_add V ha, fB_add V ha, fB_add V ha, if_neg (by omega), if_neg (by omega), if_neg (by omega), if_neg (by omega)]
  exact (or_b0 bz_01 bz_01 bz_01 bz_01).1
theorem fB_19 (hv : 2 ≤ v ∧ v ≤ 4) (hp : 2 ≤ p ∧ p ≤ 6) (k5 : RS v p s) {x : Int} (hx : 0 ≤ x) : fB (v, p, sh, ln, pr, gd, co, c, s) 19 x = bz (0 < asF p s (ssF p sh ln) (cnA p 19) x) := by
  unfold fB
  rw [asF_sm hp, sm_congr (g := fun i => bz (whF s (ssF p sh ln) (stZ p ((i : Int) - 9)) = x)) (fun i hi => bz_iff (by
    have w := whF_rgv (sh := sh) (ln := ln) hv hp k5 (stZ p ((i : Int) - 9))
    rw [at_1 (by omega)]
    unfold nn
    split <;> omega))]
theorem bt_views (hv : 2 ≤ v ∧ v ≤ 4) (hp : 2 ≤ p ∧ p ≤ 6) (k5 : RS v p s) : andZ (btB (v, p, sh, ln, pr, gd, co, c, s) 19) 1 + andZ (shrZ (btB (v, p, sh, ln, pr, gd, co, c, s) 19) 1) 1 + andZ (shrZ (btB (v, p, sh, ln, pr, gd, co, c, s) 19) 2) 1 + andZ (shrZ (btB (v, p, sh, ln, pr, gd, co, c, s) 19) 3) 1 = o_count (v, p, sh, ln, pr, gd, co, c, s) 0 0 6 := by
  have e := (or_b0 (a0 := fB (v, p, sh, ln, pr, gd, co, c, s) 19 0) (a1 := fB (v, p, sh, ln, pr, gd, co, c, s) 19 1) (a2 := fB (v, p, sh, ln, pr, gd, co, c, s) 19 2) (a3 := fB (v, p, sh, ln, pr, gd, co, c, s) 19 3) bz_01 bz_01 bz_01 bz_01).2
  unfold btB
  rw [e]
  have z : ∀ x : Int, v ≤ x → fB (v, p, sh, ln, pr, gd, co, c, s) 19 x = 0 := by
    intro x hx
    refine bz_f (fun q => ?_)
    have : sm 19 (fun i => bz (o_at (v, p, sh, ln, pr, gd, co, c, s) ((i : Int) - 9) 1 = x)) = 0 := sm_0 (fun i hi => bz_f (by
      have w := whF_rgv (sh := sh) (ln := ln) hv hp k5 (stZ p ((i : Int) - 9))
      rw [at_1 (by omega)]
      unfold nn
      split <;> omega))
    omega
  have e0 := fB_19 (sh := sh) (ln := ln) (pr := pr) (gd := gd) (co := co) (c := c) hv hp k5 (x := 0) (by omega)
  have e1 := fB_19 (sh := sh) (ln := ln) (pr := pr) (gd := gd) (co := co) (c := c) hv hp k5 (x := 1) (by omega)
  have e2 := fB_19 (sh := sh) (ln := ln) (pr := pr) (gd := gd) (co := co) (c := c) hv hp k5 (x := 2) (by omega)
  have e3 := fB_19 (sh := sh) (ln := ln) (pr := pr) (gd := gd) (co := co) (c := c) hv hp k5 (x := 3) (by omega)
  show _ = sm v.toNat (fun x => bz (0 < asF p s (ssF p sh ln) (cnA p 19) (x : Int)))
  rcases (show v = 2 ∨ v = 3 ∨ v = 4 by omega) with q | q | q
  · have z2 := z 2 (by omega)
    have z3 := z 3 (by omega)
    rw [z2, z3, e0, e1, show v.toNat = 2 by omega]
    show _ = 0 + bz (0 < asF p s (ssF p sh ln) (cnA p 19) 0) + bz (0 < asF p s (ssF p sh ln) (cnA p 19) 1)
    omega
  · have z3 := z 3 (by omega)
    rw [z3, e0, e1, e2, show v.toNat = 3 by omega]
    show _ = 0 + bz (0 < asF p s (ssF p sh ln) (cnA p 19) 0) + bz (0 < asF p s (ssF p sh ln) (cnA p 19) 1) + bz (0 < asF p s (ssF p sh ln) (cnA p 19) 2)
    omega
  · rw [e0, e1, e2, e3, show v.toNat = 4 by omega]
    show _ = 0 + bz (0 < asF p s (ssF p sh ln) (cnA p 19) 0) + bz (0 < asF p s (ssF p sh ln) (cnA p 19) 1) + bz (0 < asF p s (ssF p sh ln) (cnA p 19) 2) + bz (0 < asF p s (ssF p sh ln) (cnA p 19) 3)
    omega
theorem w_ghosts (hp : 2 ≤ p ∧ p ≤ 6) : sm 19 (fun i => o_at (v, p, sh, ln, pr, gd, co, c, s) ((i : Int) - 9) 0) = o_count (v, p, sh, ln, pr, gd, co, c, s) 0 0 4 := by
  show _ = GA p sh ln s
  have e := sm_cn hp (fun st => ghF s (ssF p sh ln) (st : Int)) 19 (by omega)
  unfold GA gaF
  rw [e]
  refine sm_congr (fun i hi => ?_)
  have z := stZ_rg (an := (i : Int) - 9) hp (by omega)
  try dsimp only
  rw [at_0 (by omega), tn z.1]
theorem w_wholes (hv : 2 ≤ v ∧ v ≤ 4) (hp : 2 ≤ p ∧ p ≤ 6) (k5 : RS v p s) : sm 19 (fun i => bz (¬ o_at (v, p, sh, ln, pr, gd, co, c, s) ((i : Int) - 9) 1 = -105)) = o_count (v, p, sh, ln, pr, gd, co, c, s) 0 0 5 := by
  show _ = 19 - asF p s (ssF p sh ln) (cnA p 19) (-1)
  rw [sm_not, asF_sm hp]
  have e : sm 19 (fun i => bz (o_at (v, p, sh, ln, pr, gd, co, c, s) ((i : Int) - 9) 1 = -105)) = sm 19 (fun i => bz (whF s (ssF p sh ln) (stZ p ((i : Int) - 9)) = -1)) := sm_congr (fun i hi => bz_iff (by
    have w := whF_rgv (sh := sh) (ln := ln) hv hp k5 (stZ p ((i : Int) - 9))
    rw [at_1 (by omega)]
    exact nn_105 w.1))
  rw [e]
  rfl
/-- what lies behind a ridge comes by the shift from the whole card -/
theorem w_in (hv : 2 ≤ v ∧ v ≤ 4) (hp : 2 ≤ p ∧ p ≤ 6) (k5 : RS v p s) {a b x : Int} (ha : 0 ≤ a ∧ a ≤ 11) (hb : 0 ≤ b ∧ b ≤ p - 1) (hx : x = a * p + b - sh) (h : 0 ≤ x ∧ x < 12 * p) : o_behind (v, p, sh, ln, pr, gd, co, c, s) a b 0 = o_viewOf (v, p, sh, ln, pr, gd, co, c, s) (x % p) ∧ o_behind (v, p, sh, ln, pr, gd, co, c, s) a b 2 = x / p ∧ (0 ≤ x % p ∧ x % p < p) ∧ (0 ≤ x / p ∧ x / p ≤ 11) ∧ (0 ≤ o_viewOf (v, p, sh, ln, pr, gd, co, c, s) (x % p) ∧ o_viewOf (v, p, sh, ln, pr, gd, co, c, s) (x % p) < v) := by
  have e : spZ p sh a b = x := by
    unfold spZ
    rw [if_pos (by omega)]
    exact hx.symm
  have m0 : 0 ≤ x % p ∧ x % p < p := ⟨Int.emod_nonneg _ (by omega), Int.emod_lt_of_pos _ (by omega)⟩
  have z2 := rdZ_rg (sh := sh) (r := a) (pl := b) hp
  have e2 : slZ p sh a b = x % p := by
    unfold slZ
    rw [e, if_neg (by omega)]
  have e3 : rdZ p sh a b = x / p := by
    unfold rdZ
    rw [e, if_neg (by omega)]
  have d0 := Int.ediv_nonneg h.1 (show 0 ≤ p by omega)
  have e4 : o_viewOf (v, p, sh, ln, pr, gd, co, c, s) (x % p) = sD s (x % p) := if_neg (by omega)
  have e5 : sD s (x % p) = s (x % p).toNat := if_pos (by omega)
  have r := k5 (x % p).toNat (by omega)
  have e6 : o_behind (v, p, sh, ln, pr, gd, co, c, s) a b 0 = nn (sD s (slZ p sh a b)) := (if_neg (by omega)).trans (if_pos rfl)
  rw [w_b2 hp ha hb, e6, e2, e3, e4, e5]
  exact ⟨if_neg (by omega), if_neg (by omega), m0, by omega, r⟩
theorem w_out (hp : 2 ≤ p ∧ p ≤ 6) {a b x : Int} (ha : 0 ≤ a ∧ a ≤ 11) (hb : 0 ≤ b ∧ b ≤ p - 1) (hx : x = a * p + b - sh) (h : ¬ (0 ≤ x ∧ x < 12 * p)) : o_behind (v, p, sh, ln, pr, gd, co, c, s) a b 0 = -105 ∧ o_behind (v, p, sh, ln, pr, gd, co, c, s) a b 2 = -105 := by
  have e : spZ p sh a b = -1 := by
    unfold spZ
    rw [if_neg (by omega)]
  have e2 : slZ p sh a b = -1 := by
    unfold slZ
    rw [if_pos e]
  have e3 : rdZ p sh a b = -1 := by
    unfold rdZ
    rw [if_pos e]
  have e6 : o_behind (v, p, sh, ln, pr, gd, co, c, s) a b 0 = nn (sD s (slZ p sh a b)) := (if_neg (by omega)).trans (if_pos rfl)
  rw [w_b2 hp ha hb, e6, e2, e3, sD_neg]
  exact ⟨rfl, rfl⟩
end WLL
