/-! the reference: its picture, and what it tells -/
abbrev mdO (hl tk tl sp rv rs oa : Int) : av_E := .inr (5, [.ref 34, .ref 35, .ref 36, .int (iN hl), .ref 37, .int (iN tk), .ref 38, .ref 39, .ref 40, .ref 41, .int (iN tl), .int (iN sp), .int (iN rv), .int (iN rs), .int (iN oa)])
def GR (g : Nat → Int) : Prop := (2 ≤ g 0 ∧ g 0 ≤ 4) ∧ (2 ≤ g 1 ∧ g 1 ≤ 6) ∧ (-3 ≤ g 2 ∧ g 2 ≤ 3) ∧ (0 ≤ g 3 ∧ g 3 ≤ 3)
def GS (g : Nat → Int) : Prop := ∀ j, j < 6 → 0 ≤ g (7 + j) ∧ g (7 + j) ≤ 3
theorem cz_lt {x y : Int} : cz x y < 0 ↔ x < y := by
  unfold cz
  split
  · omega
  · split <;> omega
theorem cz_gt {x y : Int} : 0 < cz x y ↔ y < x := by
  unfold cz
  split
  · omega
  · split <;> omega
theorem cz_rg (x y : Int) : -1 ≤ cz x y ∧ cz x y ≤ 1 := by
  unfold cz
  split
  · omega
  · split <;> omega
def RLg (z : Int) : Prop := -4611686018427387904 ≤ z ∧ z < 4611686018427387904
def duZ (p sh r pl : Int) : Int := if spZ p sh r pl = -1 then -105 else spZ p sh r pl
def slM (p sh ln an r : Int) : Int := if slZ p sh r (plZ p ln (stZ p an) r) = -1 then -105 else slZ p sh r (plZ p ln (stZ p an) r)
def loF (p sh ln : Int) : Nat → Int := fun j => slM p sh ln ((j : Int) / 12 - 9) ((j : Int) % 12)
theorem loF_at {p sh ln x y : Int} (hx : -9 ≤ x) (hy : 0 ≤ y ∧ y ≤ 11) : loF p sh ln (12 * (x + 9) + y).toNat = slM p sh ln x y := by
  unfold loF
  rw [tn (by omega), show (12 * (x + 9) + y) % 12 = y by omega, show (12 * (x + 9) + y) / 12 - 9 = x by omega]
/-- what a ridge shows -/
abbrev mS (g so : Nat → Int) (an r : Int) : Int := if so (12 * (an + 9) + r).toNat = -105 then -105 else g (7 + so (12 * (an + 9) + r).toNat).toNat
abbrev mgC (g so : Nat → Int) (an r : Int) : Prop := (0 < r ∧ mS g so an (r - 1) ≠ mS g so an r) ∨ (r < 11 ∧ mS g so an (r + 1) ≠ mS g so an r)
def mgA (g so : Nat → Int) (an : Int) : Int := sm 12 (fun r => bz (mgC g so an r))
def mgG (g so : Nat → Int) : Int := sm 19 (fun i => mgA g so ((i : Int) - 9))
def msH (g so : Nat → Int) (an x : Int) : Int := sm 12 (fun r => bz (mS g so an r = x))
def mwA (g so : Nat → Int) (x : Int) : Int := sm 19 (fun i => bz (msH g so ((i : Int) - 9) x = 12))
theorem mS_rg {g so : Nat → Int} (hs : GS g) (ho : ∀ j, j < 228 → so j = -105 ∨ (0 ≤ so j ∧ so j ≤ 5)) {an r : Int} (h : 0 ≤ 12 * (an + 9) + r ∧ 12 * (an + 9) + r < 228) : -105 ≤ mS g so an r ∧ mS g so an r ≤ 3 := by
  unfold mS
  split
  · omega
  · have h1 := ho (12 * (an + 9) + r).toNat (by omega)
    have h2 := hs (so (12 * (an + 9) + r).toNat).toNat (by omega)
    rw [show 7 + (so (12 * (an + 9) + r).toNat).toNat = (7 + so (12 * (an + 9) + r).toNat).toNat by omega] at h2
    omega
theorem mgA_rg (g so : Nat → Int) (an : Int) : 0 ≤ mgA g so an ∧ mgA g so an ≤ 12 := by
  have h := sm_rg (n := 12) (f := fun r => bz (mgC g so an (r : Int))) (L := 0) (H := 1) (fun j _ => bz_rg)
  unfold mgA
  omega
theorem mgG_rg (g so : Nat → Int) : 0 ≤ mgG g so ∧ mgG g so ≤ 228 := by
  have h := sm_rg (n := 19) (f := fun i => mgA g so ((i : Int) - 9)) (L := 0) (H := 12) (fun j _ => mgA_rg _ _ _)
  unfold mgG
  omega
theorem msH_rg (g so : Nat → Int) (an x : Int) : 0 ≤ msH g so an x ∧ msH g so an x ≤ 12 := by
  have h := sm_rg (n := 12) (f := fun r => bz (mS g so an (r : Int) = x)) (L := 0) (H := 1) (fun j _ => bz_rg)
  unfold msH
  omega
theorem mwA_rg (g so : Nat → Int) (x : Int) : 0 ≤ mwA g so x ∧ mwA g so x ≤ 19 := by
  have h := sm_rg (n := 19) (f := fun i => bz (msH g so ((i : Int) - 9) x = 12)) (L := 0) (H := 1) (fun j _ => bz_rg)
  unfold mwA
  omega
theorem slM_rg {p sh ln an r : Int} (hp : 2 ≤ p ∧ p ≤ 6) : slM p sh ln an r = -105 ∨ (0 ≤ slM p sh ln an r ∧ slM p sh ln an r ≤ 5) := by
  have := slZ_rg (sh := sh) (r := r) (pl := plZ p ln (stZ p an) r) hp
  unfold slM
  split <;> omega

set_option maxHeartbeats 4000000 in
theorem m_in (w : av_W) (x y z : Int) (hx : RLg x) (hy : RLg y) (hz : RLg z) : fn MX5_in [.long (lZ x), .long (lZ y), .long (lZ z)] w (some (.int (iN (bz (y ≤ x ∧ x ≤ z))))) w := by
  unfold RLg at *
  show rn MX5_in 0 [some (.long (lZ x)), none, some (.long (lZ y)), none, some (.long (lZ z)), none] [] w _
  refine r_lload_n (pc2 := 1) dX5_in_0 rfl rfl ?_
  refine r_lload_n (pc2 := 2) dX5_in_1 rfl rfl ?_
  refine r_lcmp (pc2 := 3) dX5_in_2 rfl (by omega) (by omega) ?_
  have hc1 := cz_rg x y
  refine r_if_lt (pc2 := 6) (tgt := 17) dX5_in_3 rfl (by decide) (by omega) (fun h3 => ?_) (fun h3 => ?_)
  · rw [cz_lt] at h3
    refine r_iconst (pc2 := 18) dX5_in_17 rfl ?_
    refine r_retb dX5_in_18 rfl (by first | exact Or.inl rfl | exact Or.inr rfl | exact bz_01) ?_
    exact ⟨by first | rw [bz_t (by omega)] | rw [bz_f (by omega)], rfl⟩
  · rw [cz_lt] at h3
    refine r_lload_n (pc2 := 7) dX5_in_6 rfl rfl ?_
    refine r_lload (pc2 := 9) dX5_in_7 rfl rfl ?_
    refine r_lcmp (pc2 := 10) dX5_in_9 rfl (by omega) (by omega) ?_
    have hc2 := cz_rg x z
    refine r_if_gt (pc2 := 13) (tgt := 17) dX5_in_10 rfl (by decide) (by omega) (fun h10 => ?_) (fun h10 => ?_)
    · rw [cz_gt] at h10
      refine r_iconst (pc2 := 18) dX5_in_17 rfl ?_
      refine r_retb dX5_in_18 rfl (by first | exact Or.inl rfl | exact Or.inr rfl | exact bz_01) ?_
      exact ⟨by first | rw [bz_t (by omega)] | rw [bz_f (by omega)], rfl⟩
    · rw [cz_gt] at h10
      refine r_iconst (pc2 := 14) dX5_in_13 rfl ?_
      refine r_goto (tgt := 18) dX5_in_14 (by decide) ?_
      refine r_retb dX5_in_18 rfl (by first | exact Or.inl rfl | exact Or.inr rfl | exact bz_01) ?_
      exact ⟨by first | rw [bz_t (by omega)] | rw [bz_f (by omega)], rfl⟩

set_option maxHeartbeats 4000000 in
theorem m_isView (w : av_W) (h42 : 42 ≤ w.1) (hl tk tl sp rv rs oa : Int) (hO : w.2.2 33 = mdO hl tk tl sp rv rs oa) (g : Nat → Int) (hA : w.2.2 34 = arO 61 g) (hGR : GR g) (x : Int) (hx : RG x) : fn MX5_isView [.ref 33, .int (iN x)] w (some (.int (iN (bz (0 ≤ x ∧ x ≤ g 0 - 1))))) w := by
  have k33 : 33 < w.1 := by omega
  have k34 : 34 < w.1 := by omega
  have k38 : 38 < w.1 := by omega
  obtain ⟨hv, hp, hsh, hln⟩ := id hGR
  try unfold RG at *
  try unfold RLg at *
  show rn MX5_isView 0 [some (.ref 33), some (.int (iN x))] [] w _
  refine r_iload_n (pc2 := 1) dX5_isView_0 rfl rfl ?_
  refine r_i2l (pc2 := 2) dX5_isView_1 rfl (by omega) ?_
  refine r_lconst (z := 0) (pc2 := 3) dX5_isView_2 rfl (by decide) ?_
  refine r_aload_n (pc2 := 4) dX5_isView_3 rfl rfl ?_
  refine r_getf (pc2 := 7) dX5_isView_4 rfl fl_5_7 (by assumption) (by assumption) (by rfl) ?_
  refine r_iconst (pc2 := 8) dX5_isView_7 rfl ?_
  refine r_ialk (k := 0) (pc2 := 9) dX5_isView_8 rfl (by decide) (by assumption) (by assumption) (by omega) (by omega) (by omega) (by decide) ?_
  refine r_i2l (pc2 := 10) dX5_isView_9 rfl (by omega) ?_
  refine r_lconst (z := 1) (pc2 := 11) dX5_isView_10 rfl (by decide) ?_
  refine r_lsub (pc2 := 12) dX5_isView_11 rfl ?_
  refine r_calls_3 (pc2 := 15) dX5_isView_12 rfl rs_5_41 rfl (by decide) rfl (Nat.le_of_ble_eq_true rfl) (Nat.le_of_ble_eq_true rfl) (m_in _ x 0 (g 0 - 1) (by unfold RLg; omega) (by unfold RLg; omega) (by unfold RLg; omega)) (fun r_ w_ h_ => ?_)
  rw [h_.1, h_.2]
  clear h_ w_ r_
  refine ⟨rfl, ?_⟩
  refine r_retb dX5_isView_15 rfl (by first | exact Or.inl rfl | exact Or.inr rfl | exact bz_01) ?_
  exact ⟨rfl, rfl⟩

set_option maxHeartbeats 4000000 in
theorem m_isSlice (w : av_W) (h42 : 42 ≤ w.1) (hl tk tl sp rv rs oa : Int) (hO : w.2.2 33 = mdO hl tk tl sp rv rs oa) (g : Nat → Int) (hA : w.2.2 34 = arO 61 g) (hGR : GR g) (x : Int) (hx : RG x) : fn MX5_isSlice [.ref 33, .int (iN x)] w (some (.int (iN (bz (0 ≤ x ∧ x ≤ g 1 - 1))))) w := by
  have k33 : 33 < w.1 := by omega
  have k34 : 34 < w.1 := by omega
  have k38 : 38 < w.1 := by omega
  obtain ⟨hv, hp, hsh, hln⟩ := id hGR
  try unfold RG at *
  try unfold RLg at *
  show rn MX5_isSlice 0 [some (.ref 33), some (.int (iN x))] [] w _
  refine r_iload_n (pc2 := 1) dX5_isSlice_0 rfl rfl ?_
  refine r_i2l (pc2 := 2) dX5_isSlice_1 rfl (by omega) ?_
  refine r_lconst (z := 0) (pc2 := 3) dX5_isSlice_2 rfl (by decide) ?_
  refine r_aload_n (pc2 := 4) dX5_isSlice_3 rfl rfl ?_
  refine r_getf (pc2 := 7) dX5_isSlice_4 rfl fl_5_7 (by assumption) (by assumption) (by rfl) ?_
  refine r_iconst (pc2 := 8) dX5_isSlice_7 rfl ?_
  refine r_ialk (k := 1) (pc2 := 9) dX5_isSlice_8 rfl (by decide) (by assumption) (by assumption) (by omega) (by omega) (by omega) (by decide) ?_
  refine r_i2l (pc2 := 10) dX5_isSlice_9 rfl (by omega) ?_
  refine r_lconst (z := 1) (pc2 := 11) dX5_isSlice_10 rfl (by decide) ?_
  refine r_lsub (pc2 := 12) dX5_isSlice_11 rfl ?_
  refine r_calls_3 (pc2 := 15) dX5_isSlice_12 rfl rs_5_41 rfl (by decide) rfl (Nat.le_of_ble_eq_true rfl) (Nat.le_of_ble_eq_true rfl) (m_in _ x 0 (g 1 - 1) (by unfold RLg; omega) (by unfold RLg; omega) (by unfold RLg; omega)) (fun r_ w_ h_ => ?_)
  rw [h_.1, h_.2]
  clear h_ w_ r_
  refine ⟨rfl, ?_⟩
  refine r_retb dX5_isSlice_15 rfl (by first | exact Or.inl rfl | exact Or.inr rfl | exact bz_01) ?_
  exact ⟨rfl, rfl⟩

set_option maxHeartbeats 4000000 in
theorem m_isRidge (w : av_W) (x : Int) (hx : RG x) : fn MX5_isRidge [.int (iN x)] w (some (.int (iN (bz (0 ≤ x ∧ x ≤ 11))))) w := by
  unfold RG at *
  show rn MX5_isRidge 0 [some (.int (iN x))] [] w _
  refine r_iload_n (pc2 := 1) dX5_isRidge_0 rfl rfl ?_
  refine r_i2l (pc2 := 2) dX5_isRidge_1 rfl (by omega) ?_
  refine r_lconst (z := 0) (pc2 := 3) dX5_isRidge_2 rfl (by decide) ?_
  refine r_ldl (pc2 := 6) dX5_isRidge_3 rfl kl_5_45 ?_
  refine r_calls_3 (pc2 := 9) dX5_isRidge_6 rfl rs_5_41 rfl (by decide) rfl (Nat.le_of_ble_eq_true rfl) (Nat.le_of_ble_eq_true rfl) (m_in _ x 0 11 (by unfold RLg; omega) (by unfold RLg; omega) (by unfold RLg; omega)) (fun r_ w_ h_ => ?_)
  rw [h_.1, h_.2]
  clear h_ w_ r_
  refine ⟨rfl, ?_⟩
  refine r_retb dX5_isRidge_9 rfl (by first | exact Or.inl rfl | exact Or.inr rfl | exact bz_01) ?_
  exact ⟨rfl, rfl⟩

set_option maxHeartbeats 4000000 in
theorem m_isAngle (w : av_W) (x : Int) (hx : RG x) : fn MX5_isAngle [.int (iN x)] w (some (.int (iN (bz (-9 ≤ x ∧ x ≤ 9))))) w := by
  unfold RG at *
  show rn MX5_isAngle 0 [some (.int (iN x))] [] w _
  refine r_iload_n (pc2 := 1) dX5_isAngle_0 rfl rfl ?_
  refine r_i2l (pc2 := 2) dX5_isAngle_1 rfl (by omega) ?_
  refine r_ldl (pc2 := 5) dX5_isAngle_2 rfl kl_5_47 ?_
  refine r_ldl (pc2 := 8) dX5_isAngle_5 rfl kl_5_49 ?_
  refine r_calls_3 (pc2 := 11) dX5_isAngle_8 rfl rs_5_41 rfl (by decide) rfl (Nat.le_of_ble_eq_true rfl) (Nat.le_of_ble_eq_true rfl) (m_in _ x (-9) 9 (by unfold RLg; omega) (by unfold RLg; omega) (by unfold RLg; omega)) (fun r_ w_ h_ => ?_)
  rw [h_.1, h_.2]
  clear h_ w_ r_
  refine ⟨rfl, ?_⟩
  refine r_retb dX5_isAngle_11 rfl (by first | exact Or.inl rfl | exact Or.inr rfl | exact bz_01) ?_
  exact ⟨rfl, rfl⟩

set_option maxHeartbeats 4000000 in
theorem m_colourAt (w : av_W) (h42 : 42 ≤ w.1) (hl tk tl sp rv rs oa : Int) (hO : w.2.2 33 = mdO hl tk tl sp rv rs oa) (g : Nat → Int) (hA : w.2.2 34 = arO 61 g) (hGR : GR g) (x y : Int) (hx : 0 ≤ x ∧ x ≤ 3) (hy : 0 ≤ y ∧ y ≤ 11) : fn MX5_colourAt [.ref 33, .int (iN x), .int (iN y)] w (some (.int (iN (g (13 + 12 * x + y).toNat)))) w := by
  have k33 : 33 < w.1 := by omega
  have k34 : 34 < w.1 := by omega
  have k38 : 38 < w.1 := by omega
  obtain ⟨hv, hp, hsh, hln⟩ := id hGR
  try unfold RG at *
  try unfold RLg at *
  show rn MX5_colourAt 0 [some (.ref 33), some (.int (iN x)), some (.int (iN y))] [] w _
  refine r_aload_n (pc2 := 1) dX5_colourAt_0 rfl rfl ?_
  refine r_getf (pc2 := 4) dX5_colourAt_1 rfl fl_5_7 (by assumption) (by assumption) (by rfl) ?_
  refine r_bipush (pc2 := 6) dX5_colourAt_4 rfl (by decide) ?_
  refine r_bipush (pc2 := 8) dX5_colourAt_6 rfl (by decide) ?_
  refine r_iload_n (pc2 := 9) dX5_colourAt_8 rfl rfl ?_
  refine r_imul (pc2 := 10) dX5_colourAt_9 rfl ?_
  refine r_iadd (pc2 := 11) dX5_colourAt_10 rfl ?_
  refine r_iload_n (pc2 := 12) dX5_colourAt_11 rfl rfl ?_
  refine r_iadd (pc2 := 13) dX5_colourAt_12 rfl ?_
  refine r_iald (pc2 := 14) dX5_colourAt_13 rfl (by decide) (by assumption) (by assumption) (by omega) (by omega) (by omega) ?_
  refine r_ret dX5_colourAt_14 rfl ?_
  exact ⟨rfl, rfl⟩

set_option maxHeartbeats 4000000 in
theorem m_dueAt (w : av_W) (h42 : 42 ≤ w.1) (hl tk tl sp rv rs oa : Int) (hO : w.2.2 33 = mdO hl tk tl sp rv rs oa) (g : Nat → Int) (hA : w.2.2 34 = arO 61 g) (hGR : GR g) (x y : Int) (hx : 0 ≤ x ∧ x ≤ 11) (hy : 0 ≤ y ∧ y ≤ 5) : fn MX5_dueAt [.ref 33, .int (iN x), .int (iN y)] w (some (.int (iN (duZ (g 1) (g 2) x y)))) w := by
  have k33 : 33 < w.1 := by omega
  have k34 : 34 < w.1 := by omega
  have k38 : 38 < w.1 := by omega
  obtain ⟨hv, hp, hsh, hln⟩ := id hGR
  try unfold RG at *
  try unfold RLg at *
  have hm := mulb hp hx
  have hsz : spZ (g 1) (g 2) x y = if 0 ≤ x * g 1 + y - g 2 ∧ x * g 1 + y - g 2 ≤ 12 * g 1 - 1 then x * g 1 + y - g 2 else -1 := rfl
  show rn MX5_dueAt 0 [some (.ref 33), some (.int (iN x)), some (.int (iN y)), none] [] w _
  refine r_iload_n (pc2 := 1) dX5_dueAt_0 rfl rfl ?_
  refine r_aload_n (pc2 := 2) dX5_dueAt_1 rfl rfl ?_
  refine r_getf (pc2 := 5) dX5_dueAt_2 rfl fl_5_7 (by assumption) (by assumption) (by rfl) ?_
  refine r_iconst (pc2 := 6) dX5_dueAt_5 rfl ?_
  refine r_ialk (k := 1) (pc2 := 7) dX5_dueAt_6 rfl (by decide) (by assumption) (by assumption) (by omega) (by omega) (by omega) (by decide) ?_
  refine r_imul (pc2 := 8) dX5_dueAt_7 rfl ?_
  refine r_iload_n (pc2 := 9) dX5_dueAt_8 rfl rfl ?_
  refine r_iadd (pc2 := 10) dX5_dueAt_9 rfl ?_
  refine r_aload_n (pc2 := 11) dX5_dueAt_10 rfl rfl ?_
  refine r_getf (pc2 := 14) dX5_dueAt_11 rfl fl_5_7 (by assumption) (by assumption) (by rfl) ?_
  refine r_iconst (pc2 := 15) dX5_dueAt_14 rfl ?_
  refine r_ialk (k := 2) (pc2 := 16) dX5_dueAt_15 rfl (by decide) (by assumption) (by assumption) (by omega) (by omega) (by omega) (by decide) ?_
  refine r_isub (pc2 := 17) dX5_dueAt_16 rfl ?_
  refine r_ist_3 (pc2 := 18) dX5_dueAt_17 rfl rfl ?_
  refine r_iload_n (pc2 := 19) dX5_dueAt_18 rfl rfl ?_
  refine r_i2l (pc2 := 20) dX5_dueAt_19 rfl (by omega) ?_
  refine r_lconst (z := 0) (pc2 := 21) dX5_dueAt_20 rfl (by decide) ?_
  refine r_ldl (pc2 := 24) dX5_dueAt_21 rfl kl_5_51 ?_
  refine r_aload_n (pc2 := 25) dX5_dueAt_24 rfl rfl ?_
  refine r_getf (pc2 := 28) dX5_dueAt_25 rfl fl_5_7 (by assumption) (by assumption) (by rfl) ?_
  refine r_iconst (pc2 := 29) dX5_dueAt_28 rfl ?_
  refine r_ialk (k := 1) (pc2 := 30) dX5_dueAt_29 rfl (by decide) (by assumption) (by assumption) (by omega) (by omega) (by omega) (by decide) ?_
  refine r_i2l (pc2 := 31) dX5_dueAt_30 rfl (by omega) ?_
  refine r_lmul (pc2 := 32) dX5_dueAt_31 rfl ?_
  refine r_lconst (z := 1) (pc2 := 33) dX5_dueAt_32 rfl (by decide) ?_
  refine r_lsub (pc2 := 34) dX5_dueAt_33 rfl ?_
  refine r_calls_3 (pc2 := 37) dX5_dueAt_34 rfl rs_5_41 rfl (by decide) rfl (Nat.le_of_ble_eq_true rfl) (Nat.le_of_ble_eq_true rfl) (m_in _ (x * g 1 + y - g 2) 0 (12 * g 1 - 1) (by unfold RLg; omega) (by unfold RLg; omega) (by unfold RLg; omega)) (fun r_ w_ h_ => ?_)
  rw [h_.1, h_.2]
  clear h_ w_ r_
  refine ⟨rfl, ?_⟩
  refine r_ifb_eq (pc2 := 40) (tgt := 44) dX5_dueAt_37 rfl (by decide)  (fun h37 => ?_) (fun h37 => ?_)
  · refine r_bipush (pc2 := 46) dX5_dueAt_44 rfl (by decide) ?_
    refine r_ret dX5_dueAt_46 rfl ?_
    exact ⟨by unfold duZ; first | (rw [hsz, if_pos (c := 0 ≤ x * g 1 + y - g 2 ∧ _) (by omega), if_neg (by omega)]) | (rw [hsz, if_neg (c := 0 ≤ x * g 1 + y - g 2 ∧ _) (by omega), if_pos rfl]), rfl⟩
  · refine r_iload_n (pc2 := 41) dX5_dueAt_40 rfl rfl ?_
    refine r_goto (tgt := 46) dX5_dueAt_41 (by decide) ?_
    refine r_ret dX5_dueAt_46 rfl ?_
    exact ⟨by unfold duZ; first | (rw [hsz, if_pos (c := 0 ≤ x * g 1 + y - g 2 ∧ _) (by omega), if_neg (by omega)]) | (rw [hsz, if_neg (c := 0 ≤ x * g 1 + y - g 2 ∧ _) (by omega), if_pos rfl]), rfl⟩

set_option maxHeartbeats 4000000 in
theorem m_placeSeen (w : av_W) (h42 : 42 ≤ w.1) (hl tk tl sp rv rs oa : Int) (hO : w.2.2 33 = mdO hl tk tl sp rv rs oa) (g : Nat → Int) (hA : w.2.2 34 = arO 61 g) (hGR : GR g) (x y : Int) (hx : -9 ≤ x ∧ x ≤ 9) (hy : 0 ≤ y ∧ y ≤ 11) : fn MX5_placeSeen [.ref 33, .int (iN x), .int (iN y)] w (some (.int (iN (plZ (g 1) (g 3) (stZ (g 1) x) y)))) w := by
  have k33 : 33 < w.1 := by omega
  have k34 : 34 < w.1 := by omega
  have k38 : 38 < w.1 := by omega
  obtain ⟨hv, hp, hsh, hln⟩ := id hGR
  try unfold RG at *
  try unfold RLg at *
  have hm := mulc hln hy
  have hm2 := tdb hm
  have hm3 := mula hp hx
  have hst : (g 1 * (x + 9)).tdiv 19 = stZ (g 1) x := by rw [Int.tdiv_eq_ediv_of_nonneg (by omega)]; rfl
  have hsr := stZ_rg hp hx
  show rn MX5_placeSeen 0 [some (.ref 33), some (.int (iN x)), some (.int (iN y)), none] [] w _
  refine r_aload_n (pc2 := 1) dX5_placeSeen_0 rfl rfl ?_
  refine r_getf (pc2 := 4) dX5_placeSeen_1 rfl fl_5_7 (by assumption) (by assumption) (by rfl) ?_
  refine r_iconst (pc2 := 5) dX5_placeSeen_4 rfl ?_
  refine r_ialk (k := 1) (pc2 := 6) dX5_placeSeen_5 rfl (by decide) (by assumption) (by assumption) (by omega) (by omega) (by omega) (by decide) ?_
  refine r_iload_n (pc2 := 7) dX5_placeSeen_6 rfl rfl ?_
  refine r_bipush (pc2 := 9) dX5_placeSeen_7 rfl (by decide) ?_
  refine r_iadd (pc2 := 10) dX5_placeSeen_9 rfl ?_
  refine r_imul (pc2 := 11) dX5_placeSeen_10 rfl ?_
  refine r_bipush (pc2 := 13) dX5_placeSeen_11 rfl (by decide) ?_
  refine r_idiv (pc2 := 14) dX5_placeSeen_13 rfl (by omega) (by omega) (by omega) (by omega) ?_
  rw [hst]
  refine r_aload_n (pc2 := 15) dX5_placeSeen_14 rfl rfl ?_
  refine r_getf (pc2 := 18) dX5_placeSeen_15 rfl fl_5_7 (by assumption) (by assumption) (by rfl) ?_
  refine r_iconst (pc2 := 19) dX5_placeSeen_18 rfl ?_
  refine r_ialk (k := 3) (pc2 := 20) dX5_placeSeen_19 rfl (by decide) (by assumption) (by assumption) (by omega) (by omega) (by omega) (by decide) ?_
  refine r_iload_n (pc2 := 21) dX5_placeSeen_20 rfl rfl ?_
  refine r_bipush (pc2 := 23) dX5_placeSeen_21 rfl (by decide) ?_
  refine r_isub (pc2 := 24) dX5_placeSeen_23 rfl ?_
  refine r_imul (pc2 := 25) dX5_placeSeen_24 rfl ?_
  refine r_iconst (pc2 := 26) dX5_placeSeen_25 rfl ?_
  refine r_idiv (pc2 := 27) dX5_placeSeen_26 rfl (by omega) (by omega) (by omega) (by omega) ?_
  refine r_iadd (pc2 := 28) dX5_placeSeen_27 rfl ?_
  refine r_ist_3 (pc2 := 29) dX5_placeSeen_28 rfl rfl ?_
  refine r_iload_n (pc2 := 30) dX5_placeSeen_29 rfl rfl ?_
  refine r_if_ge (pc2 := 33) (tgt := 37) dX5_placeSeen_30 rfl (by decide) (by omega) (fun h30 => ?_) (fun h30 => ?_)
  · refine r_iload_n (pc2 := 38) dX5_placeSeen_37 rfl rfl ?_
    refine r_aload_n (pc2 := 39) dX5_placeSeen_38 rfl rfl ?_
    refine r_getf (pc2 := 42) dX5_placeSeen_39 rfl fl_5_7 (by assumption) (by assumption) (by rfl) ?_
    refine r_iconst (pc2 := 43) dX5_placeSeen_42 rfl ?_
    refine r_ialk (k := 1) (pc2 := 44) dX5_placeSeen_43 rfl (by decide) (by assumption) (by assumption) (by omega) (by omega) (by omega) (by decide) ?_
    refine r_icmp_lt (pc2 := 47) (tgt := 58) dX5_placeSeen_44 rfl (by decide) (by omega) (by omega) (fun h44 => ?_) (fun h44 => ?_)
    · refine r_iload_n (pc2 := 59) dX5_placeSeen_58 rfl rfl ?_
      refine r_ret dX5_placeSeen_59 rfl ?_
      exact ⟨by unfold plZ; congr 3; omega, rfl⟩
    · refine r_aload_n (pc2 := 48) dX5_placeSeen_47 rfl rfl ?_
      refine r_getf (pc2 := 51) dX5_placeSeen_48 rfl fl_5_7 (by assumption) (by assumption) (by rfl) ?_
      refine r_iconst (pc2 := 52) dX5_placeSeen_51 rfl ?_
      refine r_ialk (k := 1) (pc2 := 53) dX5_placeSeen_52 rfl (by decide) (by assumption) (by assumption) (by omega) (by omega) (by omega) (by decide) ?_
      refine r_iconst (pc2 := 54) dX5_placeSeen_53 rfl ?_
      refine r_isub (pc2 := 55) dX5_placeSeen_54 rfl ?_
      refine r_goto (tgt := 59) dX5_placeSeen_55 (by decide) ?_
      refine r_ret dX5_placeSeen_59 rfl ?_
      exact ⟨by unfold plZ; congr 3; omega, rfl⟩
  · refine r_iconst (pc2 := 34) dX5_placeSeen_33 rfl ?_
    refine r_goto (tgt := 59) dX5_placeSeen_34 (by decide) ?_
    refine r_ret dX5_placeSeen_59 rfl ?_
    exact ⟨by unfold plZ; congr 3; omega, rfl⟩

set_option maxHeartbeats 4000000 in
theorem m_laysSlots (w : av_W) (h42 : 42 ≤ w.1) (hl tk tl sp rv rs oa : Int) (hO : w.2.2 33 = mdO hl tk tl sp rv rs oa) (g : Nat → Int) (hA : w.2.2 34 = arO 61 g) (hGR : GR g) (so : Nat → Int) (hS : w.2.2 38 = arO 228 so) : fn MX5_laysSlots [.ref 33] w none (wst w 38 (arO 228 (preF (228) (loF (g 1) (g 2) (g 3)) so))) := by
  have k33 : 33 < w.1 := by omega
  have k34 : 34 < w.1 := by omega
  have k38 : 38 < w.1 := by omega
  obtain ⟨hv, hp, hsh, hln⟩ := id hGR
  try unfold RG at *
  try unfold RLg at *
  show rn MX5_laysSlots 0 [some (.ref 33), none, none, none] [] w (fun r' w' => r' = none ∧ w' = (wst w 38 (arO 228 (preF (228) (loF (g 1) (g 2) (g 3)) so))))
  have loop : ∀ (n : Nat) (x : Int) (b2 b3 : Option Value), (-9 ≤ x ∧ x ≤ 10 ∧ 11 ≤ x + n) → rn MX5_laysSlots 3 [some (.ref 33), some (.int (iN x)), b2, b3] [] (wst w 38 (arO 228 (preF (12 * (x + 9)) (loF (g 1) (g 2) (g 3)) so))) (fun r' w' => r' = none ∧ w' = (wst w 38 (arO 228 (preF (228) (loF (g 1) (g 2) (g 3)) so)))) := by
    intro n
    induction n with
    | zero =>
      intro x b2 b3 hk0
      exfalso
      omega
    | succ n ih =>
      intro x b2 b3 hk0
      refine r_iload_n (pc2 := 4) dX5_laysSlots_3 rfl rfl ?_
      refine r_bipush (pc2 := 6) dX5_laysSlots_4 rfl (by decide) ?_
      refine r_icmp_gt (pc2 := 9) (tgt := 74) dX5_laysSlots_6 rfl (by decide) (by omega) (by omega) (fun h6 => ?_) (fun h6 => ?_)
      · have h6 : x = 10 := by omega
        subst h6
        refine r_retv dX5_laysSlots_74 rfl ?_
        have e19 : (12 : Int) * (10 + 9) = 228 := by decide
        exact ⟨rfl, by rw [e19]⟩
      · have inner : ∀ (n2 : Nat) (y : Int) (b3 : Option Value), (0 ≤ y ∧ y ≤ 12 ∧ 13 ≤ y + n2) → rn MX5_laysSlots 11 [some (.ref 33), some (.int (iN x)), some (.int (iN y)), b3] [] (wst w 38 (arO 228 (preF (12 * (x + 9) + y) (loF (g 1) (g 2) (g 3)) so))) (fun r' w' => r' = none ∧ w' = (wst w 38 (arO 228 (preF (228) (loF (g 1) (g 2) (g 3)) so)))) := by
          intro n2
          induction n2 with
          | zero =>
            intro y b3 hl20
            exfalso
            omega
          | succ n2 ih2 =>
            intro y b3 hl20
            have q42 : 42 ≤ ((wst w 38 (arO 228 (preF (12 * (x + 9) + y) (loF (g 1) (g 2) (g 3)) so)))).1 := h42
            have q33 : 33 < ((wst w 38 (arO 228 (preF (12 * (x + 9) + y) (loF (g 1) (g 2) (g 3)) so)))).1 := k33
            have qO : ((wst w 38 (arO 228 (preF (12 * (x + 9) + y) (loF (g 1) (g 2) (g 3)) so)))).2.2 33 = mdO hl tk tl sp rv rs oa := by rw [wst_ne (by decide)]; exact hO
            have q34 : 34 < ((wst w 38 (arO 228 (preF (12 * (x + 9) + y) (loF (g 1) (g 2) (g 3)) so)))).1 := k34
            have qA : ((wst w 38 (arO 228 (preF (12 * (x + 9) + y) (loF (g 1) (g 2) (g 3)) so)))).2.2 34 = arO 61 g := by rw [wst_ne (by decide)]; exact hA
            have q38 : 38 < ((wst w 38 (arO 228 (preF (12 * (x + 9) + y) (loF (g 1) (g 2) (g 3)) so)))).1 := k38
            have qS : ((wst w 38 (arO 228 (preF (12 * (x + 9) + y) (loF (g 1) (g 2) (g 3)) so)))).2.2 38 = arO 228 (preF (12 * (x + 9) + y) (loF (g 1) (g 2) (g 3)) so) := wst_self
            have hzr := spZ_rg (sh := g 2) (r := y) (pl := plZ (g 1) (g 3) (stZ (g 1) x) y) hp
            have hdz : duZ (g 1) (g 2) y (plZ (g 1) (g 3) (stZ (g 1) x) y) = if spZ (g 1) (g 2) y (plZ (g 1) (g 3) (stZ (g 1) x) y) = -1 then -105 else spZ (g 1) (g 2) y (plZ (g 1) (g 3) (stZ (g 1) x) y) := rfl
            have hdr : -105 ≤ duZ (g 1) (g 2) y (plZ (g 1) (g 3) (stZ (g 1) x) y) ∧ duZ (g 1) (g 2) y (plZ (g 1) (g 3) (stZ (g 1) x) y) ≤ 71 := by
              rw [hdz]
              split <;> omega
            refine r_iload_n (pc2 := 12) dX5_laysSlots_11 rfl rfl ?_
            refine r_bipush (pc2 := 14) dX5_laysSlots_12 rfl (by decide) ?_
            refine r_icmp_ge (pc2 := 17) (tgt := 68) dX5_laysSlots_14 rfl (by decide) (by omega) (by omega) (fun h14 => ?_) (fun h14 => ?_)
            · have h6 : y = 12 := by omega
              subst h6
              rw [show 12 * (x + 9) + 12 = 12 * (x + 1 + 9) by omega]
              refine r_iinc_1 (pc2 := 71) dX5_laysSlots_68 rfl rfl ?_
              refine r_goto (tgt := 3) dX5_laysSlots_71 (by decide) ?_
              exact ih (x + 1) _ _ (by omega)
            · refine r_aload_n (pc2 := 18) dX5_laysSlots_17 rfl rfl ?_
              refine r_iload_n (pc2 := 19) dX5_laysSlots_18 rfl rfl ?_
              refine r_aload_n (pc2 := 20) dX5_laysSlots_19 rfl rfl ?_
              refine r_iload_n (pc2 := 21) dX5_laysSlots_20 rfl rfl ?_
              refine r_iload_n (pc2 := 22) dX5_laysSlots_21 rfl rfl ?_
              refine r_callv_2 (pc2 := 25) dX5_laysSlots_22 rfl rs_5_53 rfl (by decide) rfl (Nat.le_of_ble_eq_true rfl) (Nat.le_of_ble_eq_true rfl) (by assumption) (by assumption) (m_placeSeen _ q42 hl tk tl sp rv rs oa qO g qA hGR x y (by omega) (by omega)) (fun r_ w_ h_ => ?_)
              rw [h_.1, h_.2]
              clear h_ w_ r_
              refine ⟨rfl, ?_⟩
              refine r_callv_2 (pc2 := 28) dX5_laysSlots_25 rfl rs_5_57 rfl (by decide) rfl (Nat.le_of_ble_eq_true rfl) (Nat.le_of_ble_eq_true rfl) (by assumption) (by assumption) (m_dueAt _ q42 hl tk tl sp rv rs oa qO g qA hGR y (plZ (g 1) (g 3) (stZ (g 1) x) y) (by omega) (by have := plZ_rg (ln := g 3) (st := stZ (g 1) x) (r := y) hp; omega)) (fun r_ w_ h_ => ?_)
              rw [h_.1, h_.2]
              clear h_ w_ r_
              refine ⟨rfl, ?_⟩
              refine r_ist_3 (pc2 := 29) dX5_laysSlots_28 rfl rfl ?_
              refine r_aload_n (pc2 := 30) dX5_laysSlots_29 rfl rfl ?_
              refine r_getf (pc2 := 33) dX5_laysSlots_30 rfl fl_5_22 (by assumption) (by assumption) (by rfl) ?_
              refine r_bipush (pc2 := 35) dX5_laysSlots_33 rfl (by decide) ?_
              refine r_iload_n (pc2 := 36) dX5_laysSlots_35 rfl rfl ?_
              refine r_bipush (pc2 := 38) dX5_laysSlots_36 rfl (by decide) ?_
              refine r_iadd (pc2 := 39) dX5_laysSlots_38 rfl ?_
              refine r_imul (pc2 := 40) dX5_laysSlots_39 rfl ?_
              refine r_iload_n (pc2 := 41) dX5_laysSlots_40 rfl rfl ?_
              refine r_iadd (pc2 := 42) dX5_laysSlots_41 rfl ?_
              refine r_iload_n (pc2 := 43) dX5_laysSlots_42 rfl rfl ?_
              refine r_bipush (pc2 := 45) dX5_laysSlots_43 rfl (by decide) ?_
              refine r_icmp_ne (pc2 := 48) (tgt := 53) dX5_laysSlots_45 rfl (by decide) (by omega) (by omega) (fun h45 => ?_) (fun h45 => ?_)
              · have h9 : spZ (g 1) (g 2) y (plZ (g 1) (g 3) (stZ (g 1) x) y) ≠ -1 := fun q => h45 (by rw [hdz, if_pos q])
                have hdz2 : duZ (g 1) (g 2) y (plZ (g 1) (g 3) (stZ (g 1) x) y) = spZ (g 1) (g 2) y (plZ (g 1) (g 3) (stZ (g 1) x) y) := by rw [hdz, if_neg h9]
                have hsl : slM (g 1) (g 2) (g 3) x y = (duZ (g 1) (g 2) y (plZ (g 1) (g 3) (stZ (g 1) x) y)).tmod (g 1) := by
                  rw [hdz2, Int.tmod_eq_emod_of_nonneg (by omega)]
                  have h7 := Int.emod_nonneg (spZ (g 1) (g 2) y (plZ (g 1) (g 3) (stZ (g 1) x) y)) (show g 1 ≠ 0 by omega)
                  unfold slM slZ
                  rw [if_neg h9, if_neg (by omega)]
                refine r_iload_n (pc2 := 54) dX5_laysSlots_53 rfl rfl ?_
                refine r_aload_n (pc2 := 55) dX5_laysSlots_54 rfl rfl ?_
                refine r_getf (pc2 := 58) dX5_laysSlots_55 rfl fl_5_7 (by assumption) (by assumption) (by rfl) ?_
                refine r_iconst (pc2 := 59) dX5_laysSlots_58 rfl ?_
                refine r_ialk (k := 1) (pc2 := 60) dX5_laysSlots_59 rfl (by decide) (by assumption) (by assumption) (by omega) (by omega) (by omega) (by decide) ?_
                refine r_irem (pc2 := 61) dX5_laysSlots_60 rfl (by omega) (by omega) (by omega) (by omega) ?_
                refine r_iast (pc2 := 62) dX5_laysSlots_61 rfl (by assumption) (by assumption) (by omega) (by omega) (by omega) ?_
                rw [wst_wst, ← hsl, ← loF_at (by omega) (by omega), preF_step (by omega), show 12 * (x + 9) + y + 1 = 12 * (x + 9) + (y + 1) by omega]
                refine r_iinc_2 (pc2 := 65) dX5_laysSlots_62 rfl rfl ?_
                refine r_goto (tgt := 11) dX5_laysSlots_65 (by decide) ?_
                exact ih2 (y + 1) _ (by omega)
              · have hsl : slM (g 1) (g 2) (g 3) x y = -105 := by
                  have h9 : spZ (g 1) (g 2) y (plZ (g 1) (g 3) (stZ (g 1) x) y) = -1 := by
                    by_cases h8 : spZ (g 1) (g 2) y (plZ (g 1) (g 3) (stZ (g 1) x) y) = -1
                    · exact h8
                    · rw [hdz, if_neg h8] at h45; omega
                  unfold slM slZ
                  rw [if_pos h9]
                  rfl
                refine r_bipush (pc2 := 50) dX5_laysSlots_48 rfl (by decide) ?_
                refine r_goto (tgt := 61) dX5_laysSlots_50 (by decide) ?_
                refine r_iast (pc2 := 62) dX5_laysSlots_61 rfl (by assumption) (by assumption) (by omega) (by omega) (by omega) ?_
                rw [wst_wst, ← hsl, ← loF_at (by omega) (by omega), preF_step (by omega), show 12 * (x + 9) + y + 1 = 12 * (x + 9) + (y + 1) by omega]
                refine r_iinc_2 (pc2 := 65) dX5_laysSlots_62 rfl rfl ?_
                refine r_goto (tgt := 11) dX5_laysSlots_65 (by decide) ?_
                exact ih2 (y + 1) _ (by omega)
        refine r_iconst (pc2 := 10) dX5_laysSlots_9 rfl ?_
        refine r_ist_2 (pc2 := 11) dX5_laysSlots_10 rfl rfl ?_
        have := inner 13 0 b3 (by omega)
        rw [Int.add_zero] at this
        exact this
  refine r_bipush (pc2 := 2) dX5_laysSlots_0 rfl (by decide) ?_
  refine r_ist_1 (pc2 := 3) dX5_laysSlots_2 rfl rfl ?_
  have := loop 20 (-9) none none (by omega)
  rw [show (12 : Int) * (-9 + 9) = 0 by decide, preF_0, wst_id hS] at this
  exact this
