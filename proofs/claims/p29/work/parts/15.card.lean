/-! the class's Card: its picture, and its reading methods -/
abbrev cdO (ca sa : Nat) (v p sh ln pr gd co : Int) : av_E := .inr (0, [.int (iN v), .ref ca, .int (iN p), .ref sa, .int (iN sh), .int (iN ln), .int (iN pr), .int (iN gd), .int (iN co)])
def Cd (w : av_W) (a ca sa : Nat) (v p sh ln pr gd co : Int) (c s : Nat → Int) : Prop := (a < w.1 ∧ w.2.2 a = cdO ca sa v p sh ln pr gd co) ∧ (ca < w.1 ∧ w.2.2 ca = arO 48 c) ∧ (sa < w.1 ∧ w.2.2 sa = arO 6 s) ∧ (a ≠ ca ∧ a ≠ sa ∧ ca ≠ sa)
def KR (v p sh ln : Int) : Prop := (2 ≤ v ∧ v ≤ 4) ∧ (2 ≤ p ∧ p ≤ 6) ∧ (-3 ≤ sh ∧ sh ≤ 3) ∧ (0 ≤ ln ∧ ln ≤ 3)
def colI (c : Nat → Int) (view column : Int) : Int := if (0 ≤ view ∧ view ≤ 3) ∧ (0 ≤ column ∧ column ≤ 11) then c (view * 12 + column).toNat else -1
def sD (s : Nat → Int) (slice : Int) : Int := if 0 ≤ slice ∧ slice < 6 then s slice.toNat else -1
def spZ (p sh r pl : Int) : Int := if 0 ≤ r * p + pl - sh ∧ r * p + pl - sh ≤ 12 * p - 1 then r * p + pl - sh else -1
def slZ (p sh r pl : Int) : Int := if spZ p sh r pl = -1 then -1 else spZ p sh r pl % p
def rdZ (p sh r pl : Int) : Int := if spZ p sh r pl = -1 then -1 else spZ p sh r pl / p
def stZ (p an : Int) : Int := p * (an + 9) / 19
def plZ (p ln st r : Int) : Int := max 0 (min (st + (ln * (r - 6)).tdiv 4) (p - 1))
theorem mulb {p r : Int} (hp : 2 ≤ p ∧ p ≤ 6) (hr : 0 ≤ r ∧ r ≤ 11) : 0 ≤ r * p ∧ r * p ≤ 66 := by
  rcases (show p = 2 ∨ p = 3 ∨ p = 4 ∨ p = 5 ∨ p = 6 by omega) with h | h | h | h | h <;> subst h <;> omega
theorem mulc {ln r : Int} (hl : 0 ≤ ln ∧ ln ≤ 3) (hr : 0 ≤ r ∧ r ≤ 11) : -18 ≤ ln * (r - 6) ∧ ln * (r - 6) ≤ 15 := by
  rcases (show ln = 0 ∨ ln = 1 ∨ ln = 2 ∨ ln = 3 by omega) with h | h | h | h <;> subst h <;> omega
theorem mula {p an : Int} (hp : 2 ≤ p ∧ p ≤ 6) (ha : -9 ≤ an ∧ an ≤ 9) : 0 ≤ p * (an + 9) ∧ p * (an + 9) < 19 * p := by
  rcases (show p = 2 ∨ p = 3 ∨ p = 4 ∨ p = 5 ∨ p = 6 by omega) with h | h | h | h | h <;> subst h <;> omega
theorem tdb {x : Int} (h : -18 ≤ x ∧ x ≤ 15) : -18 ≤ x.tdiv 4 ∧ x.tdiv 4 ≤ 15 := by
  by_cases h0 : 0 ≤ x
  · rw [Int.tdiv_eq_ediv_of_nonneg h0]
    omega
  · have h1 : x.tdiv 4 = -((-x).tdiv 4) := by rw [Int.neg_tdiv, Int.neg_neg]
    rw [h1, Int.tdiv_eq_ediv_of_nonneg (by omega)]
    omega
theorem spZ_rg {p sh r pl : Int} (hp : 2 ≤ p ∧ p ≤ 6) : -1 ≤ spZ p sh r pl ∧ spZ p sh r pl ≤ 12 * p - 1 := by
  unfold spZ
  split <;> omega
theorem slZ_rg {p sh r pl : Int} (hp : 2 ≤ p ∧ p ≤ 6) : -1 ≤ slZ p sh r pl ∧ slZ p sh r pl ≤ p - 1 := by
  have h := spZ_rg (sh := sh) (r := r) (pl := pl) hp
  unfold slZ
  split
  · omega
  · have h1 := Int.emod_nonneg (spZ p sh r pl) (show p ≠ 0 by omega)
    have h2 := Int.emod_lt_of_pos (spZ p sh r pl) (show 0 < p by omega)
    omega
theorem rdZ_rg {p sh r pl : Int} (hp : 2 ≤ p ∧ p ≤ 6) : -1 ≤ rdZ p sh r pl ∧ rdZ p sh r pl ≤ 11 := by
  have h := spZ_rg (sh := sh) (r := r) (pl := pl) hp
  unfold rdZ
  split
  · omega
  · have h1 := Int.ediv_nonneg (show 0 ≤ spZ p sh r pl by omega) (show 0 ≤ p by omega)
    have h2 : spZ p sh r pl / p < 12 := Int.ediv_lt_of_lt_mul (by omega) (by omega)
    omega
theorem stZ_rg {p an : Int} (hp : 2 ≤ p ∧ p ≤ 6) (ha : -9 ≤ an ∧ an ≤ 9) : 0 ≤ stZ p an ∧ stZ p an ≤ p - 1 := by
  have h := mula hp ha
  unfold stZ
  omega
theorem plZ_rg {p ln st r : Int} (hp : 2 ≤ p ∧ p ≤ 6) : 0 ≤ plZ p ln st r ∧ plZ p ln st r ≤ p - 1 := by
  unfold plZ
  omega
theorem sD_rg {s : Nat → Int} {L H : Int} (hs : ∀ j, j < 6 → L ≤ s j ∧ s j ≤ H) (hL : L ≤ -1) (hH : -1 ≤ H) (x : Int) : L ≤ sD s x ∧ sD s x ≤ H := by
  unfold sD
  split
  · have := hs x.toNat (by omega)
    omega
  · omega
def preF (k : Int) (f g : Nat → Int) : Nat → Int := fun j => if (j : Int) < k then f j else g j
theorem preF_0 (f g : Nat → Int) : preF 0 f g = g := by
  funext j
  exact if_neg (by omega)
theorem preF_step {k : Int} (hk : 0 ≤ k) (f g : Nat → Int) : updZ (preF k f g) k.toNat (f k.toNat) = preF (k + 1) f g := by
  funext j
  unfold updZ preF
  by_cases h : j = k.toNat
  · subst h
    rw [if_pos rfl, if_pos (by omega)]
  · rw [if_neg h]
    by_cases h2 : (j : Int) < k
    · rw [if_pos h2, if_pos (by omega)]
    · rw [if_neg h2, if_neg (by omega)]
theorem preF_lt {k : Int} {f g : Nat → Int} {j : Nat} (h : (j : Int) < k) : preF k f g j = f j := if_pos h
theorem preF_ge {k : Int} {f g : Nat → Int} {j : Nat} (h : ¬ (j : Int) < k) : preF k f g j = g j := if_neg h

set_option maxHeartbeats 4000000 in
theorem c_hasView (w : av_W) (a ca sa : Nat) (v p sh ln pr gd co : Int) (c s : Nat → Int) (hC : Cd w a ca sa v p sh ln pr gd co c s) (hK : KR v p sh ln) (x : Int) (hx : RG x) : fn MX0_hasView [.ref a, .int (iN x)] w (some (.int (iN (bz (0 ≤ x ∧ x ≤ v - 1))))) w := by
  obtain ⟨⟨ha, hw⟩, ⟨hca, hcw⟩, ⟨hsa, hsw⟩, hne1, hne2, hne3⟩ := id hC
  obtain ⟨hv, hp, hsh, hln⟩ := id hK
  try unfold RG at *
  show rn MX0_hasView 0 [some (.ref a), some (.int (iN x))] [] w _
  refine r_iload_n (pc2 := 1) dX0_hasView_0 rfl rfl ?_
  refine r_iconst (pc2 := 2) dX0_hasView_1 rfl ?_
  refine r_aload_n (pc2 := 3) dX0_hasView_2 rfl rfl ?_
  refine r_getf (pc2 := 6) dX0_hasView_3 rfl fl_0_9 (by assumption) (by assumption) (by rfl) ?_
  refine r_iconst (pc2 := 7) dX0_hasView_6 rfl ?_
  refine r_isub (pc2 := 8) dX0_hasView_7 rfl ?_
  refine r_calls_3 (pc2 := 11) dX0_hasView_8 rfl rs_0_47 rfl (by decide) rfl (Nat.le_of_ble_eq_true rfl) (Nat.le_of_ble_eq_true rfl) (c_isWithin _ x 0 (v - 1) (by unfold RG; omega) (by unfold RG; omega) (by unfold RG; omega)) (fun r_ w_ h_ => ?_)
  rw [h_.1, h_.2]
  clear h_ w_ r_
  refine ⟨rfl, ?_⟩
  refine r_retb dX0_hasView_11 rfl (by first | exact Or.inl rfl | exact Or.inr rfl | exact bz_01) ?_
  exact ⟨rfl, rfl⟩

set_option maxHeartbeats 4000000 in
theorem c_hasSlice (w : av_W) (a ca sa : Nat) (v p sh ln pr gd co : Int) (c s : Nat → Int) (hC : Cd w a ca sa v p sh ln pr gd co c s) (hK : KR v p sh ln) (x : Int) (hx : RG x) : fn MX0_hasSlice [.ref a, .int (iN x)] w (some (.int (iN (bz (0 ≤ x ∧ x ≤ p - 1))))) w := by
  obtain ⟨⟨ha, hw⟩, ⟨hca, hcw⟩, ⟨hsa, hsw⟩, hne1, hne2, hne3⟩ := id hC
  obtain ⟨hv, hp, hsh, hln⟩ := id hK
  try unfold RG at *
  show rn MX0_hasSlice 0 [some (.ref a), some (.int (iN x))] [] w _
  refine r_iload_n (pc2 := 1) dX0_hasSlice_0 rfl rfl ?_
  refine r_iconst (pc2 := 2) dX0_hasSlice_1 rfl ?_
  refine r_aload_n (pc2 := 3) dX0_hasSlice_2 rfl rfl ?_
  refine r_getf (pc2 := 6) dX0_hasSlice_3 rfl fl_0_19 (by assumption) (by assumption) (by rfl) ?_
  refine r_iconst (pc2 := 7) dX0_hasSlice_6 rfl ?_
  refine r_isub (pc2 := 8) dX0_hasSlice_7 rfl ?_
  refine r_calls_3 (pc2 := 11) dX0_hasSlice_8 rfl rs_0_47 rfl (by decide) rfl (Nat.le_of_ble_eq_true rfl) (Nat.le_of_ble_eq_true rfl) (c_isWithin _ x 0 (p - 1) (by unfold RG; omega) (by unfold RG; omega) (by unfold RG; omega)) (fun r_ w_ h_ => ?_)
  rw [h_.1, h_.2]
  clear h_ w_ r_
  refine ⟨rfl, ?_⟩
  refine r_retb dX0_hasSlice_11 rfl (by first | exact Or.inl rfl | exact Or.inr rfl | exact bz_01) ?_
  exact ⟨rfl, rfl⟩

set_option maxHeartbeats 4000000 in
theorem c_colourIn (w : av_W) (a ca sa : Nat) (v p sh ln pr gd co : Int) (c s : Nat → Int) (hC : Cd w a ca sa v p sh ln pr gd co c s) (hK : KR v p sh ln) (x y : Int) (hx : RG x) (hy : RG y) : fn MX0_colourIn [.ref a, .int (iN x), .int (iN y)] w (some (.int (iN (colI c x y)))) w := by
  obtain ⟨⟨ha, hw⟩, ⟨hca, hcw⟩, ⟨hsa, hsw⟩, hne1, hne2, hne3⟩ := id hC
  obtain ⟨hv, hp, hsh, hln⟩ := id hK
  try unfold RG at *
  unfold colI
  show rn MX0_colourIn 0 [some (.ref a), some (.int (iN x)), some (.int (iN y))] [] w _
  refine r_iload_n (pc2 := 1) dX0_colourIn_0 rfl rfl ?_
  refine r_iconst (pc2 := 2) dX0_colourIn_1 rfl ?_
  refine r_iconst (pc2 := 3) dX0_colourIn_2 rfl ?_
  refine r_calls_3 (pc2 := 6) dX0_colourIn_3 rfl rs_0_47 rfl (by decide) rfl (Nat.le_of_ble_eq_true rfl) (Nat.le_of_ble_eq_true rfl) (c_isWithin _ x 0 3 (by unfold RG; omega) (by unfold RG; omega) (by unfold RG; omega)) (fun r_ w_ h_ => ?_)
  rw [h_.1, h_.2]
  clear h_ w_ r_
  refine ⟨rfl, ?_⟩
  refine r_ifb_eq (pc2 := 9) (tgt := 16) dX0_colourIn_6 rfl (by decide)  (fun h6 => ?_) (fun h6 => ?_)
  · refine r_iconst (pc2 := 17) dX0_colourIn_16 rfl ?_
    refine r_ret dX0_colourIn_17 rfl ?_
    exact ⟨by first | rw [if_pos (by omega)] | rw [if_neg (by omega)], rfl⟩
  · refine r_iload_n (pc2 := 10) dX0_colourIn_9 rfl rfl ?_
    refine r_calls_1 (pc2 := 13) dX0_colourIn_10 rfl rs_0_51 rfl (by decide) rfl (Nat.le_of_ble_eq_true rfl) (Nat.le_of_ble_eq_true rfl) (c_isRidge _ y (by unfold RG; omega)) (fun r_ w_ h_ => ?_)
    rw [h_.1, h_.2]
    clear h_ w_ r_
    refine ⟨rfl, ?_⟩
    refine r_ifb_ne (pc2 := 16) (tgt := 18) dX0_colourIn_13 rfl (by decide)  (fun h13 => ?_) (fun h13 => ?_)
    · refine r_aload_n (pc2 := 19) dX0_colourIn_18 rfl rfl ?_
      refine r_getf (pc2 := 22) dX0_colourIn_19 rfl fl_0_15 (by assumption) (by assumption) (by rfl) ?_
      refine r_iload_n (pc2 := 23) dX0_colourIn_22 rfl rfl ?_
      refine r_bipush (pc2 := 25) dX0_colourIn_23 rfl (by decide) ?_
      refine r_imul (pc2 := 26) dX0_colourIn_25 rfl ?_
      refine r_iload_n (pc2 := 27) dX0_colourIn_26 rfl rfl ?_
      refine r_iadd (pc2 := 28) dX0_colourIn_27 rfl ?_
      refine r_iald (pc2 := 29) dX0_colourIn_28 rfl (by decide) (by assumption) (by assumption) (by omega) (by omega) (by omega) ?_
      refine r_ret dX0_colourIn_29 rfl ?_
      exact ⟨by first | rw [if_pos (by omega)] | rw [if_neg (by omega)], rfl⟩
    · refine r_iconst (pc2 := 17) dX0_colourIn_16 rfl ?_
      refine r_ret dX0_colourIn_17 rfl ?_
      exact ⟨by first | rw [if_pos (by omega)] | rw [if_neg (by omega)], rfl⟩

set_option maxHeartbeats 4000000 in
theorem c_paint (w : av_W) (a ca sa : Nat) (v p sh ln pr gd co : Int) (c s : Nat → Int) (hC : Cd w a ca sa v p sh ln pr gd co c s) (hK : KR v p sh ln) (x y z : Int) (hx : 0 ≤ x ∧ x ≤ 3) (hy : 0 ≤ y ∧ y ≤ 11) : fn MX0_paint [.ref a, .int (iN x), .int (iN y), .int (iN z)] w none (wst w ca (arO 48 (updZ c (x * 12 + y).toNat z))) := by
  obtain ⟨⟨ha, hw⟩, ⟨hca, hcw⟩, ⟨hsa, hsw⟩, hne1, hne2, hne3⟩ := id hC
  obtain ⟨hv, hp, hsh, hln⟩ := id hK
  try unfold RG at *
  show rn MX0_paint 0 [some (.ref a), some (.int (iN x)), some (.int (iN y)), some (.int (iN z))] [] w _
  refine r_iload_n (pc2 := 1) dX0_paint_0 rfl rfl ?_
  refine r_iconst (pc2 := 2) dX0_paint_1 rfl ?_
  refine r_iconst (pc2 := 3) dX0_paint_2 rfl ?_
  refine r_calls_3 (pc2 := 6) dX0_paint_3 rfl rs_0_47 rfl (by decide) rfl (Nat.le_of_ble_eq_true rfl) (Nat.le_of_ble_eq_true rfl) (c_isWithin _ x 0 3 (by unfold RG; omega) (by unfold RG; omega) (by unfold RG; omega)) (fun r_ w_ h_ => ?_)
  rw [h_.1, h_.2]
  clear h_ w_ r_
  refine ⟨rfl, ?_⟩
  refine r_ifb_eq (pc2 := 9) (tgt := 28) dX0_paint_6 rfl (by decide)  (fun h6 => ?_) (fun h6 => ?_)
  · refine r_retv dX0_paint_28 rfl ?_
    first | exact ⟨rfl, rfl⟩ | (exfalso; omega)
  · refine r_iload_n (pc2 := 10) dX0_paint_9 rfl rfl ?_
    refine r_calls_1 (pc2 := 13) dX0_paint_10 rfl rs_0_51 rfl (by decide) rfl (Nat.le_of_ble_eq_true rfl) (Nat.le_of_ble_eq_true rfl) (c_isRidge _ y (by unfold RG; omega)) (fun r_ w_ h_ => ?_)
    rw [h_.1, h_.2]
    clear h_ w_ r_
    refine ⟨rfl, ?_⟩
    refine r_ifb_eq (pc2 := 16) (tgt := 28) dX0_paint_13 rfl (by decide)  (fun h13 => ?_) (fun h13 => ?_)
    · refine r_retv dX0_paint_28 rfl ?_
      first | exact ⟨rfl, rfl⟩ | (exfalso; omega)
    · refine r_aload_n (pc2 := 17) dX0_paint_16 rfl rfl ?_
      refine r_getf (pc2 := 20) dX0_paint_17 rfl fl_0_15 (by assumption) (by assumption) (by rfl) ?_
      refine r_iload_n (pc2 := 21) dX0_paint_20 rfl rfl ?_
      refine r_bipush (pc2 := 23) dX0_paint_21 rfl (by decide) ?_
      refine r_imul (pc2 := 24) dX0_paint_23 rfl ?_
      refine r_iload_n (pc2 := 25) dX0_paint_24 rfl rfl ?_
      refine r_iadd (pc2 := 26) dX0_paint_25 rfl ?_
      refine r_iload_n (pc2 := 27) dX0_paint_26 rfl rfl ?_
      refine r_iast (pc2 := 28) dX0_paint_27 rfl (by assumption) (by assumption) (by omega) (by omega) (by omega) ?_
      refine r_retv dX0_paint_28 rfl ?_
      first | exact ⟨rfl, rfl⟩ | (exfalso; omega)

set_option maxHeartbeats 4000000 in
theorem c_viewDue (w : av_W) (a ca sa : Nat) (v p sh ln pr gd co : Int) (c s : Nat → Int) (hC : Cd w a ca sa v p sh ln pr gd co c s) (hK : KR v p sh ln) (x : Int) (hx : RG x) : fn MX0_viewDue [.ref a, .int (iN x)] w (some (.int (iN (sD s x)))) w := by
  obtain ⟨⟨ha, hw⟩, ⟨hca, hcw⟩, ⟨hsa, hsw⟩, hne1, hne2, hne3⟩ := id hC
  obtain ⟨hv, hp, hsh, hln⟩ := id hK
  try unfold RG at *
  unfold sD
  show rn MX0_viewDue 0 [some (.ref a), some (.int (iN x))] [] w _
  refine r_iload_n (pc2 := 1) dX0_viewDue_0 rfl rfl ?_
  refine r_if_lt (pc2 := 4) (tgt := 10) dX0_viewDue_1 rfl (by decide) (by omega) (fun h1 => ?_) (fun h1 => ?_)
  · refine r_iconst (pc2 := 11) dX0_viewDue_10 rfl ?_
    refine r_ret dX0_viewDue_11 rfl ?_
    exact ⟨by first | rw [if_pos (by omega)] | rw [if_neg (by omega)], rfl⟩
  · refine r_iload_n (pc2 := 5) dX0_viewDue_4 rfl rfl ?_
    refine r_bipush (pc2 := 7) dX0_viewDue_5 rfl (by decide) ?_
    refine r_icmp_lt (pc2 := 10) (tgt := 12) dX0_viewDue_7 rfl (by decide) (by omega) (by omega) (fun h7 => ?_) (fun h7 => ?_)
    · refine r_aload_n (pc2 := 13) dX0_viewDue_12 rfl rfl ?_
      refine r_getf (pc2 := 16) dX0_viewDue_13 rfl fl_0_22 (by assumption) (by assumption) (by rfl) ?_
      refine r_iload_n (pc2 := 17) dX0_viewDue_16 rfl rfl ?_
      refine r_iald (pc2 := 18) dX0_viewDue_17 rfl (by decide) (by assumption) (by assumption) (by omega) (by omega) (by omega) ?_
      refine r_ret dX0_viewDue_18 rfl ?_
      exact ⟨by first | rw [if_pos (by omega)] | rw [if_neg (by omega)], rfl⟩
    · refine r_iconst (pc2 := 11) dX0_viewDue_10 rfl ?_
      refine r_ret dX0_viewDue_11 rfl ?_
      exact ⟨by first | rw [if_pos (by omega)] | rw [if_neg (by omega)], rfl⟩

set_option maxHeartbeats 4000000 in
theorem c_putSlice (w : av_W) (a ca sa : Nat) (v p sh ln pr gd co : Int) (c s : Nat → Int) (hC : Cd w a ca sa v p sh ln pr gd co c s) (hK : KR v p sh ln) (x z : Int) (hx : 0 ≤ x ∧ x ≤ 5) : fn MX0_putSlice [.ref a, .int (iN x), .int (iN z)] w none (wst w sa (arO 6 (updZ s x.toNat z))) := by
  obtain ⟨⟨ha, hw⟩, ⟨hca, hcw⟩, ⟨hsa, hsw⟩, hne1, hne2, hne3⟩ := id hC
  obtain ⟨hv, hp, hsh, hln⟩ := id hK
  try unfold RG at *
  show rn MX0_putSlice 0 [some (.ref a), some (.int (iN x)), some (.int (iN z))] [] w _
  refine r_iload_n (pc2 := 1) dX0_putSlice_0 rfl rfl ?_
  refine r_iconst (pc2 := 2) dX0_putSlice_1 rfl ?_
  refine r_iconst (pc2 := 3) dX0_putSlice_2 rfl ?_
  refine r_calls_3 (pc2 := 6) dX0_putSlice_3 rfl rs_0_47 rfl (by decide) rfl (Nat.le_of_ble_eq_true rfl) (Nat.le_of_ble_eq_true rfl) (c_isWithin _ x 0 5 (by unfold RG; omega) (by unfold RG; omega) (by unfold RG; omega)) (fun r_ w_ h_ => ?_)
  rw [h_.1, h_.2]
  clear h_ w_ r_
  refine ⟨rfl, ?_⟩
  refine r_ifb_eq (pc2 := 9) (tgt := 16) dX0_putSlice_6 rfl (by decide)  (fun h6 => ?_) (fun h6 => ?_)
  · refine r_retv dX0_putSlice_16 rfl ?_
    first | exact ⟨rfl, rfl⟩ | (exfalso; omega)
  · refine r_aload_n (pc2 := 10) dX0_putSlice_9 rfl rfl ?_
    refine r_getf (pc2 := 13) dX0_putSlice_10 rfl fl_0_22 (by assumption) (by assumption) (by rfl) ?_
    refine r_iload_n (pc2 := 14) dX0_putSlice_13 rfl rfl ?_
    refine r_iload_n (pc2 := 15) dX0_putSlice_14 rfl rfl ?_
    refine r_iast (pc2 := 16) dX0_putSlice_15 rfl (by assumption) (by assumption) (by omega) (by omega) (by omega) ?_
    refine r_retv dX0_putSlice_16 rfl ?_
    first | exact ⟨rfl, rfl⟩ | (exfalso; omega)

set_option maxHeartbeats 4000000 in
theorem c_spotBehind (w : av_W) (a ca sa : Nat) (v p sh ln pr gd co : Int) (c s : Nat → Int) (hC : Cd w a ca sa v p sh ln pr gd co c s) (hK : KR v p sh ln) (x y : Int) (hx : 0 ≤ x ∧ x ≤ 11) (hy : 0 ≤ y ∧ y ≤ 5) : fn MX0_spotBehind [.ref a, .int (iN x), .int (iN y)] w (some (.int (iN (spZ p sh x y)))) w := by
  obtain ⟨⟨ha, hw⟩, ⟨hca, hcw⟩, ⟨hsa, hsw⟩, hne1, hne2, hne3⟩ := id hC
  obtain ⟨hv, hp, hsh, hln⟩ := id hK
  try unfold RG at *
  have hm := mulb hp hx
  unfold spZ
  show rn MX0_spotBehind 0 [some (.ref a), some (.int (iN x)), some (.int (iN y)), none] [] w _
  refine r_iload_n (pc2 := 1) dX0_spotBehind_0 rfl rfl ?_
  refine r_aload_n (pc2 := 2) dX0_spotBehind_1 rfl rfl ?_
  refine r_getf (pc2 := 5) dX0_spotBehind_2 rfl fl_0_19 (by assumption) (by assumption) (by rfl) ?_
  refine r_imul (pc2 := 6) dX0_spotBehind_5 rfl ?_
  refine r_iload_n (pc2 := 7) dX0_spotBehind_6 rfl rfl ?_
  refine r_iadd (pc2 := 8) dX0_spotBehind_7 rfl ?_
  refine r_aload_n (pc2 := 9) dX0_spotBehind_8 rfl rfl ?_
  refine r_getf (pc2 := 12) dX0_spotBehind_9 rfl fl_0_25 (by assumption) (by assumption) (by rfl) ?_
  refine r_isub (pc2 := 13) dX0_spotBehind_12 rfl ?_
  refine r_ist_3 (pc2 := 14) dX0_spotBehind_13 rfl rfl ?_
  refine r_iload_n (pc2 := 15) dX0_spotBehind_14 rfl rfl ?_
  refine r_iconst (pc2 := 16) dX0_spotBehind_15 rfl ?_
  refine r_bipush (pc2 := 18) dX0_spotBehind_16 rfl (by decide) ?_
  refine r_aload_n (pc2 := 19) dX0_spotBehind_18 rfl rfl ?_
  refine r_getf (pc2 := 22) dX0_spotBehind_19 rfl fl_0_19 (by assumption) (by assumption) (by rfl) ?_
  refine r_imul (pc2 := 23) dX0_spotBehind_22 rfl ?_
  refine r_iconst (pc2 := 24) dX0_spotBehind_23 rfl ?_
  refine r_isub (pc2 := 25) dX0_spotBehind_24 rfl ?_
  refine r_calls_3 (pc2 := 28) dX0_spotBehind_25 rfl rs_0_47 rfl (by decide) rfl (Nat.le_of_ble_eq_true rfl) (Nat.le_of_ble_eq_true rfl) (c_isWithin _ (x * p + y - sh) 0 (12 * p - 1) (by unfold RG; omega) (by unfold RG; omega) (by unfold RG; omega)) (fun r_ w_ h_ => ?_)
  rw [h_.1, h_.2]
  clear h_ w_ r_
  refine ⟨rfl, ?_⟩
  refine r_ifb_eq (pc2 := 31) (tgt := 35) dX0_spotBehind_28 rfl (by decide)  (fun h28 => ?_) (fun h28 => ?_)
  · refine r_iconst (pc2 := 36) dX0_spotBehind_35 rfl ?_
    refine r_ret dX0_spotBehind_36 rfl ?_
    exact ⟨by first | rw [if_pos (by omega)] | rw [if_neg (by omega)], rfl⟩
  · refine r_iload_n (pc2 := 32) dX0_spotBehind_31 rfl rfl ?_
    refine r_goto (tgt := 36) dX0_spotBehind_32 (by decide) ?_
    refine r_ret dX0_spotBehind_36 rfl ?_
    exact ⟨by first | rw [if_pos (by omega)] | rw [if_neg (by omega)], rfl⟩

set_option maxHeartbeats 4000000 in
theorem c_sliceBehind (w : av_W) (a ca sa : Nat) (v p sh ln pr gd co : Int) (c s : Nat → Int) (hC : Cd w a ca sa v p sh ln pr gd co c s) (hK : KR v p sh ln) (x y : Int) (hx : 0 ≤ x ∧ x ≤ 11) (hy : 0 ≤ y ∧ y ≤ 5) : fn MX0_sliceBehind [.ref a, .int (iN x), .int (iN y)] w (some (.int (iN (slZ p sh x y)))) w := by
  obtain ⟨⟨ha, hw⟩, ⟨hca, hcw⟩, ⟨hsa, hsw⟩, hne1, hne2, hne3⟩ := id hC
  obtain ⟨hv, hp, hsh, hln⟩ := id hK
  try unfold RG at *
  have hm := spZ_rg (sh := sh) (r := x) (pl := y) hp
  unfold slZ
  show rn MX0_sliceBehind 0 [some (.ref a), some (.int (iN x)), some (.int (iN y)), none] [] w _
  refine r_aload_n (pc2 := 1) dX0_sliceBehind_0 rfl rfl ?_
  refine r_iload_n (pc2 := 2) dX0_sliceBehind_1 rfl rfl ?_
  refine r_iload_n (pc2 := 3) dX0_sliceBehind_2 rfl rfl ?_
  refine r_callv_2 (pc2 := 6) dX0_sliceBehind_3 rfl rs_0_82 rfl (by decide) rfl (Nat.le_of_ble_eq_true rfl) (Nat.le_of_ble_eq_true rfl) (by assumption) (by assumption) (c_spotBehind _ a ca sa v p sh ln pr gd co c s hC hK x y hx hy) (fun r_ w_ h_ => ?_)
  rw [h_.1, h_.2]
  clear h_ w_ r_
  refine ⟨rfl, ?_⟩
  refine r_ist_3 (pc2 := 7) dX0_sliceBehind_6 rfl rfl ?_
  refine r_iload_n (pc2 := 8) dX0_sliceBehind_7 rfl rfl ?_
  refine r_iconst (pc2 := 9) dX0_sliceBehind_8 rfl ?_
  refine r_icmp_eq (pc2 := 12) (tgt := 20) dX0_sliceBehind_9 rfl (by decide) (by omega) (by omega) (fun h9 => ?_) (fun h9 => ?_)
  · refine r_iconst (pc2 := 21) dX0_sliceBehind_20 rfl ?_
    refine r_goto (tgt := 30) dX0_sliceBehind_21 (by decide) ?_
    refine r_ret dX0_sliceBehind_30 rfl ?_
    exact ⟨by first | rw [if_pos (by omega)] | (rw [if_neg (by omega), Int.tmod_eq_emod_of_nonneg (by omega)]), rfl⟩
  · refine r_aload_n (pc2 := 13) dX0_sliceBehind_12 rfl rfl ?_
    refine r_getf (pc2 := 16) dX0_sliceBehind_13 rfl fl_0_19 (by assumption) (by assumption) (by rfl) ?_
    refine r_iconst (pc2 := 17) dX0_sliceBehind_16 rfl ?_
    refine r_icmp_ge (pc2 := 20) (tgt := 24) dX0_sliceBehind_17 rfl (by decide) (by omega) (by omega) (fun h17 => ?_) (fun h17 => ?_)
    · refine r_iload_n (pc2 := 25) dX0_sliceBehind_24 rfl rfl ?_
      refine r_aload_n (pc2 := 26) dX0_sliceBehind_25 rfl rfl ?_
      refine r_getf (pc2 := 29) dX0_sliceBehind_26 rfl fl_0_19 (by assumption) (by assumption) (by rfl) ?_
      refine r_irem (pc2 := 30) dX0_sliceBehind_29 rfl (by omega) (by omega) (by omega) (by omega) ?_
      refine r_ret dX0_sliceBehind_30 rfl ?_
      exact ⟨by first | rw [if_pos (by omega)] | (rw [if_neg (by omega), Int.tmod_eq_emod_of_nonneg (by omega)]), rfl⟩
    · refine r_iconst (pc2 := 21) dX0_sliceBehind_20 rfl ?_
      refine r_goto (tgt := 30) dX0_sliceBehind_21 (by decide) ?_
      refine r_ret dX0_sliceBehind_30 rfl ?_
      exact ⟨by first | rw [if_pos (by omega)] | (rw [if_neg (by omega), Int.tmod_eq_emod_of_nonneg (by omega)]), rfl⟩

set_option maxHeartbeats 4000000 in
theorem c_ridgeBehind (w : av_W) (a ca sa : Nat) (v p sh ln pr gd co : Int) (c s : Nat → Int) (hC : Cd w a ca sa v p sh ln pr gd co c s) (hK : KR v p sh ln) (x y : Int) (hx : 0 ≤ x ∧ x ≤ 11) (hy : 0 ≤ y ∧ y ≤ 5) : fn MX0_ridgeBehind [.ref a, .int (iN x), .int (iN y)] w (some (.int (iN (rdZ p sh x y)))) w := by
  obtain ⟨⟨ha, hw⟩, ⟨hca, hcw⟩, ⟨hsa, hsw⟩, hne1, hne2, hne3⟩ := id hC
  obtain ⟨hv, hp, hsh, hln⟩ := id hK
  try unfold RG at *
  have hm := spZ_rg (sh := sh) (r := x) (pl := y) hp
  unfold rdZ
  show rn MX0_ridgeBehind 0 [some (.ref a), some (.int (iN x)), some (.int (iN y)), none] [] w _
  refine r_aload_n (pc2 := 1) dX0_ridgeBehind_0 rfl rfl ?_
  refine r_iload_n (pc2 := 2) dX0_ridgeBehind_1 rfl rfl ?_
  refine r_iload_n (pc2 := 3) dX0_ridgeBehind_2 rfl rfl ?_
  refine r_callv_2 (pc2 := 6) dX0_ridgeBehind_3 rfl rs_0_82 rfl (by decide) rfl (Nat.le_of_ble_eq_true rfl) (Nat.le_of_ble_eq_true rfl) (by assumption) (by assumption) (c_spotBehind _ a ca sa v p sh ln pr gd co c s hC hK x y hx hy) (fun r_ w_ h_ => ?_)
  rw [h_.1, h_.2]
  clear h_ w_ r_
  refine ⟨rfl, ?_⟩
  refine r_ist_3 (pc2 := 7) dX0_ridgeBehind_6 rfl rfl ?_
  refine r_iload_n (pc2 := 8) dX0_ridgeBehind_7 rfl rfl ?_
  refine r_iconst (pc2 := 9) dX0_ridgeBehind_8 rfl ?_
  refine r_icmp_eq (pc2 := 12) (tgt := 20) dX0_ridgeBehind_9 rfl (by decide) (by omega) (by omega) (fun h9 => ?_) (fun h9 => ?_)
  · refine r_iconst (pc2 := 21) dX0_ridgeBehind_20 rfl ?_
    refine r_goto (tgt := 30) dX0_ridgeBehind_21 (by decide) ?_
    refine r_ret dX0_ridgeBehind_30 rfl ?_
    exact ⟨by first | rw [if_pos (by omega)] | (rw [if_neg (by omega), Int.tdiv_eq_ediv_of_nonneg (by omega)]), rfl⟩
  · refine r_aload_n (pc2 := 13) dX0_ridgeBehind_12 rfl rfl ?_
    refine r_getf (pc2 := 16) dX0_ridgeBehind_13 rfl fl_0_19 (by assumption) (by assumption) (by rfl) ?_
    refine r_iconst (pc2 := 17) dX0_ridgeBehind_16 rfl ?_
    refine r_icmp_ge (pc2 := 20) (tgt := 24) dX0_ridgeBehind_17 rfl (by decide) (by omega) (by omega) (fun h17 => ?_) (fun h17 => ?_)
    · refine r_iload_n (pc2 := 25) dX0_ridgeBehind_24 rfl rfl ?_
      refine r_aload_n (pc2 := 26) dX0_ridgeBehind_25 rfl rfl ?_
      refine r_getf (pc2 := 29) dX0_ridgeBehind_26 rfl fl_0_19 (by assumption) (by assumption) (by rfl) ?_
      refine r_idiv (pc2 := 30) dX0_ridgeBehind_29 rfl (by omega) (by omega) (by omega) (by omega) ?_
      refine r_ret dX0_ridgeBehind_30 rfl ?_
      exact ⟨by first | rw [if_pos (by omega)] | (rw [if_neg (by omega), Int.tdiv_eq_ediv_of_nonneg (by omega)]), rfl⟩
    · refine r_iconst (pc2 := 21) dX0_ridgeBehind_20 rfl ?_
      refine r_goto (tgt := 30) dX0_ridgeBehind_21 (by decide) ?_
      refine r_ret dX0_ridgeBehind_30 rfl ?_
      exact ⟨by first | rw [if_pos (by omega)] | (rw [if_neg (by omega), Int.tdiv_eq_ediv_of_nonneg (by omega)]), rfl⟩

set_option maxHeartbeats 4000000 in
theorem c_viewBehind (w : av_W) (a ca sa : Nat) (v p sh ln pr gd co : Int) (c s : Nat → Int) (hC : Cd w a ca sa v p sh ln pr gd co c s) (hK : KR v p sh ln) (x y : Int) (hx : 0 ≤ x ∧ x ≤ 11) (hy : 0 ≤ y ∧ y ≤ 5) : fn MX0_viewBehind [.ref a, .int (iN x), .int (iN y)] w (some (.int (iN (sD s (slZ p sh x y))))) w := by
  obtain ⟨⟨ha, hw⟩, ⟨hca, hcw⟩, ⟨hsa, hsw⟩, hne1, hne2, hne3⟩ := id hC
  obtain ⟨hv, hp, hsh, hln⟩ := id hK
  try unfold RG at *
  have hm := slZ_rg (sh := sh) (r := x) (pl := y) hp
  show rn MX0_viewBehind 0 [some (.ref a), some (.int (iN x)), some (.int (iN y))] [] w _
  refine r_aload_n (pc2 := 1) dX0_viewBehind_0 rfl rfl ?_
  refine r_aload_n (pc2 := 2) dX0_viewBehind_1 rfl rfl ?_
  refine r_iload_n (pc2 := 3) dX0_viewBehind_2 rfl rfl ?_
  refine r_iload_n (pc2 := 4) dX0_viewBehind_3 rfl rfl ?_
  refine r_callv_2 (pc2 := 7) dX0_viewBehind_4 rfl rs_0_85 rfl (by decide) rfl (Nat.le_of_ble_eq_true rfl) (Nat.le_of_ble_eq_true rfl) (by assumption) (by assumption) (c_sliceBehind _ a ca sa v p sh ln pr gd co c s hC hK x y hx hy) (fun r_ w_ h_ => ?_)
  rw [h_.1, h_.2]
  clear h_ w_ r_
  refine ⟨rfl, ?_⟩
  refine r_callv_1 (pc2 := 10) dX0_viewBehind_7 rfl rs_0_63 rfl (by decide) rfl (Nat.le_of_ble_eq_true rfl) (Nat.le_of_ble_eq_true rfl) (by assumption) (by assumption) (c_viewDue _ a ca sa v p sh ln pr gd co c s hC hK (slZ p sh x y) (by unfold RG; omega)) (fun r_ w_ h_ => ?_)
  rw [h_.1, h_.2]
  clear h_ w_ r_
  refine ⟨rfl, ?_⟩
  refine r_ret dX0_viewBehind_10 rfl ?_
  exact ⟨rfl, rfl⟩

set_option maxHeartbeats 4000000 in
theorem c_colourBehind (w : av_W) (a ca sa : Nat) (v p sh ln pr gd co : Int) (c s : Nat → Int) (hC : Cd w a ca sa v p sh ln pr gd co c s) (hK : KR v p sh ln) (x y : Int) (hx : 0 ≤ x ∧ x ≤ 11) (hy : 0 ≤ y ∧ y ≤ 5) (hs : ∀ j, j < 6 → -1 ≤ s j ∧ s j ≤ 5) : fn MX0_colourBehind [.ref a, .int (iN x), .int (iN y)] w (some (.int (iN (colI c (sD s (slZ p sh x y)) (rdZ p sh x y))))) w := by
  obtain ⟨⟨ha, hw⟩, ⟨hca, hcw⟩, ⟨hsa, hsw⟩, hne1, hne2, hne3⟩ := id hC
  obtain ⟨hv, hp, hsh, hln⟩ := id hK
  try unfold RG at *
  have hm := rdZ_rg (sh := sh) (r := x) (pl := y) hp
  have hm2 := sD_rg hs (by omega) (by omega) (slZ p sh x y)
  show rn MX0_colourBehind 0 [some (.ref a), some (.int (iN x)), some (.int (iN y))] [] w _
  refine r_aload_n (pc2 := 1) dX0_colourBehind_0 rfl rfl ?_
  refine r_aload_n (pc2 := 2) dX0_colourBehind_1 rfl rfl ?_
  refine r_iload_n (pc2 := 3) dX0_colourBehind_2 rfl rfl ?_
  refine r_iload_n (pc2 := 4) dX0_colourBehind_3 rfl rfl ?_
  refine r_callv_2 (pc2 := 7) dX0_colourBehind_4 rfl rs_0_88 rfl (by decide) rfl (Nat.le_of_ble_eq_true rfl) (Nat.le_of_ble_eq_true rfl) (by assumption) (by assumption) (c_viewBehind _ a ca sa v p sh ln pr gd co c s hC hK x y hx hy) (fun r_ w_ h_ => ?_)
  rw [h_.1, h_.2]
  clear h_ w_ r_
  refine ⟨rfl, ?_⟩
  refine r_aload_n (pc2 := 8) dX0_colourBehind_7 rfl rfl ?_
  refine r_iload_n (pc2 := 9) dX0_colourBehind_8 rfl rfl ?_
  refine r_iload_n (pc2 := 10) dX0_colourBehind_9 rfl rfl ?_
  refine r_callv_2 (pc2 := 13) dX0_colourBehind_10 rfl rs_0_91 rfl (by decide) rfl (Nat.le_of_ble_eq_true rfl) (Nat.le_of_ble_eq_true rfl) (by assumption) (by assumption) (c_ridgeBehind _ a ca sa v p sh ln pr gd co c s hC hK x y hx hy) (fun r_ w_ h_ => ?_)
  rw [h_.1, h_.2]
  clear h_ w_ r_
  refine ⟨rfl, ?_⟩
  refine r_callv_2 (pc2 := 16) dX0_colourBehind_13 rfl rs_0_59 rfl (by decide) rfl (Nat.le_of_ble_eq_true rfl) (Nat.le_of_ble_eq_true rfl) (by assumption) (by assumption) (c_colourIn _ a ca sa v p sh ln pr gd co c s hC hK (sD s (slZ p sh x y)) (rdZ p sh x y) (by unfold RG; omega) (by unfold RG; omega)) (fun r_ w_ h_ => ?_)
  rw [h_.1, h_.2]
  clear h_ w_ r_
  refine ⟨rfl, ?_⟩
  refine r_ret dX0_colourBehind_16 rfl ?_
  exact ⟨rfl, rfl⟩

set_option maxHeartbeats 4000000 in
theorem c_stepAt (w : av_W) (a ca sa : Nat) (v p sh ln pr gd co : Int) (c s : Nat → Int) (hC : Cd w a ca sa v p sh ln pr gd co c s) (hK : KR v p sh ln) (x : Int) (hx : -9 ≤ x ∧ x ≤ 9) : fn MX0_stepAt [.ref a, .int (iN x)] w (some (.int (iN (stZ p x)))) w := by
  obtain ⟨⟨ha, hw⟩, ⟨hca, hcw⟩, ⟨hsa, hsw⟩, hne1, hne2, hne3⟩ := id hC
  obtain ⟨hv, hp, hsh, hln⟩ := id hK
  try unfold RG at *
  have hm := mula hp hx
  unfold stZ
  show rn MX0_stepAt 0 [some (.ref a), some (.int (iN x))] [] w _
  refine r_aload_n (pc2 := 1) dX0_stepAt_0 rfl rfl ?_
  refine r_getf (pc2 := 4) dX0_stepAt_1 rfl fl_0_19 (by assumption) (by assumption) (by rfl) ?_
  refine r_iload_n (pc2 := 5) dX0_stepAt_4 rfl rfl ?_
  refine r_bipush (pc2 := 7) dX0_stepAt_5 rfl (by decide) ?_
  refine r_iadd (pc2 := 8) dX0_stepAt_7 rfl ?_
  refine r_imul (pc2 := 9) dX0_stepAt_8 rfl ?_
  refine r_bipush (pc2 := 11) dX0_stepAt_9 rfl (by decide) ?_
  refine r_idiv (pc2 := 12) dX0_stepAt_11 rfl (by omega) (by omega) (by omega) (by omega) ?_
  refine r_ret dX0_stepAt_12 rfl ?_
  exact ⟨by rw [Int.tdiv_eq_ediv_of_nonneg (by omega)], rfl⟩

set_option maxHeartbeats 4000000 in
theorem c_placeSeen (w : av_W) (a ca sa : Nat) (v p sh ln pr gd co : Int) (c s : Nat → Int) (hC : Cd w a ca sa v p sh ln pr gd co c s) (hK : KR v p sh ln) (x y : Int) (hx : 0 ≤ x ∧ x ≤ 6) (hy : 0 ≤ y ∧ y ≤ 11) : fn MX0_placeSeen [.ref a, .int (iN x), .int (iN y)] w (some (.int (iN (plZ p ln x y)))) w := by
  obtain ⟨⟨ha, hw⟩, ⟨hca, hcw⟩, ⟨hsa, hsw⟩, hne1, hne2, hne3⟩ := id hC
  obtain ⟨hv, hp, hsh, hln⟩ := id hK
  try unfold RG at *
  have hm := mulc hln hy
  have hm2 := tdb hm
  unfold plZ
  show rn MX0_placeSeen 0 [some (.ref a), some (.int (iN x)), some (.int (iN y)), none] [] w _
  refine r_iload_n (pc2 := 1) dX0_placeSeen_0 rfl rfl ?_
  refine r_aload_n (pc2 := 2) dX0_placeSeen_1 rfl rfl ?_
  refine r_getf (pc2 := 5) dX0_placeSeen_2 rfl fl_0_28 (by assumption) (by assumption) (by rfl) ?_
  refine r_iload_n (pc2 := 6) dX0_placeSeen_5 rfl rfl ?_
  refine r_bipush (pc2 := 8) dX0_placeSeen_6 rfl (by decide) ?_
  refine r_isub (pc2 := 9) dX0_placeSeen_8 rfl ?_
  refine r_imul (pc2 := 10) dX0_placeSeen_9 rfl ?_
  refine r_iconst (pc2 := 11) dX0_placeSeen_10 rfl ?_
  refine r_idiv (pc2 := 12) dX0_placeSeen_11 rfl (by omega) (by omega) (by omega) (by omega) ?_
  refine r_iadd (pc2 := 13) dX0_placeSeen_12 rfl ?_
  refine r_ist_3 (pc2 := 14) dX0_placeSeen_13 rfl rfl ?_
  refine r_iconst (pc2 := 15) dX0_placeSeen_14 rfl ?_
  refine r_iload_n (pc2 := 16) dX0_placeSeen_15 rfl rfl ?_
  refine r_aload_n (pc2 := 17) dX0_placeSeen_16 rfl rfl ?_
  refine r_getf (pc2 := 20) dX0_placeSeen_17 rfl fl_0_19 (by assumption) (by assumption) (by rfl) ?_
  refine r_iconst (pc2 := 21) dX0_placeSeen_20 rfl ?_
  refine r_isub (pc2 := 22) dX0_placeSeen_21 rfl ?_
  refine r_mm (pc2 := 25) dX0_placeSeen_22 rfl mr_0_94 mm_0_94 (by decide) (Nat.le_of_ble_eq_true rfl) (by omega) (by omega) ?_
  refine r_mm (pc2 := 28) dX0_placeSeen_25 rfl mr_0_77 mm_0_77 (by decide) (Nat.le_of_ble_eq_true rfl) (by omega) (by omega) ?_
  refine r_ret dX0_placeSeen_28 rfl ?_
  exact ⟨rfl, rfl⟩
