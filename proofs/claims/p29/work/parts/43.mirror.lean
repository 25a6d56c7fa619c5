/-! THE MIRROR: the second card has the views from the last one back, and each colour 9 less it -/
def mi (v x : Int) : Int := if x = -1 then -1 else v - 1 - x
theorem mi_inj {v x y : Int} (hx : -1 ≤ x ∧ x < v) (hy : -1 ≤ y ∧ y < v) : mi v x = mi v y ↔ x = y := by
  unfold mi
  split <;> split <;> omega
theorem mi_neg (v : Int) : mi v (-1) = -1 := if_pos rfl
theorem mi_of {v x : Int} (h : x ≠ -1) : mi v x = v - 1 - x := if_neg h
theorem mi_rg {v x : Int} (hx : -1 ≤ x ∧ x < v) : -1 ≤ mi v x ∧ mi v x < v := by
  unfold mi
  split <;> omega
def RS (v p : Int) (s : Nat → Int) : Prop := ∀ j : Nat, (j : Int) < p → 0 ≤ s j ∧ s j < v
def MS (v p : Int) (s s2 : Nat → Int) : Prop := ∀ j : Nat, (j : Int) < p → s2 j = v - 1 - s j
def MC (v : Int) (c c2 : Nat → Int) : Prop := ∀ x y : Int, (0 ≤ x ∧ x < v) → (0 ≤ y ∧ y ≤ 11) → c2 ((v - 1 - x) * 12 + y).toNat = 9 - c (x * 12 + y).toNat
theorem ssF_rgA {p sh ln : Int} (hp : 2 ≤ p ∧ p ≤ 6) (j : Nat) : -1 ≤ ssF p sh ln j ∧ ssF p sh ln j < p := by
  have h := slZ_rg (sh := sh) (r := (j : Int) % 12) (pl := plZ p ln ((j : Int) / 12) ((j : Int) % 12)) hp
  unfold ssF
  omega
theorem sD_mi {v p : Int} {s s2 : Nat → Int} (hp : 2 ≤ p ∧ p ≤ 6) (hs : RS v p s) (h : MS v p s s2) {x : Int} (hx : -1 ≤ x ∧ x < p) : sD s2 x = mi v (sD s x) := by
  by_cases q : x = -1
  · rw [q, sD_neg, sD_neg, mi_neg]
  · unfold sD
    rw [if_pos (by omega), if_pos (by omega), h x.toNat (by omega), mi_of]
    have := hs x.toNat (by omega)
    omega
theorem sD_rgv {v p : Int} {s : Nat → Int} (hv : 0 ≤ v) (hp : 2 ≤ p ∧ p ≤ 6) (hs : RS v p s) {x : Int} (hx : -1 ≤ x ∧ x < p) : -1 ≤ sD s x ∧ sD s x < v := by
  by_cases q : x = -1
  · rw [q, sD_neg]
    omega
  · unfold sD
    rw [if_pos (by omega)]
    have := hs x.toNat (by omega)
    omega
section MIS
variable {v p sh ln : Int} {s s2 : Nat → Int}
theorem vS_rgv (hv : 2 ≤ v ∧ v ≤ 4) (hp : 2 ≤ p ∧ p ≤ 6) (hs : RS v p s) (st r : Int) : -1 ≤ vS s (ssF p sh ln) st r ∧ vS s (ssF p sh ln) st r < v := sD_rgv (by omega) hp hs (ssF_rgA hp _)
theorem vS_mi (hp : 2 ≤ p ∧ p ≤ 6) (hs : RS v p s) (h : MS v p s s2) (st r : Int) : vS s2 (ssF p sh ln) st r = mi v (vS s (ssF p sh ln) st r) := sD_mi hp hs h (ssF_rgA hp _)
theorem vS_miE (hv : 2 ≤ v ∧ v ≤ 4) (hp : 2 ≤ p ∧ p ≤ 6) (hs : RS v p s) (h : MS v p s s2) (st r st2 r2 : Int) : vS s2 (ssF p sh ln) st r = vS s2 (ssF p sh ln) st2 r2 ↔ vS s (ssF p sh ln) st r = vS s (ssF p sh ln) st2 r2 := by
  rw [vS_mi hp hs h, vS_mi hp hs h]
  exact mi_inj (vS_rgv hv hp hs st r) (vS_rgv hv hp hs st2 r2)
theorem ghC_mi (hv : 2 ≤ v ∧ v ≤ 4) (hp : 2 ≤ p ∧ p ≤ 6) (hs : RS v p s) (h : MS v p s s2) (st r : Int) : ghC s2 (ssF p sh ln) st r ↔ ghC s (ssF p sh ln) st r :=
  or_congr (and_congr Iff.rfl (not_congr (vS_miE hv hp hs h st (r - 1) st r))) (and_congr Iff.rfl (not_congr (vS_miE hv hp hs h st (r + 1) st r)))
theorem ghF_mi (hv : 2 ≤ v ∧ v ≤ 4) (hp : 2 ≤ p ∧ p ≤ 6) (hs : RS v p s) (h : MS v p s s2) (st : Int) : ghF s2 (ssF p sh ln) st = ghF s (ssF p sh ln) st := sm_congr (fun r _ => bz_iff (ghC_mi hv hp hs h st r))
theorem GA_mi (hv : 2 ≤ v ∧ v ≤ 4) (hp : 2 ≤ p ∧ p ≤ 6) (hs : RS v p s) (h : MS v p s s2) (sh ln : Int) : GA p sh ln s2 = GA p sh ln s := sm_congr (fun st _ => by
  show cnA p 19 st * ghF s2 (ssF p sh ln) st = cnA p 19 st * ghF s (ssF p sh ln) st
  rw [ghF_mi hv hp hs h])
theorem rsF_mi (hv : 2 ≤ v ∧ v ≤ 4) (hp : 2 ≤ p ∧ p ≤ 6) (hs : RS v p s) (h : MS v p s s2) (st : Int) {x : Int} (hx : -1 ≤ x ∧ x < v) : rsF s2 (ssF p sh ln) st (mi v x) = rsF s (ssF p sh ln) st x := sm_congr (fun r _ => bz_iff (by
  rw [vS_mi hp hs h]
  exact mi_inj (vS_rgv hv hp hs st _) hx))
theorem whF_mi (hv : 2 ≤ v ∧ v ≤ 4) (hp : 2 ≤ p ∧ p ≤ 6) (hs : RS v p s) (h : MS v p s s2) (st : Int) : whF s2 (ssF p sh ln) st = mi v (whF s (ssF p sh ln) st) := by
  unfold whF
  rw [vS_mi hp hs h, rsF_mi hv hp hs h st (vS_rgv hv hp hs st 0)]
  split
  · rfl
  · rw [mi_neg]
theorem whF_rgv (hv : 2 ≤ v ∧ v ≤ 4) (hp : 2 ≤ p ∧ p ≤ 6) (hs : RS v p s) (st : Int) : -1 ≤ whF s (ssF p sh ln) st ∧ whF s (ssF p sh ln) st < v := by
  unfold whF
  split
  · exact vS_rgv hv hp hs st 0
  · omega
theorem asF_mi (hv : 2 ≤ v ∧ v ≤ 4) (hp : 2 ≤ p ∧ p ≤ 6) (hs : RS v p s) (h : MS v p s s2) (g : Nat → Int) {x : Int} (hx : -1 ≤ x ∧ x < v) : asF p s2 (ssF p sh ln) g (mi v x) = asF p s (ssF p sh ln) g x := sm_congr (fun st _ => by
  show (if whF s2 (ssF p sh ln) st = mi v x then g st else 0) = (if whF s (ssF p sh ln) st = x then g st else 0)
  rw [whF_mi hv hp hs h]
  by_cases q : whF s (ssF p sh ln) st = x
  · rw [q, if_pos rfl, if_pos rfl]
  · rw [if_neg q, if_neg (fun q2 => q ((mi_inj (whF_rgv hv hp hs st) hx).mp q2))])
theorem cnS_mi (hs : RS v p s) (h : MS v p s s2) {x : Int} : cnS p s2 (v - 1 - x) = cnS p s x := sm_congr (fun j hj => bz_iff (by
  rw [h j (by omega)]
  omega))
theorem wvF_mi (hv : 2 ≤ v ∧ v ≤ 4) (hp : 2 ≤ p ∧ p ≤ 6) (hs : RS v p s) (h : MS v p s s2) (g : Nat → Int) : wvF p v s2 (ssF p sh ln) g = wvF p v s (ssF p sh ln) g := by
  have e : ∀ x : Int, 0 ≤ x → x < v → asF p s2 (ssF p sh ln) g (v - 1 - x) = asF p s (ssF p sh ln) g x := fun x h0 h1 => by
    have := asF_mi (sh := sh) (ln := ln) hv hp hs h g (x := x) (by omega)
    rw [mi_of (by omega)] at this
    exact this
  have key : ∀ n : Nat, n ≤ v.toNat → sm n (fun x => bz (0 < asF p s2 (ssF p sh ln) g x)) = sm v.toNat (fun x => bz (0 < asF p s (ssF p sh ln) g x)) - sm (v.toNat - n) (fun x => bz (0 < asF p s (ssF p sh ln) g x)) := by
    intro n
    induction n with
    | zero =>
      intro _
      show (0 : Int) = _
      rw [Nat.sub_zero]
      omega
    | succ n ih =>
      intro hn
      have h1 := ih (by omega)
      have h2 := e (v - 1 - n) (by omega) (by omega)
      rw [show v - 1 - (v - 1 - (n : Int)) = n by omega] at h2
      show sm n _ + bz (0 < asF p s2 (ssF p sh ln) g (n : Int)) = _
      rw [h1, h2, show v.toNat - n = (v.toNat - (n + 1)) + 1 by omega]
      show _ - (sm (v.toNat - (n + 1)) _ + bz (0 < asF p s (ssF p sh ln) g ((v.toNat - (n + 1) : Nat) : Int))) + _ = _
      rw [show ((v.toNat - (n + 1) : Nat) : Int) = v - 1 - n by omega]
      omega
  have := key v.toNat (Nat.le_refl _)
  rw [Nat.sub_self] at this
  unfold wvF
  rw [this]
  show _ - (0 : Int) = _
  omega
/-- how many ridges show the most shown view -/
def mxs : Nat → (Nat → Int) → Int
  | 0, _ => 0
  | n + 1, f => max (mxs n f) (f n)
theorem mvF_mx (s f : Nat → Int) (st : Int) (n : Nat) : (mvF s f st n).1 = mxs n (fun x => rsF s f st x) ∧ (((mvF s f st n).2 = -1 ∧ (mvF s f st n).1 = 0) ∨ (0 ≤ (mvF s f st n).2 ∧ rsF s f st (mvF s f st n).2 = (mvF s f st n).1)) := by
  induction n with
  | zero => exact ⟨rfl, Or.inl ⟨rfl, rfl⟩⟩
  | succ n ih =>
    show (if (mvF s f st n).1 < rsF s f st n then (rsF s f st n, (n : Int)) else mvF s f st n).1 = max (mxs n _) (rsF s f st n) ∧ _
    have e : mvF s f st (n + 1) = (if (mvF s f st n).1 < rsF s f st n then (rsF s f st n, (n : Int)) else mvF s f st n) := rfl
    by_cases q : (mvF s f st n).1 < rsF s f st n
    · rw [e, if_pos q]
      rw [ih.1] at q
      exact ⟨by show rsF s f st n = _; omega, Or.inr ⟨by show (0 : Int) ≤ (n : Int); omega, rfl⟩⟩
    · rw [e, if_neg q]
      refine ⟨?_, ih.2⟩
      rw [ih.1] at q ⊢
      omega
theorem at3_mx (s f : Nat → Int) (st : Int) (n : Nat) : (if (mvF s f st n).2 = -1 then 0 else rsF s f st (mvF s f st n).2) = mxs n (fun x => rsF s f st x) := by
  obtain ⟨h1, h2⟩ := mvF_mx s f st n
  rcases h2 with h2 | h2
  · rw [if_pos h2.1, ← h1, h2.2]
  · rw [if_neg (by omega), h2.2, h1]
theorem mxs_mi (hv : 2 ≤ v ∧ v ≤ 4) (hp : 2 ≤ p ∧ p ≤ 6) (hs : RS v p s) (h : MS v p s s2) (st : Int) : mxs v.toNat (fun x => rsF s2 (ssF p sh ln) st x) = mxs v.toNat (fun x => rsF s (ssF p sh ln) st x) := by
  have e : ∀ k m : Nat, (k : Int) + (m : Int) = v - 1 → rsF s2 (ssF p sh ln) st (k : Int) = rsF s (ssF p sh ln) st (m : Int) := fun k m hkm => by
    have := rsF_mi (sh := sh) (ln := ln) hv hp hs h st (x := (m : Int)) (by omega)
    rw [mi_of (by omega), show v - 1 - (m : Int) = (k : Int) by omega] at this
    exact this
  rcases (show v = 2 ∨ v = 3 ∨ v = 4 by omega) with q | q | q
  · have e0 := e 0 1 (by omega)
    have e1 := e 1 0 (by omega)
    rw [show v.toNat = 2 by omega]
    show max (max 0 (rsF s2 (ssF p sh ln) st ((0 : Nat) : Int))) (rsF s2 (ssF p sh ln) st ((1 : Nat) : Int)) = max (max 0 (rsF s (ssF p sh ln) st ((0 : Nat) : Int))) (rsF s (ssF p sh ln) st ((1 : Nat) : Int))
    rw [e0, e1]
    omega
  · have e0 := e 0 2 (by omega)
    have e1 := e 1 1 (by omega)
    have e2 := e 2 0 (by omega)
    rw [show v.toNat = 3 by omega]
    show max (max (max 0 (rsF s2 (ssF p sh ln) st ((0 : Nat) : Int))) (rsF s2 (ssF p sh ln) st ((1 : Nat) : Int))) (rsF s2 (ssF p sh ln) st ((2 : Nat) : Int)) = max (max (max 0 (rsF s (ssF p sh ln) st ((0 : Nat) : Int))) (rsF s (ssF p sh ln) st ((1 : Nat) : Int))) (rsF s (ssF p sh ln) st ((2 : Nat) : Int))
    rw [e0, e1, e2]
    omega
  · have e0 := e 0 3 (by omega)
    have e1 := e 1 2 (by omega)
    have e2 := e 2 1 (by omega)
    have e3 := e 3 0 (by omega)
    rw [show v.toNat = 4 by omega]
    show max (max (max (max 0 (rsF s2 (ssF p sh ln) st ((0 : Nat) : Int))) (rsF s2 (ssF p sh ln) st ((1 : Nat) : Int))) (rsF s2 (ssF p sh ln) st ((2 : Nat) : Int))) (rsF s2 (ssF p sh ln) st ((3 : Nat) : Int)) = max (max (max (max 0 (rsF s (ssF p sh ln) st ((0 : Nat) : Int))) (rsF s (ssF p sh ln) st ((1 : Nat) : Int))) (rsF s (ssF p sh ln) st ((2 : Nat) : Int))) (rsF s (ssF p sh ln) st ((3 : Nat) : Int))
    rw [e0, e1, e2, e3]
    omega
theorem clF_mi (hv : 2 ≤ v ∧ v ≤ 4) (hp : 2 ≤ p ∧ p ≤ 6) (hs : RS v p s) (h : MS v p s s2) {x : Int} (hx : 0 ≤ x ∧ x < v) (n : Nat) : clF p s2 (ssF p sh ln) (v - 1 - x) n = clF p s (ssF p sh ln) x n := by
  have e : ∀ st : Int, rsF s2 (ssF p sh ln) st (v - 1 - x) = rsF s (ssF p sh ln) st x := fun st => by
    have := rsF_mi (sh := sh) (ln := ln) hv hp hs h st (x := x) (by omega)
    rw [mi_of (by omega)] at this
    exact this
  induction n with
  | zero => rfl
  | succ n ih =>
    unfold clF
    rw [ih, e, ghF_mi hv hp hs h]
theorem colI_mi {c c2 : Nat → Int} (hv : 2 ≤ v ∧ v ≤ 4) (hc : MC v c c2) {x y : Int} (hx : -1 ≤ x ∧ x < v) (hy : -1 ≤ y ∧ y ≤ 11) : colI c2 (mi v x) y = if colI c x y = -1 ∧ (x = -1 ∨ y = -1) then -1 else 9 - colI c x y := by
  by_cases q : x = -1 ∨ y = -1
  · have e : colI c x y = -1 := if_neg (by omega)
    have e2 : colI c2 (mi v x) y = -1 := if_neg (by unfold mi; split <;> omega)
    rw [e, e2, if_pos ⟨rfl, q⟩]
  · have e : colI c x y = c (x * 12 + y).toNat := if_pos (by omega)
    have e2 : colI c2 (mi v x) y = c2 ((v - 1 - x) * 12 + y).toNat := by
      rw [mi_of (by omega)]
      exact if_pos (by omega)
    rw [e, e2, hc x y (by omega) (by omega), if_neg (fun z => q z.2)]
end MIS
/-- a number of a view, or what stands for none, told from the other end -/
def thZ (v x : Int) : Int := if x < 0 ∨ v ≤ x then x else v - 1 - x
def coZ (x : Int) : Int := if x < 0 ∨ 9 < x then x else 9 - x
theorem th_nn {v x : Int} (hx : -1 ≤ x ∧ x < v) : thZ v (nn x) = nn (mi v x) := by
  unfold thZ nn mi
  by_cases q : x = -1
  · rw [if_pos q, if_pos (by omega), if_pos q, if_pos rfl]
  · rw [if_neg q, if_neg (by omega), if_neg q, if_neg (by omega)]
theorem co_nn {v : Int} {c c2 : Nat → Int} (hv : 2 ≤ v ∧ v ≤ 4) (hc : MC v c c2) (hr : ∀ j : Nat, j < 48 → 0 ≤ c j ∧ c j ≤ 9) {x y : Int} (hx : -1 ≤ x ∧ x < v) (hy : -1 ≤ y ∧ y ≤ 11) : coZ (nn (colI c x y)) = nn (colI c2 (mi v x) y) := by
  rw [colI_mi hv hc hx hy]
  by_cases q : x = -1 ∨ y = -1
  · have e : colI c x y = -1 := if_neg (by omega)
    rw [e, if_pos ⟨rfl, q⟩]
    rfl
  · have e : colI c x y = c (x * 12 + y).toNat := if_pos (by omega)
    have h9 := hr (x * 12 + y).toNat (by omega)
    rw [e, if_neg (by omega)]
    unfold coZ nn
    rw [if_neg (by omega), if_neg (by omega), if_neg (by omega)]
/-- the second card is the first one's mirror -/
def MR (V U : CV) : Prop := match V, U with
  | (v, p, sh, ln, pr, gd, co, c, s), (v2, p2, sh2, ln2, pr2, gd2, co2, c2, s2) => (v2 = v ∧ p2 = p ∧ sh2 = sh ∧ ln2 = ln ∧ pr2 = pr ∧ gd2 = gd ∧ co2 = co) ∧ MC v c c2 ∧ MS v p s s2
/-- but for the slices -/
def PR (V U : CV) : Prop := match V, U with
  | (v, p, sh, ln, pr, gd, co, c, _), (v2, p2, sh2, ln2, pr2, gd2, co2, c2, _) => (v2 = v ∧ p2 = p ∧ sh2 = sh ∧ ln2 = ln ∧ pr2 = pr ∧ gd2 = gd ∧ co2 = co) ∧ MC v c c2
/-- but for views, pitch, colours and slices -/
def SC (V U : CV) : Prop := match V, U with
  | (_, _, sh, ln, pr, gd, co, _, _), (_, _, sh2, ln2, pr2, gd2, co2, _, _) => sh2 = sh ∧ ln2 = ln ∧ pr2 = pr ∧ gd2 = gd ∧ co2 = co
theorem KW_p {v p sh ln pr gd co : Int} {c s : Nat → Int} (h : KW (v, p, sh, ln, pr, gd, co, c, s)) : (2 ≤ v ∧ v ≤ 4) ∧ (2 ≤ p ∧ p ≤ 6) ∧ (-3 ≤ sh ∧ sh ≤ 3) ∧ (0 ≤ ln ∧ ln ≤ 3) ∧ RS v p s ∧ (∀ j : Nat, j < 48 → 0 ≤ c j ∧ c j ≤ 9) ∧ (0 ≤ pr ∧ pr ≤ 99999) ∧ SR s := by
  obtain ⟨⟨⟨k1, k2, k3, k4⟩, k5, k6, k7⟩, k8⟩ := h
  have k2 : 2 ≤ p ∧ p ≤ 6 := k2
  refine ⟨k1, k2, k3, k4, fun j hj => ⟨(k5 j (by omega)).1, k8 j hj⟩, k6, k7, k5⟩
