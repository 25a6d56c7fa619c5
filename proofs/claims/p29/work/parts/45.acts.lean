/-! what an act does to a card and to its mirror -/
section ACTM
variable {v p sh ln pr gd co : Int} {c s c2 s2 : Nat → Int}
theorem upd_at (c : Nat → Int) (i j : Nat) (x : Int) : updZ c i x j = if j = i then x else c j := rfl
theorem m_col (hK : KW (v, p, sh, ln, pr, gd, co, c, s)) (hc : MC v c c2) (hm : MS v p s s2) {a b k : Int} (ha : 0 ≤ a ∧ a < v) (hb : 0 ≤ b ∧ b ≤ 11) (hk : 0 ≤ k ∧ k ≤ 9) :
    (o_colour (v, p, sh, ln, pr, gd, co, c, s) a b k).1 = (if o_colourOf (v, p, sh, ln, pr, gd, co, c, s) a b = k then -105 else o_colourOf (v, p, sh, ln, pr, gd, co, c, s) a b) ∧
    (o_colour (v, p, sh, ln, pr, gd, co, c2, s2) (thZ v a) b (9 - k)).1 = coZ (o_colour (v, p, sh, ln, pr, gd, co, c, s) a b k).1 ∧
    o_colourOf (nx (o_colour (v, p, sh, ln, pr, gd, co, c, s) a b k) (v, p, sh, ln, pr, gd, co, c, s)) a b = k ∧
    MR (nx (o_colour (v, p, sh, ln, pr, gd, co, c, s) a b k) (v, p, sh, ln, pr, gd, co, c, s)) (nx (o_colour (v, p, sh, ln, pr, gd, co, c2, s2) (thZ v a) b (9 - k)) (v, p, sh, ln, pr, gd, co, c2, s2)) ∧
    (0 ≤ o_colourOf (v, p, sh, ln, pr, gd, co, c, s) a b ∧ o_colourOf (v, p, sh, ln, pr, gd, co, c, s) a b ≤ 9) := by
  obtain ⟨k1, k2, k3, k4, k5, k6, k7, k8⟩ := KW_p hK
  have e1 : thZ v a = v - 1 - a := if_neg (by omega)
  rw [e1]
  have i1 : colI c a b = c (a * 12 + b).toNat := if_pos (by omega)
  have i2 : colI c2 (v - 1 - a) b = 9 - colI c a b := by
    rw [i1]
    exact (if_pos (by omega)).trans (hc a b ha hb)
  have r9 := k6 (a * 12 + b).toNat (by omega)
  rw [← i1] at r9
  have f1 : o_colourOf (v, p, sh, ln, pr, gd, co, c, s) a b = colI c a b := if_neg (by omega)
  rw [f1]
  by_cases q : colI c a b = k
  · have g1 : o_colour (v, p, sh, ln, pr, gd, co, c, s) a b k = (-105, none) := (if_neg (by omega)).trans ((if_neg (by omega)).trans (if_pos q))
    have g2 : o_colour (v, p, sh, ln, pr, gd, co, c2, s2) (v - 1 - a) b (9 - k) = (-105, none) := (if_neg (by omega)).trans ((if_neg (by omega)).trans (if_pos (by omega)))
    rw [g1, g2, if_pos q]
    exact ⟨rfl, rfl, f1.trans q, ⟨⟨rfl, rfl, rfl, rfl, rfl, rfl, rfl⟩, hc, hm⟩, r9⟩
  · have g1 : o_colour (v, p, sh, ln, pr, gd, co, c, s) a b k = (colI c a b, some (v, p, sh, ln, pr, gd, co, updZ c (a * 12 + b).toNat k, s)) := (if_neg (by omega)).trans ((if_neg (by omega)).trans (if_neg q))
    have g2 : o_colour (v, p, sh, ln, pr, gd, co, c2, s2) (v - 1 - a) b (9 - k) = (colI c2 (v - 1 - a) b, some (v, p, sh, ln, pr, gd, co, updZ c2 ((v - 1 - a) * 12 + b).toNat (9 - k), s2)) := (if_neg (by omega)).trans ((if_neg (by omega)).trans (if_neg (by omega)))
    rw [g1, g2, if_neg q]
    refine ⟨rfl, ?_, ?_, ⟨⟨rfl, rfl, rfl, rfl, rfl, rfl, rfl⟩, fun x y hx hy => ?_, hm⟩, r9⟩
    · show colI c2 (v - 1 - a) b = coZ (colI c a b)
      unfold coZ
      rw [if_neg (by omega), i2]
    · show (if ¬ ((0 ≤ a ∧ a ≤ v - 1) ∧ (0 ≤ b ∧ b ≤ 11)) then -101 else colI (updZ c (a * 12 + b).toNat k) a b) = k
      rw [if_neg (by omega)]
      exact (if_pos (by omega)).trans (if_pos rfl)
    · rw [upd_at, upd_at]
      by_cases q2 : x = a ∧ y = b
      · obtain ⟨rfl, rfl⟩ := q2
        rw [if_pos rfl, if_pos rfl]
      · rw [if_neg (by omega), if_neg (by omega), hc x y hx hy]
theorem mx_at {a b x y : Int} (ha : 0 ≤ a) (hb : 0 ≤ b) (hx : 0 ≤ x) (hy : 0 ≤ y ∧ y ≤ 11) : exF a b 12 c (x * 12 + y).toNat = c ((if x = a then b else if x = b then a else x) * 12 + y).toNat := by
  unfold exF
  rw [tn (by omega)]
  by_cases q : x = a
  · rw [if_pos (by omega), if_pos q, q]
    congr 2
    omega
  · rw [if_neg (by omega), if_neg q]
    by_cases q2 : x = b
    · rw [if_pos (by omega), if_pos q2, q2]
      congr 2
      omega
    · rw [if_neg (by omega), if_neg q2]
theorem m_swap (hK : KW (v, p, sh, ln, pr, gd, co, c, s)) (hc : MC v c c2) (hm : MS v p s s2) {a b : Int} (ha : 0 ≤ a ∧ a < v) (hb : 0 ≤ b ∧ b < v) :
    (o_swap (v, p, sh, ln, pr, gd, co, c2, s2) (thZ v a) (thZ v b)).1 = (o_swap (v, p, sh, ln, pr, gd, co, c, s) a b).1 ∧
    MR (nx (o_swap (v, p, sh, ln, pr, gd, co, c, s) a b) (v, p, sh, ln, pr, gd, co, c, s)) (nx (o_swap (v, p, sh, ln, pr, gd, co, c2, s2) (thZ v a) (thZ v b)) (v, p, sh, ln, pr, gd, co, c2, s2)) ∧
    (-105 ≤ (o_swap (v, p, sh, ln, pr, gd, co, c, s) a b).1 ∧ (o_swap (v, p, sh, ln, pr, gd, co, c, s) a b).1 ≤ 12) := by
  obtain ⟨k1, k2, k3, k4, k5, k6, k7, k8⟩ := KW_p hK
  have e1 : thZ v a = v - 1 - a := if_neg (by omega)
  have e2 : thZ v b = v - 1 - b := if_neg (by omega)
  rw [e1, e2]
  by_cases q : a = b
  · have g1 : o_swap (v, p, sh, ln, pr, gd, co, c, s) a b = (-105, none) := (if_neg (by omega)).trans (if_pos q)
    have g2 : o_swap (v, p, sh, ln, pr, gd, co, c2, s2) (v - 1 - a) (v - 1 - b) = (-105, none) := (if_neg (by omega)).trans (if_pos (by omega))
    rw [g1, g2]
    exact ⟨rfl, ⟨⟨rfl, rfl, rfl, rfl, rfl, rfl, rfl⟩, hc, hm⟩, by decide, by decide⟩
  · have g1 : o_swap (v, p, sh, ln, pr, gd, co, c, s) a b = (sm 12 (unF a b c), some (v, p, sh, ln, pr, gd, co, exF a b 12 c, s)) := (if_neg (by omega)).trans (if_neg q)
    have g2 : o_swap (v, p, sh, ln, pr, gd, co, c2, s2) (v - 1 - a) (v - 1 - b) = (sm 12 (unF (v - 1 - a) (v - 1 - b) c2), some (v, p, sh, ln, pr, gd, co, exF (v - 1 - a) (v - 1 - b) 12 c2, s2)) := (if_neg (by omega)).trans (if_neg (by omega))
    rw [g1, g2]
    refine ⟨?_, ⟨⟨rfl, rfl, rfl, rfl, rfl, rfl, rfl⟩, fun x y hx hy => ?_, hm⟩, ?_⟩
    · show sm 12 (unF (v - 1 - a) (v - 1 - b) c2) = sm 12 (unF a b c)
      refine sm_congr (fun j hj => bz_iff ?_)
      rw [hc a j ha (by omega), hc b j hb (by omega)]
      omega
    · rw [mx_at (by omega) (by omega) (by omega) hy, mx_at (by omega) (by omega) (by omega) hy]
      by_cases q1 : x = a
      · rw [if_pos (by omega), if_pos q1, hc b y hb hy]
      · rw [if_neg (by omega), if_neg q1]
        by_cases q2 : x = b
        · rw [if_pos (by omega), if_pos q2, hc a y ha hy]
        · rw [if_neg (by omega), if_neg q2, hc x y hx hy]
    · have := sm_rg (n := 12) (f := unF a b c) (L := 0) (H := 1) (fun j _ => bz_rg)
      show -105 ≤ sm 12 (unF a b c) ∧ sm 12 (unF a b c) ≤ 12
      omega
theorem m_pitch (hK : KW (v, p, sh, ln, pr, gd, co, c, s)) (hc : MC v c c2) {a : Int} (ha : 2 ≤ a ∧ a ≤ 6) :
    (o_setPitch (v, p, sh, ln, pr, gd, co, c2, s2) a).1 = (o_setPitch (v, p, sh, ln, pr, gd, co, c, s) a).1 ∧
    PR (nx (o_setPitch (v, p, sh, ln, pr, gd, co, c, s) a) (v, p, sh, ln, pr, gd, co, c, s)) (nx (o_setPitch (v, p, sh, ln, pr, gd, co, c2, s2) a) (v, p, sh, ln, pr, gd, co, c2, s2)) ∧
    (nx (o_setPitch (v, p, sh, ln, pr, gd, co, c, s) a) (v, p, sh, ln, pr, gd, co, c, s)).2.1 = a ∧
    (-105 ≤ (o_setPitch (v, p, sh, ln, pr, gd, co, c, s) a).1 ∧ (o_setPitch (v, p, sh, ln, pr, gd, co, c, s) a).1 ≤ 12) := by
  obtain ⟨k1, k2, k3, k4, k5, k6, k7, k8⟩ := KW_p hK
  by_cases q : p = a
  · have g1 : o_setPitch (v, p, sh, ln, pr, gd, co, c, s) a = (-105, none) := (if_neg (by omega)).trans (if_pos q)
    have g2 : o_setPitch (v, p, sh, ln, pr, gd, co, c2, s2) a = (-105, none) := (if_neg (by omega)).trans (if_pos q)
    rw [g1, g2]
    exact ⟨rfl, ⟨⟨rfl, rfl, rfl, rfl, rfl, rfl, rfl⟩, hc⟩, q, by decide, by decide⟩
  · have g1 : o_setPitch (v, p, sh, ln, pr, gd, co, c, s) a = (p, some (v, a, sh, ln, pr, gd, co, c, preF 6 (inT v) s)) := (if_neg (by omega)).trans (if_neg q)
    have g2 : o_setPitch (v, p, sh, ln, pr, gd, co, c2, s2) a = (p, some (v, a, sh, ln, pr, gd, co, c2, preF 6 (inT v) s2)) := (if_neg (by omega)).trans (if_neg q)
    rw [g1, g2]
    exact ⟨rfl, ⟨⟨rfl, rfl, rfl, rfl, rfl, rfl, rfl⟩, hc⟩, rfl, (show -105 ≤ p by omega), (show p ≤ 12 by omega)⟩
theorem m_slice (hK : KW (v, p, sh, ln, pr, gd, co, c, s)) (hc : MC v c c2) (hm : MS v p s s2) {a k : Int} (ha : 0 ≤ a ∧ a < p) (hk : 0 ≤ k ∧ k < v) :
    (o_slice (v, p, sh, ln, pr, gd, co, c, s) a k).1 = (if o_viewOf (v, p, sh, ln, pr, gd, co, c, s) a = k then -105 else o_viewOf (v, p, sh, ln, pr, gd, co, c, s) a) ∧
    (o_slice (v, p, sh, ln, pr, gd, co, c2, s2) a (thZ v k)).1 = (if (o_slice (v, p, sh, ln, pr, gd, co, c, s) a k).1 < 0 then (o_slice (v, p, sh, ln, pr, gd, co, c, s) a k).1 else thZ v (o_slice (v, p, sh, ln, pr, gd, co, c, s) a k).1) ∧
    MR (nx (o_slice (v, p, sh, ln, pr, gd, co, c, s) a k) (v, p, sh, ln, pr, gd, co, c, s)) (nx (o_slice (v, p, sh, ln, pr, gd, co, c2, s2) a (thZ v k)) (v, p, sh, ln, pr, gd, co, c2, s2)) ∧
    o_count (nx (o_slice (v, p, sh, ln, pr, gd, co, c, s) a k) (v, p, sh, ln, pr, gd, co, c, s)) 0 0 4 = o_ifSlice (v, p, sh, ln, pr, gd, co, c, s) a k ∧
    (0 ≤ o_viewOf (v, p, sh, ln, pr, gd, co, c, s) a ∧ o_viewOf (v, p, sh, ln, pr, gd, co, c, s) a < v) ∧
    (nx (o_slice (v, p, sh, ln, pr, gd, co, c, s) a k) (v, p, sh, ln, pr, gd, co, c, s)).1 = v := by
  obtain ⟨k1, k2, k3, k4, k5, k6, k7, k8⟩ := KW_p hK
  have e1 : thZ v k = v - 1 - k := if_neg (by omega)
  rw [e1]
  have i1 : sD s a = s a.toNat := if_pos (by omega)
  have r1 := k5 a.toNat (by omega)
  have i2 : sD s2 a = v - 1 - sD s a := by
    rw [i1]
    exact (if_pos (by omega)).trans (hm a.toNat (by omega))
  rw [← i1] at r1
  have f1 : o_viewOf (v, p, sh, ln, pr, gd, co, c, s) a = sD s a := if_neg (by omega)
  have f2 : o_ifSlice (v, p, sh, ln, pr, gd, co, c, s) a k = GA p sh ln (updZ s a.toNat k) := if_neg (by omega)
  rw [f1, f2]
  by_cases q : sD s a = k
  · have g1 : o_slice (v, p, sh, ln, pr, gd, co, c, s) a k = (-105, none) := (if_neg (by omega)).trans (if_pos q)
    have g2 : o_slice (v, p, sh, ln, pr, gd, co, c2, s2) a (v - 1 - k) = (-105, none) := (if_neg (by omega)).trans (if_pos (by omega))
    rw [g1, g2, if_pos q]
    refine ⟨rfl, rfl, ⟨⟨rfl, rfl, rfl, rfl, rfl, rfl, rfl⟩, hc, hm⟩, ?_, r1, rfl⟩
    show GA p sh ln s = _
    refine GA_s k2 (fun j hj => ?_)
    rw [upd_at]
    by_cases q2 : j = a.toNat
    · rw [if_pos q2, q2, ← i1, q]
    · rw [if_neg q2]
  · have g1 : o_slice (v, p, sh, ln, pr, gd, co, c, s) a k = (sD s a, some (v, p, sh, ln, pr, gd, co, c, updZ s a.toNat k)) := (if_neg (by omega)).trans (if_neg q)
    have g2 : o_slice (v, p, sh, ln, pr, gd, co, c2, s2) a (v - 1 - k) = (sD s2 a, some (v, p, sh, ln, pr, gd, co, c2, updZ s2 a.toNat (v - 1 - k))) := (if_neg (by omega)).trans (if_neg (by omega))
    rw [g1, g2, if_neg q]
    refine ⟨rfl, ?_, ⟨⟨rfl, rfl, rfl, rfl, rfl, rfl, rfl⟩, hc, fun j hj => ?_⟩, rfl, r1, rfl⟩
    · show sD s2 a = (if sD s a < 0 then sD s a else thZ v (sD s a))
      rw [if_neg (by omega), i2]
      exact (if_neg (by omega)).symm
    · rw [upd_at, upd_at]
      by_cases q2 : j = a.toNat
      · rw [if_pos q2, if_pos q2]
      · rw [if_neg q2, if_neg q2, hm j hj]
theorem m_shift (hK : KW (v, p, sh, ln, pr, gd, co, c, s)) (hc : MC v c c2) (hm : MS v p s s2) {a : Int} (ha : -3 ≤ a ∧ a ≤ 3) :
    (o_setShift (v, p, sh, ln, pr, gd, co, c2, s2) a).1 = (o_setShift (v, p, sh, ln, pr, gd, co, c, s) a).1 ∧
    MR (nx (o_setShift (v, p, sh, ln, pr, gd, co, c, s) a) (v, p, sh, ln, pr, gd, co, c, s)) (nx (o_setShift (v, p, sh, ln, pr, gd, co, c2, s2) a) (v, p, sh, ln, pr, gd, co, c2, s2)) ∧
    (nx (o_setShift (v, p, sh, ln, pr, gd, co, c, s) a) (v, p, sh, ln, pr, gd, co, c, s)).2.2.1 = a ∧
    (-105 ≤ (o_setShift (v, p, sh, ln, pr, gd, co, c, s) a).1 ∧ (o_setShift (v, p, sh, ln, pr, gd, co, c, s) a).1 ≤ 12) := by
  obtain ⟨k1, k2, k3, k4, k5, k6, k7, k8⟩ := KW_p hK
  by_cases q : sh = a
  · have g1 : o_setShift (v, p, sh, ln, pr, gd, co, c, s) a = (-105, none) := (if_neg (by omega)).trans (if_pos q)
    have g2 : o_setShift (v, p, sh, ln, pr, gd, co, c2, s2) a = (-105, none) := (if_neg (by omega)).trans (if_pos q)
    rw [g1, g2]
    exact ⟨rfl, ⟨⟨rfl, rfl, rfl, rfl, rfl, rfl, rfl⟩, hc, hm⟩, q, by decide, by decide⟩
  · have g1 : o_setShift (v, p, sh, ln, pr, gd, co, c, s) a = (sh, some (v, p, a, ln, pr, gd, co, c, s)) := (if_neg (by omega)).trans (if_neg q)
    have g2 : o_setShift (v, p, sh, ln, pr, gd, co, c2, s2) a = (sh, some (v, p, a, ln, pr, gd, co, c2, s2)) := (if_neg (by omega)).trans (if_neg q)
    rw [g1, g2]
    exact ⟨rfl, ⟨⟨rfl, rfl, rfl, rfl, rfl, rfl, rfl⟩, hc, hm⟩, rfl, (show -105 ≤ sh by omega), (show sh ≤ 12 by omega)⟩
theorem m_lean (hK : KW (v, p, sh, ln, pr, gd, co, c, s)) (hc : MC v c c2) (hm : MS v p s s2) {a : Int} (ha : 0 ≤ a ∧ a ≤ 3) :
    (o_setLean (v, p, sh, ln, pr, gd, co, c2, s2) a).1 = (o_setLean (v, p, sh, ln, pr, gd, co, c, s) a).1 ∧
    MR (nx (o_setLean (v, p, sh, ln, pr, gd, co, c, s) a) (v, p, sh, ln, pr, gd, co, c, s)) (nx (o_setLean (v, p, sh, ln, pr, gd, co, c2, s2) a) (v, p, sh, ln, pr, gd, co, c2, s2)) ∧
    (nx (o_setLean (v, p, sh, ln, pr, gd, co, c, s) a) (v, p, sh, ln, pr, gd, co, c, s)).2.2.2.1 = a ∧
    (-105 ≤ (o_setLean (v, p, sh, ln, pr, gd, co, c, s) a).1 ∧ (o_setLean (v, p, sh, ln, pr, gd, co, c, s) a).1 ≤ 12) := by
  obtain ⟨k1, k2, k3, k4, k5, k6, k7, k8⟩ := KW_p hK
  by_cases q : ln = a
  · have g1 : o_setLean (v, p, sh, ln, pr, gd, co, c, s) a = (-105, none) := (if_neg (by omega)).trans (if_pos q)
    have g2 : o_setLean (v, p, sh, ln, pr, gd, co, c2, s2) a = (-105, none) := (if_neg (by omega)).trans (if_pos q)
    rw [g1, g2]
    exact ⟨rfl, ⟨⟨rfl, rfl, rfl, rfl, rfl, rfl, rfl⟩, hc, hm⟩, q, by decide, by decide⟩
  · have g1 : o_setLean (v, p, sh, ln, pr, gd, co, c, s) a = (ln, some (v, p, sh, a, pr, gd, co, c, s)) := (if_neg (by omega)).trans (if_neg q)
    have g2 : o_setLean (v, p, sh, ln, pr, gd, co, c2, s2) a = (ln, some (v, p, sh, a, pr, gd, co, c2, s2)) := (if_neg (by omega)).trans (if_neg q)
    rw [g1, g2]
    exact ⟨rfl, ⟨⟨rfl, rfl, rfl, rfl, rfl, rfl, rfl⟩, hc, hm⟩, rfl, (show -105 ≤ ln by omega), (show ln ≤ 12 by omega)⟩
theorem m_press (hK : KW (v, p, sh, ln, pr, gd, co, c, s)) (hc : MC v c c2) (hm : MS v p s s2) {a : Int} (ha : 1 ≤ a ∧ a ≤ 999) :
    (o_press (v, p, sh, ln, pr, gd, co, c2, s2) a).1 = (o_press (v, p, sh, ln, pr, gd, co, c, s) a).1 ∧
    MR (nx (o_press (v, p, sh, ln, pr, gd, co, c, s) a) (v, p, sh, ln, pr, gd, co, c, s)) (nx (o_press (v, p, sh, ln, pr, gd, co, c2, s2) a) (v, p, sh, ln, pr, gd, co, c2, s2)) ∧
    ((o_press (v, p, sh, ln, pr, gd, co, c, s) a).1 < 0 ∨ (o_press (v, p, sh, ln, pr, gd, co, c, s) a).1 = (if o_count (nx (o_press (v, p, sh, ln, pr, gd, co, c, s) a) (v, p, sh, ln, pr, gd, co, c, s)) 0 0 6 = v then a else 0)) ∧
    (-105 ≤ (o_press (v, p, sh, ln, pr, gd, co, c, s) a).1 ∧ (o_press (v, p, sh, ln, pr, gd, co, c, s) a).1 ≤ 999) ∧
    (0 ≤ o_count (nx (o_press (v, p, sh, ln, pr, gd, co, c, s) a) (v, p, sh, ln, pr, gd, co, c, s)) 0 0 6 ∧ o_count (nx (o_press (v, p, sh, ln, pr, gd, co, c, s) a) (v, p, sh, ln, pr, gd, co, c, s)) 0 0 6 ≤ 4) := by
  obtain ⟨k1, k2, k3, k4, k5, k6, k7, k8⟩ := KW_p hK
  have hw := wvF_mi (sh := sh) (ln := ln) k1 k2 k5 hm (cnA p 19)
  have hr : 0 ≤ wvF p v s (ssF p sh ln) (cnA p 19) ∧ wvF p v s (ssF p sh ln) (cnA p 19) ≤ 4 := by
    have := sm_rg (n := v.toNat) (f := fun x => bz (0 < asF p s (ssF p sh ln) (cnA p 19) (x : Int))) (L := 0) (H := 1) (fun j _ => bz_rg)
    unfold wvF
    omega
  by_cases q : 99999 < pr + a
  · have g1 : o_press (v, p, sh, ln, pr, gd, co, c, s) a = (-103, none) := (if_neg (by omega)).trans (if_pos q)
    have g2 : o_press (v, p, sh, ln, pr, gd, co, c2, s2) a = (-103, none) := (if_neg (by omega)).trans (if_pos q)
    rw [g1, g2]
    exact ⟨rfl, ⟨⟨rfl, rfl, rfl, rfl, rfl, rfl, rfl⟩, hc, hm⟩, Or.inl (by decide), ⟨by decide, by decide⟩, hr⟩
  · by_cases q2 : wvF p v s (ssF p sh ln) (cnA p 19) = v
    · have g1 : o_press (v, p, sh, ln, pr, gd, co, c, s) a = (a, some (v, p, sh, ln, pr + a, gd + a, co + a * (3 + p), c, s)) := (if_neg (by omega)).trans ((if_neg q).trans (if_pos q2))
      have g2 : o_press (v, p, sh, ln, pr, gd, co, c2, s2) a = (a, some (v, p, sh, ln, pr + a, gd + a, co + a * (3 + p), c2, s2)) := (if_neg (by omega)).trans ((if_neg q).trans (if_pos (by rw [hw]; exact q2)))
      rw [g1, g2]
      exact ⟨rfl, ⟨⟨rfl, rfl, rfl, rfl, rfl, rfl, rfl⟩, hc, hm⟩, Or.inr (if_pos q2).symm, ⟨(show -105 ≤ a by omega), (show a ≤ 999 by omega)⟩, hr⟩
    · have g1 : o_press (v, p, sh, ln, pr, gd, co, c, s) a = (0, some (v, p, sh, ln, pr + a, gd + 0, co + a * (3 + p), c, s)) := (if_neg (by omega)).trans ((if_neg q).trans (if_neg q2))
      have g2 : o_press (v, p, sh, ln, pr, gd, co, c2, s2) a = (0, some (v, p, sh, ln, pr + a, gd + 0, co + a * (3 + p), c2, s2)) := (if_neg (by omega)).trans ((if_neg q).trans (if_neg (by rw [hw]; exact q2)))
      rw [g1, g2]
      exact ⟨rfl, ⟨⟨rfl, rfl, rfl, rfl, rfl, rfl, rfl⟩, hc, hm⟩, Or.inr (if_neg q2).symm, ⟨show -105 ≤ (0 : Int) by decide, show (0 : Int) ≤ 999 by decide⟩, hr⟩
theorem rg_at {a n x y : Int} (ha : 0 ≤ a) (hn : 0 ≤ n) (hx : 0 ≤ x) (hy : 0 ≤ y ∧ y ≤ 11) : rgF (a * 12) (n * 12) (fun j => c (j + 12)) c (x * 12 + y).toNat = c ((if a ≤ x ∧ x < a + n then x + 1 else x) * 12 + y).toNat := by
  unfold rgF
  rw [tn (by omega)]
  by_cases q : a ≤ x ∧ x < a + n
  · rw [if_pos (by omega), if_pos q]
    show c ((x * 12 + y).toNat + 12) = c ((x + 1) * 12 + y).toNat
    congr 1
    omega
  · rw [if_neg (by omega), if_neg q]
theorem m_remove (hK : KW (v, p, sh, ln, pr, gd, co, c, s)) (hc : MC v c c2) {a : Int} (ha : 0 ≤ a ∧ a < v) (h2 : v ≠ 2) :
    (o_removeView (v, p, sh, ln, pr, gd, co, c, s) a).1 = v - 1 ∧ (o_removeView (v, p, sh, ln, pr, gd, co, c2, s2) (thZ v a)).1 = v - 1 ∧
    PR (nx (o_removeView (v, p, sh, ln, pr, gd, co, c, s) a) (v, p, sh, ln, pr, gd, co, c, s)) (nx (o_removeView (v, p, sh, ln, pr, gd, co, c2, s2) (thZ v a)) (v, p, sh, ln, pr, gd, co, c2, s2)) := by
  obtain ⟨k1, k2, k3, k4, k5, k6, k7, k8⟩ := KW_p hK
  have e1 : thZ v a = v - 1 - a := if_neg (by omega)
  rw [e1]
  have g1 : o_removeView (v, p, sh, ln, pr, gd, co, c, s) a = (v - 1, some (v - 1, p, sh, ln, pr, gd, co, rgF (a * 12) ((v - 1 - a) * 12) (fun j => c (j + 12)) c, preF 6 (inT (v - 1)) s)) := (if_neg (by omega)).trans (if_neg (by omega))
  have g2 : o_removeView (v, p, sh, ln, pr, gd, co, c2, s2) (v - 1 - a) = (v - 1, some (v - 1, p, sh, ln, pr, gd, co, rgF ((v - 1 - a) * 12) ((v - 1 - (v - 1 - a)) * 12) (fun j => c2 (j + 12)) c2, preF 6 (inT (v - 1)) s2)) := (if_neg (by omega)).trans (if_neg (by omega))
  rw [g1, g2]
  refine ⟨rfl, rfl, ⟨rfl, rfl, rfl, rfl, rfl, rfl, rfl⟩, fun x y hx hy => ?_⟩
  rw [rg_at (by omega) (by omega) (by omega) hy, rg_at (by omega) (by omega) (by omega) hy]
  by_cases q : x < a
  · rw [if_pos (by omega), if_neg (by omega), show v - 1 - 1 - x + 1 = v - 1 - x by omega, hc x y (by omega) hy]
  · rw [if_neg (by omega), if_pos (by omega), show v - 1 - 1 - x = v - 1 - (x + 1) by omega, hc (x + 1) y (by omega) hy]
theorem bs_rg (G : Int → Int) : -3 ≤ (sbF G 3).1 ∧ (sbF G 3).1 ≤ 3 := by
  have st : ∀ (q : Int × Int) (x : Int), (-3 ≤ q.1 ∧ q.1 ≤ 3) → (-3 ≤ x ∧ x ≤ 3) → -3 ≤ (sbS G q x).1 ∧ (sbS G q x).1 ≤ 3 := fun q x h1 h2 => by
    unfold sbS
    split
    · exact h2
    · exact h1
  show -3 ≤ (sbS G (sbS G (sbS G (sbS G (sbS G (sbS G (0, G 0) (-(((0 : Nat) : Int) + 1))) (((0 : Nat) : Int) + 1)) (-(((1 : Nat) : Int) + 1))) (((1 : Nat) : Int) + 1)) (-(((2 : Nat) : Int) + 1))) (((2 : Nat) : Int) + 1)).1 ∧ _
  exact st _ _ (st _ _ (st _ _ (st _ _ (st _ _ (st _ _ ⟨by show -3 ≤ (0 : Int); omega, by show (0 : Int) ≤ 3; omega⟩ (by omega)) (by omega)) (by omega)) (by omega)) (by omega)) (by omega)
theorem m_best (hK : KW (v, p, sh, ln, pr, gd, co, c, s)) (hm : MS v p s s2) : bsZ (v, p, sh, ln, pr, gd, co, c2, s2) = bsZ (v, p, sh, ln, pr, gd, co, c, s) := by
  obtain ⟨k1, k2, k3, k4, k5, k6, k7, k8⟩ := KW_p hK
  unfold bsZ
  rw [show (fun x => GA p x ln s2) = (fun x => GA p x ln s) from funext (fun x => GA_mi k1 k2 k5 hm x ln)]
end ACTM
