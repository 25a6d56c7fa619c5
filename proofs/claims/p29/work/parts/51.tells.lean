/-! what both cards tell -/
section TLS
variable {v p sh ln pr gd co : Int} {c s c2 s2 : Nat → Int}
theorem at_0 {a : Int} (ha : -9 ≤ a ∧ a ≤ 9) : o_at (v, p, sh, ln, pr, gd, co, c, s) a 0 = ghF s (ssF p sh ln) (stZ p a) := (if_neg (by omega)).trans (if_pos rfl)
theorem at_1 {a : Int} (ha : -9 ≤ a ∧ a ≤ 9) : o_at (v, p, sh, ln, pr, gd, co, c, s) a 1 = nn (whF s (ssF p sh ln) (stZ p a)) := (if_neg (by omega)).trans ((if_neg (by omega)).trans (if_pos rfl))
theorem at_3 {a : Int} (ha : -9 ≤ a ∧ a ≤ 9) : o_at (v, p, sh, ln, pr, gd, co, c, s) a 3 = mxs v.toNat (fun x => rsF s (ssF p sh ln) (stZ p a) x) := ((if_neg (by omega)).trans ((if_neg (by omega)).trans ((if_neg (by omega)).trans ((if_neg (by omega)).trans (if_pos rfl))))).trans (at3_mx s (ssF p sh ln) (stZ p a) v.toNat)
theorem at_4 {a : Int} (ha : -9 ≤ a ∧ a ≤ 9) : o_at (v, p, sh, ln, pr, gd, co, c, s) a 4 = rsF s (ssF p sh ln) (stZ p a) (-1) := (if_neg (by omega)).trans ((if_neg (by omega)).trans ((if_neg (by omega)).trans ((if_neg (by omega)).trans ((if_neg (by omega)).trans (if_pos rfl)))))
theorem seen_0 {a b : Int} (ha : -9 ≤ a ∧ a ≤ 9) (hb : 0 ≤ b ∧ b ≤ 11) : o_seen (v, p, sh, ln, pr, gd, co, c, s) a b 0 = nn (sD s (slZ p sh b (plZ p ln (stZ p a) b))) := (if_neg (by omega)).trans (if_pos rfl)
theorem seen_1 {a b : Int} (ha : -9 ≤ a ∧ a ≤ 9) (hb : 0 ≤ b ∧ b ≤ 11) : o_seen (v, p, sh, ln, pr, gd, co, c, s) a b 1 = nn (colI c (sD s (slZ p sh b (plZ p ln (stZ p a) b))) (rdZ p sh b (plZ p ln (stZ p a) b))) := (if_neg (by omega)).trans ((if_neg (by omega)).trans (if_pos rfl))
theorem seen_2 {a b : Int} (ha : -9 ≤ a ∧ a ≤ 9) (hb : 0 ≤ b ∧ b ≤ 11) : o_seen (v, p, sh, ln, pr, gd, co, c, s) a b 2 = plZ p ln (stZ p a) b := (if_neg (by omega)).trans ((if_neg (by omega)).trans ((if_neg (by omega)).trans (if_pos rfl)))
theorem seen_3 {a b : Int} (ha : -9 ≤ a ∧ a ≤ 9) (hb : 0 ≤ b ∧ b ≤ 11) : o_seen (v, p, sh, ln, pr, gd, co, c, s) a b 3 = bz (ghC s (ssF p sh ln) (stZ p a) b) := (if_neg (by omega)).trans ((if_neg (by omega)).trans ((if_neg (by omega)).trans ((if_neg (by omega)).trans (if_pos rfl))))
theorem view_0 {a : Int} (ha : 0 ≤ a ∧ a ≤ v - 1) : o_view (v, p, sh, ln, pr, gd, co, c, s) a 0 = cnS p s a := (if_neg (by omega)).trans (if_pos rfl)
theorem view_1 {a : Int} (ha : 0 ≤ a ∧ a ≤ v - 1) : o_view (v, p, sh, ln, pr, gd, co, c, s) a 1 = asF p s (ssF p sh ln) (cnA p 19) a := (if_neg (by omega)).trans ((if_neg (by omega)).trans (if_pos rfl))
theorem view_2 {a : Int} (ha : 0 ≤ a ∧ a ≤ v - 1) : o_view (v, p, sh, ln, pr, gd, co, c, s) a 2 = (clF p s (ssF p sh ln) a 19).1 := (if_neg (by omega)).trans ((if_neg (by omega)).trans ((if_neg (by omega)).trans (if_pos rfl)))
theorem view_3 {a : Int} (ha : 0 ≤ a ∧ a ≤ v - 1) : o_view (v, p, sh, ln, pr, gd, co, c, s) a 3 = rsF s (ssF p sh ln) (stZ p (clF p s (ssF p sh ln) a 19).1) a := (if_neg (by omega)).trans ((if_neg (by omega)).trans ((if_neg (by omega)).trans ((if_neg (by omega)).trans (if_pos rfl))))
theorem nn_rg {x : Int} (hx : -1 ≤ x ∧ x ≤ 200) : -105 ≤ nn x ∧ nn x ≤ 200 := by
  unfold nn
  split <;> omega
theorem b_count (hv : 2 ≤ v ∧ v ≤ 4) (hp : 2 ≤ p ∧ p ≤ 6) (k5 : RS v p s) (hm : MS v p s s2) {k : Int} (hk : 0 ≤ k ∧ k ≤ 10) : o_count (v, p, sh, ln, pr, gd, co, c2, s2) 0 0 k = o_count (v, p, sh, ln, pr, gd, co, c, s) 0 0 k := by
  rcases (show k = 0 ∨ k = 1 ∨ k = 2 ∨ k = 3 ∨ k = 4 ∨ k = 5 ∨ k = 6 ∨ k = 7 ∨ k = 8 ∨ k = 9 ∨ k = 10 by omega) with rfl | rfl | rfl | rfl | rfl | rfl | rfl | rfl | rfl | rfl | rfl
  · rfl
  · rfl
  · rfl
  · rfl
  · show GA p sh ln s2 = GA p sh ln s
    exact GA_mi hv hp k5 hm sh ln
  · show 19 - asF p s2 (ssF p sh ln) (cnA p 19) (-1) = 19 - asF p s (ssF p sh ln) (cnA p 19) (-1)
    have e := asF_mi (sh := sh) (ln := ln) hv hp k5 hm (cnA p 19) (x := -1) (by omega)
    rw [mi_neg] at e
    rw [e]
  · show wvF p v s2 (ssF p sh ln) (cnA p 19) = wvF p v s (ssF p sh ln) (cnA p 19)
    exact wvF_mi hv hp k5 hm _
  · rfl
  · rfl
  · rfl
  · rfl
theorem b_viewOf (hv : 2 ≤ v ∧ v ≤ 4) (hp : 2 ≤ p ∧ p ≤ 6) (k5 : RS v p s) (hm : MS v p s s2) {k : Int} (hk : 0 ≤ k ∧ k < p) : o_viewOf (v, p, sh, ln, pr, gd, co, c2, s2) k = thZ v (o_viewOf (v, p, sh, ln, pr, gd, co, c, s) k) ∧ (0 ≤ o_viewOf (v, p, sh, ln, pr, gd, co, c, s) k ∧ o_viewOf (v, p, sh, ln, pr, gd, co, c, s) k < v) := by
  have e1 : o_viewOf (v, p, sh, ln, pr, gd, co, c, s) k = s k.toNat := (if_neg (by omega)).trans (if_pos (by omega))
  have e2 : o_viewOf (v, p, sh, ln, pr, gd, co, c2, s2) k = s2 k.toNat := (if_neg (by omega)).trans (if_pos (by omega))
  have r := k5 k.toNat (by omega)
  rw [e1, e2, hm k.toNat (by omega)]
  exact ⟨(if_neg (by omega)).symm, r⟩
theorem b_colourOf (hv : 2 ≤ v ∧ v ≤ 4) (k6 : ∀ j : Nat, j < 48 → 0 ≤ c j ∧ c j ≤ 9) (hc : MC v c c2) {a b : Int} (ha : 0 ≤ a ∧ a < v) (hb : 0 ≤ b ∧ b ≤ 11) : o_colourOf (v, p, sh, ln, pr, gd, co, c2, s2) (thZ v a) b = coZ (o_colourOf (v, p, sh, ln, pr, gd, co, c, s) a b) ∧ (0 ≤ o_colourOf (v, p, sh, ln, pr, gd, co, c, s) a b ∧ o_colourOf (v, p, sh, ln, pr, gd, co, c, s) a b ≤ 9) := by
  have e0 : thZ v a = v - 1 - a := if_neg (by omega)
  rw [e0]
  have e1 : o_colourOf (v, p, sh, ln, pr, gd, co, c, s) a b = c (a * 12 + b).toNat := (if_neg (by omega)).trans (if_pos (by omega))
  have e2 : o_colourOf (v, p, sh, ln, pr, gd, co, c2, s2) (v - 1 - a) b = c2 ((v - 1 - a) * 12 + b).toNat := (if_neg (by omega)).trans (if_pos (by omega))
  have r := k6 (a * 12 + b).toNat (by omega)
  rw [e1, e2, hc a b ha hb]
  exact ⟨(if_neg (by omega)).symm, r⟩
theorem b_at0 (hv : 2 ≤ v ∧ v ≤ 4) (hp : 2 ≤ p ∧ p ≤ 6) (k5 : RS v p s) (hm : MS v p s s2) {a : Int} (ha : -9 ≤ a ∧ a ≤ 9) : o_at (v, p, sh, ln, pr, gd, co, c2, s2) a 0 = o_at (v, p, sh, ln, pr, gd, co, c, s) a 0 := by
  rw [at_0 ha, at_0 ha, ghF_mi hv hp k5 hm]
theorem b_at1 (hv : 2 ≤ v ∧ v ≤ 4) (hp : 2 ≤ p ∧ p ≤ 6) (k5 : RS v p s) (hm : MS v p s s2) {a : Int} (ha : -9 ≤ a ∧ a ≤ 9) : o_at (v, p, sh, ln, pr, gd, co, c2, s2) a 1 = thZ v (o_at (v, p, sh, ln, pr, gd, co, c, s) a 1) ∧ (-105 ≤ o_at (v, p, sh, ln, pr, gd, co, c, s) a 1 ∧ o_at (v, p, sh, ln, pr, gd, co, c, s) a 1 ≤ 200) := by
  have r := whF_rgv (sh := sh) (ln := ln) hv hp k5 (stZ p a)
  rw [at_1 ha, at_1 ha, whF_mi hv hp k5 hm, th_nn r]
  exact ⟨rfl, nn_rg (by omega)⟩
theorem b_at3 (hv : 2 ≤ v ∧ v ≤ 4) (hp : 2 ≤ p ∧ p ≤ 6) (k5 : RS v p s) (hm : MS v p s s2) {a : Int} (ha : -9 ≤ a ∧ a ≤ 9) : o_at (v, p, sh, ln, pr, gd, co, c2, s2) a 3 = o_at (v, p, sh, ln, pr, gd, co, c, s) a 3 := by
  rw [at_3 ha, at_3 ha, mxs_mi hv hp k5 hm]
theorem b_at4 (hv : 2 ≤ v ∧ v ≤ 4) (hp : 2 ≤ p ∧ p ≤ 6) (k5 : RS v p s) (hm : MS v p s s2) {a : Int} (ha : -9 ≤ a ∧ a ≤ 9) : o_at (v, p, sh, ln, pr, gd, co, c2, s2) a 4 = o_at (v, p, sh, ln, pr, gd, co, c, s) a 4 := by
  have e := rsF_mi (sh := sh) (ln := ln) hv hp k5 hm (stZ p a) (x := -1) (by omega)
  rw [mi_neg] at e
  rw [at_4 ha, at_4 ha, e]
theorem b_seen0 (hv : 2 ≤ v ∧ v ≤ 4) (hp : 2 ≤ p ∧ p ≤ 6) (k5 : RS v p s) (hm : MS v p s s2) {a b : Int} (ha : -9 ≤ a ∧ a ≤ 9) (hb : 0 ≤ b ∧ b ≤ 11) : o_seen (v, p, sh, ln, pr, gd, co, c2, s2) a b 0 = thZ v (o_seen (v, p, sh, ln, pr, gd, co, c, s) a b 0) ∧ (-105 ≤ o_seen (v, p, sh, ln, pr, gd, co, c, s) a b 0 ∧ o_seen (v, p, sh, ln, pr, gd, co, c, s) a b 0 ≤ 200) := by
  have z := slZ_rg (sh := sh) (r := b) (pl := plZ p ln (stZ p a) b) hp
  have r := sD_rgv (s := s) (x := slZ p sh b (plZ p ln (stZ p a) b)) (show 0 ≤ v by omega) hp k5 (by omega)
  rw [seen_0 ha hb, seen_0 ha hb, sD_mi hp k5 hm (by omega), th_nn r]
  exact ⟨rfl, nn_rg (by omega)⟩
theorem b_seen1 (hv : 2 ≤ v ∧ v ≤ 4) (hp : 2 ≤ p ∧ p ≤ 6) (k5 : RS v p s) (k6 : ∀ j : Nat, j < 48 → 0 ≤ c j ∧ c j ≤ 9) (hc : MC v c c2) (hm : MS v p s s2) {a b : Int} (ha : -9 ≤ a ∧ a ≤ 9) (hb : 0 ≤ b ∧ b ≤ 11) : o_seen (v, p, sh, ln, pr, gd, co, c2, s2) a b 1 = coZ (o_seen (v, p, sh, ln, pr, gd, co, c, s) a b 1) ∧ (-105 ≤ o_seen (v, p, sh, ln, pr, gd, co, c, s) a b 1 ∧ o_seen (v, p, sh, ln, pr, gd, co, c, s) a b 1 ≤ 200) := by
  have z := slZ_rg (sh := sh) (r := b) (pl := plZ p ln (stZ p a) b) hp
  have z2 := rdZ_rg (sh := sh) (r := b) (pl := plZ p ln (stZ p a) b) hp
  have r := sD_rgv (s := s) (x := slZ p sh b (plZ p ln (stZ p a) b)) (show 0 ≤ v by omega) hp k5 (by omega)
  rw [seen_1 ha hb, seen_1 ha hb, sD_mi hp k5 hm (by omega), co_nn hv hc k6 r z2]
  have := colI_rg k6 (sD s (slZ p sh b (plZ p ln (stZ p a) b))) (rdZ p sh b (plZ p ln (stZ p a) b))
  exact ⟨rfl, nn_rg (by omega)⟩
theorem b_seen2 {a b : Int} (ha : -9 ≤ a ∧ a ≤ 9) (hb : 0 ≤ b ∧ b ≤ 11) : o_seen (v, p, sh, ln, pr, gd, co, c2, s2) a b 2 = o_seen (v, p, sh, ln, pr, gd, co, c, s) a b 2 := by
  rw [seen_2 ha hb, seen_2 ha hb]
theorem b_seen3 (hv : 2 ≤ v ∧ v ≤ 4) (hp : 2 ≤ p ∧ p ≤ 6) (k5 : RS v p s) (hm : MS v p s s2) {a b : Int} (ha : -9 ≤ a ∧ a ≤ 9) (hb : 0 ≤ b ∧ b ≤ 11) : o_seen (v, p, sh, ln, pr, gd, co, c2, s2) a b 3 = o_seen (v, p, sh, ln, pr, gd, co, c, s) a b 3 := by
  rw [seen_3 ha hb, seen_3 ha hb]
  exact bz_iff (ghC_mi hv hp k5 hm (stZ p a) b)
theorem b_view (hv : 2 ≤ v ∧ v ≤ 4) (hp : 2 ≤ p ∧ p ≤ 6) (k5 : RS v p s) (hm : MS v p s s2) {a k : Int} (ha : 0 ≤ a ∧ a < v) (hk : 0 ≤ k ∧ k ≤ 3) : o_view (v, p, sh, ln, pr, gd, co, c2, s2) (thZ v a) k = o_view (v, p, sh, ln, pr, gd, co, c, s) a k := by
  have e0 : thZ v a = v - 1 - a := if_neg (by omega)
  rw [e0]
  have e4 : ∀ st : Int, rsF s2 (ssF p sh ln) st (v - 1 - a) = rsF s (ssF p sh ln) st a := fun st => by
    have := rsF_mi (sh := sh) (ln := ln) hv hp k5 hm st (x := a) (by omega)
    rw [mi_of (by omega)] at this
    exact this
  rcases (show k = 0 ∨ k = 1 ∨ k = 2 ∨ k = 3 by omega) with rfl | rfl | rfl | rfl
  · rw [view_0 (by omega), view_0 (by omega), cnS_mi k5 hm]
  · have := asF_mi (sh := sh) (ln := ln) hv hp k5 hm (cnA p 19) (x := a) (by omega)
    rw [mi_of (by omega)] at this
    rw [view_1 (by omega), view_1 (by omega), this]
  · rw [view_2 (by omega), view_2 (by omega), clF_mi hv hp k5 hm ha]
  · rw [view_3 (by omega), view_3 (by omega), clF_mi hv hp k5 hm ha, e4]
end TLS
section RSM
variable {M : av_M} {pc pc2 : Nat} {ls : av_L} {st : List Value} {w : av_W} {P : Option Value → av_W → Prop}
theorem r_same {x : Int32} {off : Int} (d : decode M.2.1 pc = .ok (.if_icmp .ne off, 3)) (e : pc + 3 = pc2) (h : 0 ≤ (pc : Int) + off) (n : rn M pc2 ls st w P) : rn M pc ls (.int x :: .int x :: st) w P := by
  subst e
  refine rn_step d rfl rfl ?_ n
  show av_if2 (fun x y => ¬ x = y) off 3 pc ls (.int x :: .int x :: st) w = _
  unfold av_if2 av_ifs
  dsimp only
  rw [if_pos rfl]
  unfold av_tgt
  rw [if_pos h]
  show some (if ¬ x = x then _ else pc + 3, ls, st, w) = _
  rw [if_neg (fun q => q rfl)]
end RSM
