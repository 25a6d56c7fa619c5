/-! the class's own helpers: look, trials -/
theorem vS_fg {s f f2 : Nat → Int} {st r : Int} (h : f (st * 12 + r).toNat = f2 (st * 12 + r).toNat) : vS s f st r = vS s f2 st r := by
  unfold vS
  rw [h]
theorem ghF_fg {s f f2 : Nat → Int} {st : Int} (h : ∀ j : Nat, j < 72 → f j = f2 j) (hst : 0 ≤ st ∧ st < 6) : ghF s f st = ghF s f2 st := by
  unfold ghF
  refine sm_congr (fun r hr => bz_congr ?_)
  unfold ghC
  have e0 : vS s f st r = vS s f2 st r := vS_fg (h _ (by omega))
  have e1 : 0 < (r : Int) → vS s f st ((r : Int) - 1) = vS s f2 st ((r : Int) - 1) := fun q => vS_fg (h _ (by omega))
  have e2 : (r : Int) < 11 → vS s f st ((r : Int) + 1) = vS s f2 st ((r : Int) + 1) := fun q => vS_fg (h _ (by omega))
  rw [e0]
  constructor
  · rintro (⟨q1, q2⟩ | ⟨q1, q2⟩)
    · exact Or.inl ⟨q1, by rw [← e1 q1]; exact q2⟩
    · exact Or.inr ⟨q1, by rw [← e2 q1]; exact q2⟩
  · rintro (⟨q1, q2⟩ | ⟨q1, q2⟩)
    · exact Or.inl ⟨q1, by rw [e1 q1]; exact q2⟩
    · exact Or.inr ⟨q1, by rw [e2 q1]; exact q2⟩
theorem gaF_fg {p : Int} {s f f2 g g2 : Nat → Int} (hp : 2 ≤ p ∧ p ≤ 6) (h : ∀ j : Nat, j < 72 → f j = f2 j) (hg : ∀ j : Nat, j < 6 → g j = g2 j) : gaF p s f g = gaF p s f2 g2 := by
  unfold gaF
  refine sm_congr (fun st hst => ?_)
  rw [hg st (by omega), ghF_fg h (by omega)]
/-- the ghosts at all angles, of a card -/
def GA (p sh ln : Int) (s : Nat → Int) : Int := gaF p s (ssF p sh ln) (cnA p 19)
theorem GA_of {p sh ln : Int} {s f g : Nat → Int} (hp : 2 ≤ p ∧ p ≤ 6) : gaF p s (preF 72 (ssF p sh ln) f) (preF 6 (cnA p 19) g) = GA p sh ln s := gaF_fg hp (fun j hj => preF_lt (by omega)) (fun j hj => preF_lt (by omega))
theorem ssF_rg {p sh ln : Int} (hp : 2 ≤ p ∧ p ≤ 6) (f : Nat → Int) : ∀ j : Nat, j < 72 → -1 ≤ preF 72 (ssF p sh ln) f j ∧ preF 72 (ssF p sh ln) f j < p := by
  intro j hj
  rw [preF_lt (by omega)]
  have := slZ_rg (sh := sh) (r := (j : Int) % 12) (pl := plZ p ln ((j : Int) / 12) ((j : Int) % 12)) hp
  unfold ssF
  omega
theorem cnA_19 {p : Int} (g : Nat → Int) : ∀ j : Nat, j < 6 → 0 ≤ preF 6 (cnA p 19) g j ∧ preF 6 (cnA p 19) g j ≤ 19 := by
  intro j hj
  rw [preF_lt (by omega)]
  exact cnA_rg
theorem ss5 {p sh ln : Int} (hp : 2 ≤ p ∧ p ≤ 6) (f : Nat → Int) : ∀ j, j < 72 → -1 ≤ preF 72 (ssF p sh ln) f j ∧ preF 72 (ssF p sh ln) f j ≤ 5 := fun j hj => by
  have := ssF_rg (sh := sh) (ln := ln) hp f j hj
  omega
/-- the best order -/
def bestO (v p sh ln : Int) (b : Nat → Int) : Prop := Rg v p.toNat b ∧ cov v p b ∧ SR b ∧ ∀ x, Rg v p.toNat x → cov v p x → GA p sh ln b ≤ GA p sh ln x ∧ (lx p.toNat x b → GA p sh ln b < GA p sh ln x)
theorem bestO_of {v p sh ln : Int} {b f g : Nat → Int} (hp : 2 ≤ p ∧ p ≤ 6) (h : bestR v p (preF 72 (ssF p sh ln) f) (preF 6 (cnA p 19) g) b) : bestO v p sh ln b := by
  obtain ⟨h1, h2, h3, h4⟩ := h
  refine ⟨h1, h2, h3, fun x hx hcx => ?_⟩
  have h5 := h4 x hx hcx
  rw [GA_of hp, GA_of hp] at h5
  exact h5
theorem GA_rg {p sh ln : Int} (hp : 2 ≤ p ∧ p ≤ 6) (s : Nat → Int) : 0 ≤ GA p sh ln s ∧ GA p sh ln s ≤ 1368 := gaF_rg hp s _ (fun j hj => cnA_rg)

set_option maxHeartbeats 4000000 in
theorem c_look (w : av_W) (h33 : 33 ≤ w.1) (hs : Int) (hM : w.2.2 0 = maO hs) (v p sh ln pr gd co : Int) (c s : Nat → Int) (hC : Cd w 2 3 4 v p sh ln pr gd co c s) (hK : KR v p sh ln) (f g : Nat → Int) (hG : Sg w 2 1 5 6 f g) : fn MX4_look [.ref 0] w (some (.ref 1)) (w2W w 5 6 (arO 72 (preF 72 (ssF p sh ln) f)) (arO 6 (preF 6 (cnA p 19) g))) := by
  have m0 : 0 < w.1 := by omega
  obtain ⟨⟨m4, m4w⟩, -⟩ := id hG
  show rn MX4_look 0 [some (.ref 0)] [] w _
  refine r_aload_n (pc2 := 1) dX4_look_0 rfl rfl ?_
  refine r_getf (pc2 := 4) dX4_look_1 rfl fl_4_10 (by assumption) (by assumption) (by rfl) ?_
  refine r_callv_0 (pc2 := 7) dX4_look_4 rfl rs_4_228 rfl (by decide) rfl (Nat.le_of_ble_eq_true rfl) (Nat.le_of_ble_eq_true rfl) (by assumption) (by assumption) (c_aim w 2 3 4 v p sh ln pr gd co c s hC hK 1 5 6 f g hG (by unfold aps; decide)) (fun r_ w_ h_ => ?_)
  rw [h_.1, h_.2]
  clear h_ w_ r_
  refine ⟨rfl, ?_⟩
  have n0 : 0 < (w2W w 5 6 (arO 72 (preF 72 (ssF p sh ln) f)) (arO 6 (preF 6 (cnA p 19) g))).1 := m0
  have n0w : (w2W w 5 6 (arO 72 (preF 72 (ssF p sh ln) f)) (arO 6 (preF 6 (cnA p 19) g))).2.2 0 = maO hs := by rw [(agO_w2W (lo := 5) (hi := 7) _ _ (by omega)).2 0 (by omega)]; exact hM
  refine r_aload_n (pc2 := 8) dX4_look_7 rfl rfl ?_
  refine r_getf (pc2 := 11) dX4_look_8 rfl fl_4_10 (by assumption) (by assumption) (by rfl) ?_
  refine r_reta dX4_look_11 rfl ?_
  exact ⟨rfl, rfl⟩

set_option maxHeartbeats 4000000 in
theorem c_withShift (w : av_W) (h33 : 33 ≤ w.1) (hs : Int) (hM : w.2.2 0 = maO hs) (v p sh ln pr gd co : Int) (c s : Nat → Int) (hC : Cd w 8 9 10 v p sh ln pr gd co c s) (hK : KR v p sh ln) (hS : SR s) (f g : Nat → Int) (hG : Sg w 8 7 11 12 f g) (x : Int) (hx : -3 ≤ x ∧ x ≤ 3) : fn MX4_ghostsWithShift [.ref 0, .int (iN x)] w (some (.int (iN (GA p x ln s)))) (w2W (wst w 8 (cdO 9 10 v p x ln pr gd co)) 11 12 (arO 72 (preF 72 (ssF p x ln) f)) (arO 6 (preF 6 (cnA p 19) g))) := by
  have m0 : 0 < w.1 := by omega
  obtain ⟨⟨m7, m7w⟩, -⟩ := id hC
  have hK2 : KR v p x ln := ⟨hK.1, hK.2.1, hx, hK.2.2.2⟩
  have hC2 : Cd (wst w 8 (cdO 9 10 v p x ln pr gd co)) 8 9 10 v p x ln pr gd co c s := hC.obj v p x ln pr gd co
  have hG2 : Sg (wst w 8 (cdO 9 10 v p x ln pr gd co)) 8 7 11 12 f g := hG.ag (agO.wst (lo := 8) (hi := 9) _ (by omega)) (by omega) (by omega) (by omega)
  have hC3 := Cd_w2W hC2 (arO 72 (preF 72 (ssF p x ln) f)) (arO 6 (preF 6 (cnA p 19) g)) (ka := 11) (sb := 12) (by unfold aps; decide)
  have hG3 := hG2.set (preF 72 (ssF p x ln) f) (preF 6 (cnA p 19) g)
  obtain ⟨⟨m10, m10w⟩, -⟩ := id hG2
  obtain ⟨⟨n10, n10w⟩, -⟩ := id hG3
  have n0 : 0 < (wst w 8 (cdO 9 10 v p x ln pr gd co)).1 := m0
  have n0w : (wst w 8 (cdO 9 10 v p x ln pr gd co)).2.2 0 = maO hs := by rw [wst_ne (by decide)]; exact hM
  have k0 : 0 < (w2W (wst w 8 (cdO 9 10 v p x ln pr gd co)) 11 12 (arO 72 (preF 72 (ssF p x ln) f)) (arO 6 (preF 6 (cnA p 19) g))).1 := m0
  have k0w : (w2W (wst w 8 (cdO 9 10 v p x ln pr gd co)) 11 12 (arO 72 (preF 72 (ssF p x ln) f)) (arO 6 (preF 6 (cnA p 19) g))).2.2 0 = maO hs := by rw [(agO_w2W (lo := 11) (hi := 13) _ _ (by omega)).2 0 (by omega)]; exact n0w
  show rn MX4_ghostsWithShift 0 [some (.ref 0), some (.int (iN x))] [] w _
  refine r_aload_n (pc2 := 1) dX4_ghostsWithShift_0 rfl rfl ?_
  refine r_getf (pc2 := 4) dX4_ghostsWithShift_1 rfl fl_4_24 (by assumption) (by assumption) (by rfl) ?_
  refine r_iload_n (pc2 := 5) dX4_ghostsWithShift_4 rfl rfl ?_
  refine r_putf (pc2 := 8) dX4_ghostsWithShift_5 rfl fl_4_109 (by assumption) (by assumption) (by exact Nat.le_of_ble_eq_true rfl) (by rfl) (by rfl) (by rfl) ?_
  show rn _ _ _ _ (wst w 8 (cdO 9 10 v p x ln pr gd co)) _
  refine r_aload_n (pc2 := 9) dX4_ghostsWithShift_8 rfl rfl ?_
  refine r_getf (pc2 := 12) dX4_ghostsWithShift_9 rfl fl_4_21 (by assumption) (by assumption) (by rfl) ?_
  refine r_callv_0 (pc2 := 15) dX4_ghostsWithShift_12 rfl rs_4_228 rfl (by decide) rfl (Nat.le_of_ble_eq_true rfl) (Nat.le_of_ble_eq_true rfl) (by assumption) (by assumption) (c_aim _ 8 9 10 v p x ln pr gd co c s hC2 hK2 7 11 12 f g hG2 (by unfold aps; decide)) (fun r_ w_ h_ => ?_)
  rw [h_.1, h_.2]
  clear h_ w_ r_
  refine ⟨rfl, ?_⟩
  refine r_aload_n (pc2 := 16) dX4_ghostsWithShift_15 rfl rfl ?_
  refine r_getf (pc2 := 19) dX4_ghostsWithShift_16 rfl fl_4_21 (by assumption) (by assumption) (by rfl) ?_
  refine r_callv_0 (pc2 := 22) dX4_ghostsWithShift_19 rfl rs_4_130 rfl (by decide) rfl (Nat.le_of_ble_eq_true rfl) (Nat.le_of_ble_eq_true rfl) (by assumption) (by assumption) (c_ghostsAll _ 8 9 10 v p x ln pr gd co c s hC3 hK2 hS 7 11 12 _ _ hG3 (ss5 hK.2.1 f)) (fun r_ w_ h_ => ?_)
  rw [h_.1, h_.2]
  clear h_ w_ r_
  refine ⟨rfl, ?_⟩
  rw [GA_of hK.2.1]
  refine r_ret dX4_ghostsWithShift_22 rfl ?_
  exact ⟨rfl, rfl⟩
