/-! the class's own helpers: look, trials -/
theorem vS_fg {s f f2 : Nat → Int} {st r : Int} (h : f (st * 12 + r).toNat = f2 (st * 12 + r).toNat) : vS s f st r = vS s f2 st r := by
  unfold vS
  rw [h]
theorem ghF_fg {s f f2 : Nat → Int} {st : Int} (h : ∀ j : Nat, j < 72 → f j = f2 j) (hst : 0 ≤ st ∧ st < 6) : ghF s f st = ghF s f2 st := by
  unfold ghF
  refine sm_congr (fun r hr => bz_congr ?_)
  unfold ghC
  have e0 : vS s f st r = vS s f2 st r := vS_fg (h _ (by omega))
  have e1 : 0 < (r : Int) → vS s f st ((r : Int) - 1) = vS s f2 st ((r : Int) - 1) := fun q => vS_fg (h _ (by omega))
  have e2 : (r : Int) < 11 → vS s f st ((r : Int) + 1) = vS s f2 st ((r : Int) + 1) := fun q => vS_fg (h _ (by omega))
  rw [e0]
  constructor
  · rintro (⟨q1, q2⟩ | ⟨q1, q2⟩)
    · exact Or.inl ⟨q1, by rw [← e1 q1]; exact q2⟩
    · exact Or.inr ⟨q1, by rw [← e2 q1]; exact q2⟩
  · rintro (⟨q1, q2⟩ | ⟨q1, q2⟩)
    · exact Or.inl ⟨q1, by rw [e1 q1]; exact q2⟩
    · exact Or.inr ⟨q1, by rw [e2 q1]; exact q2⟩
theorem gaF_fg {p : Int} {s f f2 g g2 : Nat → Int} (hp : 2 ≤ p ∧ p ≤ 6) (h : ∀ j : Nat, j < 72 → f j = f2 j) (hg : ∀ j : Nat, j < 6 → g j = g2 j) : gaF p s f g = gaF p s f2 g2 := by
  unfold gaF
  refine sm_congr (fun st hst => ?_)
  rw [hg st (by omega), ghF_fg h (by omega)]
/-- the ghosts at all angles, of a card -/
def GA (p sh ln : Int) (s : Nat → Int) : Int := gaF p s (ssF p sh ln) (cnA p 19)
theorem GA_of {p sh ln : Int} {s f g : Nat → Int} (hp : 2 ≤ p ∧ p ≤ 6) : gaF p s (preF 72 (ssF p sh ln) f) (preF 6 (cnA p 19) g) = GA p sh ln s := gaF_fg hp (fun j hj => preF_lt (by omega)) (fun j hj => preF_lt (by omega))
theorem ssF_rg {p sh ln : Int} (hp : 2 ≤ p ∧ p ≤ 6) (f : Nat → Int) : ∀ j : Nat, j < 72 → -1 ≤ preF 72 (ssF p sh ln) f j ∧ preF 72 (ssF p sh ln) f j < p := by
  intro j hj
  rw [preF_lt (by omega)]
  have := slZ_rg (sh := sh) (r := (j : Int) % 12) (pl := plZ p ln ((j : Int) / 12) ((j : Int) % 12)) hp
  unfold ssF
  omega
theorem cnA_19 {p : Int} (g : Nat → Int) : ∀ j : Nat, j < 6 → 0 ≤ preF 6 (cnA p 19) g j ∧ preF 6 (cnA p 19) g j ≤ 19 := by
  intro j hj
  rw [preF_lt (by omega)]
  exact cnA_rg
theorem ss5 {p sh ln : Int} (hp : 2 ≤ p ∧ p ≤ 6) (f : Nat → Int) : ∀ j, j < 72 → -1 ≤ preF 72 (ssF p sh ln) f j ∧ preF 72 (ssF p sh ln) f j ≤ 5 := fun j hj => by
  have := ssF_rg (sh := sh) (ln := ln) hp f j hj
  omega
/-- the best order -/
def bestO (v p sh ln : Int) (b : Nat → Int) : Prop := Rg v p.toNat b ∧ cov v p b ∧ SR b ∧ ∀ x, Rg v p.toNat x → cov v p x → GA p sh ln b ≤ GA p sh ln x ∧ (lx p.toNat x b → GA p sh ln b < GA p sh ln x)
theorem bestO_of {v p sh ln : Int} {b f g : Nat → Int} (hp : 2 ≤ p ∧ p ≤ 6) (h : bestR v p (preF 72 (ssF p sh ln) f) (preF 6 (cnA p 19) g) b) : bestO v p sh ln b := by
  obtain ⟨h1, h2, h3, h4⟩ := h
  refine ⟨h1, h2, h3, fun x hx hcx => ?_⟩
  have h5 := h4 x hx hcx
  rw [GA_of hp, GA_of hp] at h5
  exact h5
theorem GA_rg {p sh ln : Int} (hp : 2 ≤ p ∧ p ≤ 6) (s : Nat → Int) : 0 ≤ GA p sh ln s ∧ GA p sh ln s ≤ 1368 := gaF_rg hp s _ (fun j hj => cnA_rg)

set_option maxHeartbeats 4000000 in
theorem c_look (w : av_W) (h33 : 33 ≤ w.1) (hs : Int) (hM : w.2.2 0 = maO hs) (v p sh ln pr gd co : Int) (c s : Nat → Int) (hC : Cd w 2 3 4 v p sh ln pr gd co c s) (hK : KR v p sh ln) (f g : Nat → Int) (hG : Sg w 2 1 5 6 f g) : fn MX4_look [.ref 0] w (some (.ref 1)) (w2W w 5 6 (arO 72 (preF 72 (ssF p sh ln) f)) (arO 6 (preF 6 (cnA p 19) g))) := by
  have m0 : 0 < w.1 := by omega
  obtain ⟨⟨m4, m4w⟩, -⟩ := id hG
  show rn MX4_look 0 [some (.ref 0)] [] w _
  refine r_aload_n (pc2 := 1) dX4_look_0 rfl rfl ?_
  refine r_getf (pc2 := 4) dX4_look_1 rfl fl_4_10 (by assumption) (by assumption) (by rfl) ?_
  refine r_callv_0 (pc2 := 7) dX4_look_4 rfl rs_4_228 rfl (by decide) rfl (Nat.le_of_ble_eq_true rfl) (Nat.le_of_ble_eq_true rfl) (by assumption) (by assumption) (c_aim w 2 3 4 v p sh ln pr gd co c s hC hK 1 5 6 f g hG (by unfold aps; decide)) (fun r_ w_ h_ => ?_)
  rw [h_.1, h_.2]
  clear h_ w_ r_
  refine ⟨rfl, ?_⟩
  have n0 : 0 < (w2W w 5 6 (arO 72 (preF 72 (ssF p sh ln) f)) (arO 6 (preF 6 (cnA p 19) g))).1 := m0
  have n0w : (w2W w 5 6 (arO 72 (preF 72 (ssF p sh ln) f)) (arO 6 (preF 6 (cnA p 19) g))).2.2 0 = maO hs := by rw [(agO_w2W (lo := 5) (hi := 7) _ _ (by omega)).2 0 (by omega)]; exact hM
  refine r_aload_n (pc2 := 8) dX4_look_7 rfl rfl ?_
  refine r_getf (pc2 := 11) dX4_look_8 rfl fl_4_10 (by assumption) (by assumption) (by rfl) ?_
  refine r_reta dX4_look_11 rfl ?_
  exact ⟨rfl, rfl⟩

set_option maxHeartbeats 4000000 in
theorem c_withShift (w : av_W) (h33 : 33 ≤ w.1) (hs : Int) (hM : w.2.2 0 = maO hs) (v p sh ln pr gd co : Int) (c s : Nat → Int) (hC : Cd w 8 9 10 v p sh ln pr gd co c s) (hK : KR v p sh ln) (hS : SR s) (f g : Nat → Int) (hG : Sg w 8 7 11 12 f g) (x : Int) (hx : -3 ≤ x ∧ x ≤ 3) : fn MX4_ghostsWithShift [.ref 0, .int (iN x)] w (some (.int (iN (GA p x ln s)))) (w2W (wst w 8 (cdO 9 10 v p x ln pr gd co)) 11 12 (arO 72 (preF 72 (ssF p x ln) f)) (arO 6 (preF 6 (cnA p 19) g))) := by
  have m0 : 0 < w.1 := by omega
  obtain ⟨⟨m7, m7w⟩, -⟩ := id hC
  have hK2 : KR v p x ln := ⟨hK.1, hK.2.1, hx, hK.2.2.2⟩
  have hC2 : Cd (wst w 8 (cdO 9 10 v p x ln pr gd co)) 8 9 10 v p x ln pr gd co c s := hC.obj v p x ln pr gd co
  have hG2 : Sg (wst w 8 (cdO 9 10 v p x ln pr gd co)) 8 7 11 12 f g := hG.ag (agO.wst (lo := 8) (hi := 9) _ (by omega)) (by omega) (by omega) (by omega)
  have hC3 := Cd_w2W hC2 (arO 72 (preF 72 (ssF p x ln) f)) (arO 6 (preF 6 (cnA p 19) g)) (ka := 11) (sb := 12) (by unfold aps; decide)
  have hG3 := hG2.set (preF 72 (ssF p x ln) f) (preF 6 (cnA p 19) g)
  obtain ⟨⟨m10, m10w⟩, -⟩ := id hG2
  obtain ⟨⟨n10, n10w⟩, -⟩ := id hG3
  have n0 : 0 < (wst w 8 (cdO 9 10 v p x ln pr gd co)).1 := m0
  have n0w : (wst w 8 (cdO 9 10 v p x ln pr gd co)).2.2 0 = maO hs := by rw [wst_ne (by decide)]; exact hM
  have k0 : 0 < (w2W (wst w 8 (cdO 9 10 v p x ln pr gd co)) 11 12 (arO 72 (preF 72 (ssF p x ln) f)) (arO 6 (preF 6 (cnA p 19) g))).1 := m0
  have k0w : (w2W (wst w 8 (cdO 9 10 v p x ln pr gd co)) 11 12 (arO 72 (preF 72 (ssF p x ln) f)) (arO 6 (preF 6 (cnA p 19) g))).2.2 0 = maO hs := by rw [(agO_w2W (lo := 11) (hi := 13) _ _ (by omega)).2 0 (by omega)]; exact n0w
  show rn MX4_ghostsWithShift 0 [some (.ref 0), some (.int (iN x))] [] w _
  refine r_aload_n (pc2 := 1) dX4_ghostsWithShift_0 rfl rfl ?_
  refine r_getf (pc2 := 4) dX4_ghostsWithShift_1 rfl fl_4_24 (by assumption) (by assumption) (by rfl) ?_
  refine r_iload_n (pc2 := 5) dX4_ghostsWithShift_4 rfl rfl ?_
  refine r_putf (pc2 := 8) dX4_ghostsWithShift_5 rfl fl_4_109 (by assumption) (by assumption) (by exact Nat.le_of_ble_eq_true rfl) (by rfl) (by rfl) (by rfl) ?_
  show rn _ _ _ _ (wst w 8 (cdO 9 10 v p x ln pr gd co)) _
  refine r_aload_n (pc2 := 9) dX4_ghostsWithShift_8 rfl rfl ?_
  refine r_getf (pc2 := 12) dX4_ghostsWithShift_9 rfl fl_4_21 (by assumption) (by assumption) (by rfl) ?_
  refine r_callv_0 (pc2 := 15) dX4_ghostsWithShift_12 rfl rs_4_228 rfl (by decide) rfl (Nat.le_of_ble_eq_true rfl) (Nat.le_of_ble_eq_true rfl) (by assumption) (by assumption) (c_aim _ 8 9 10 v p x ln pr gd co c s hC2 hK2 7 11 12 f g hG2 (by unfold aps; decide)) (fun r_ w_ h_ => ?_)
  rw [h_.1, h_.2]
  clear h_ w_ r_
  refine ⟨rfl, ?_⟩
  refine r_aload_n (pc2 := 16) dX4_ghostsWithShift_15 rfl rfl ?_
  refine r_getf (pc2 := 19) dX4_ghostsWithShift_16 rfl fl_4_21 (by assumption) (by assumption) (by rfl) ?_
  refine r_callv_0 (pc2 := 22) dX4_ghostsWithShift_19 rfl rs_4_130 rfl (by decide) rfl (Nat.le_of_ble_eq_true rfl) (Nat.le_of_ble_eq_true rfl) (by assumption) (by assumption) (c_ghostsAll _ 8 9 10 v p x ln pr gd co c s hC3 hK2 hS 7 11 12 _ _ hG3 (ss5 hK.2.1 f)) (fun r_ w_ h_ => ?_)
  rw [h_.1, h_.2]
  clear h_ w_ r_
  refine ⟨rfl, ?_⟩
  rw [GA_of hK.2.1]
  refine r_ret dX4_ghostsWithShift_22 rfl ?_
  exact ⟨rfl, rfl⟩

set_option maxHeartbeats 4000000 in
theorem c_findBest (w : av_W) (h33 : 33 ≤ w.1) (hs : Int) (hM : w.2.2 0 = maO hs) (v p sh ln pr gd co : Int) (c s : Nat → Int) (hC : Cd w 2 3 4 v p sh ln pr gd co c s) (hK : KR v p sh ln) (T : CV) (hT : CdV w 8 T) (f g : Nat → Int) (hG : Sg w 8 7 11 12 f g) (b0 : Nat → Int) (hB : w.2.2 13 = arO 6 b0) : cl MX4_findBestSlices [.ref 0] w (fun r' w' => r' = none ∧ agO 7 14 w w' ∧ (∃ T, CdV w' 8 T) ∧ (∃ f g, Sg w' 8 7 11 12 f g) ∧ ∃ b, w'.2.2 13 = arO 6 b ∧ bestO v p sh ln b) := by
  have m0 : 0 < w.1 := by omega
  obtain ⟨m7, m7w⟩ := hT.cell
  obtain ⟨⟨m1, m1w⟩, -⟩ := id hC
  obtain ⟨hv, hp, hsh, hln⟩ := id hK
  have g1 : agO 8 11 w (cpW w 8 T (v, p, sh, ln, pr, gd, co, c, s)) := cpW_ag (by omega)
  have x1 : Cd (cpW w 8 T (v, p, sh, ln, pr, gd, co, c, s)) 8 9 10 v p sh ln pr gd co (preF 48 c T.2.2.2.2.2.2.2.1) (preF 6 s T.2.2.2.2.2.2.2.2) := cpW_V hT
  have g2 : agO 8 11 w (wst (cpW w 8 T (v, p, sh, ln, pr, gd, co, c, s)) 10 (arO 6 (preF 6 (fun _ => 0) (preF 6 s T.2.2.2.2.2.2.2.2)))) := g1.trans (agO.wst _ (by omega))
  have x2 : Cd (wst (cpW w 8 T (v, p, sh, ln, pr, gd, co, c, s)) 10 (arO 6 (preF 6 (fun _ => 0) (preF 6 s T.2.2.2.2.2.2.2.2)))) 8 9 10 v p sh ln pr gd co (preF 48 c T.2.2.2.2.2.2.2.1) (preF 6 (fun _ => 0) (preF 6 s T.2.2.2.2.2.2.2.2)) := x1.slc _
  have y2 : Sg (wst (cpW w 8 T (v, p, sh, ln, pr, gd, co, c, s)) 10 (arO 6 (preF 6 (fun _ => 0) (preF 6 s T.2.2.2.2.2.2.2.2)))) 8 7 11 12 f g := hG.ag g2 (by omega) (by omega) (by omega)
  have g3 : agO 7 13 w (w2W (wst (cpW w 8 T (v, p, sh, ln, pr, gd, co, c, s)) 10 (arO 6 (preF 6 (fun _ => 0) (preF 6 s T.2.2.2.2.2.2.2.2)))) 11 12 (arO 72 (preF 72 (ssF p sh ln) f)) (arO 6 (preF 6 (cnA p 19) g))) := (g2.mono (by omega) (by omega)).trans (agO_w2W _ _ (by omega))
  have x3 : Cd (w2W (wst (cpW w 8 T (v, p, sh, ln, pr, gd, co, c, s)) 10 (arO 6 (preF 6 (fun _ => 0) (preF 6 s T.2.2.2.2.2.2.2.2)))) 11 12 (arO 72 (preF 72 (ssF p sh ln) f)) (arO 6 (preF 6 (cnA p 19) g))) 8 9 10 v p sh ln pr gd co (preF 48 c T.2.2.2.2.2.2.2.1) (preF 6 (fun _ => 0) (preF 6 s T.2.2.2.2.2.2.2.2)) := Cd_w2W x2 _ _ (by unfold aps; decide)
  have y3 : Sg (w2W (wst (cpW w 8 T (v, p, sh, ln, pr, gd, co, c, s)) 10 (arO 6 (preF 6 (fun _ => 0) (preF 6 s T.2.2.2.2.2.2.2.2)))) 11 12 (arO 72 (preF 72 (ssF p sh ln) f)) (arO 6 (preF 6 (cnA p 19) g))) 8 7 11 12 (preF 72 (ssF p sh ln) f) (preF 6 (cnA p 19) g) := y2.set _ _
  have n0 : 0 < (cpW w 8 T (v, p, sh, ln, pr, gd, co, c, s)).1 := m0
  have n0w : (cpW w 8 T (v, p, sh, ln, pr, gd, co, c, s)).2.2 0 = maO hs := (g1.2 0 (by omega)).trans hM
  have k0 : 0 < (wst (cpW w 8 T (v, p, sh, ln, pr, gd, co, c, s)) 10 (arO 6 (preF 6 (fun _ => 0) (preF 6 s T.2.2.2.2.2.2.2.2)))).1 := m0
  have k0w : (wst (cpW w 8 T (v, p, sh, ln, pr, gd, co, c, s)) 10 (arO 6 (preF 6 (fun _ => 0) (preF 6 s T.2.2.2.2.2.2.2.2)))).2.2 0 = maO hs := (g2.2 0 (by omega)).trans hM
  have l0 : 0 < (w2W (wst (cpW w 8 T (v, p, sh, ln, pr, gd, co, c, s)) 10 (arO 6 (preF 6 (fun _ => 0) (preF 6 s T.2.2.2.2.2.2.2.2)))) 11 12 (arO 72 (preF 72 (ssF p sh ln) f)) (arO 6 (preF 6 (cnA p 19) g))).1 := m0
  have l0w : (w2W (wst (cpW w 8 T (v, p, sh, ln, pr, gd, co, c, s)) 10 (arO 6 (preF 6 (fun _ => 0) (preF 6 s T.2.2.2.2.2.2.2.2)))) 11 12 (arO 72 (preF 72 (ssF p sh ln) f)) (arO 6 (preF 6 (cnA p 19) g))).2.2 0 = maO hs := (g3.2 0 (by omega)).trans hM
  obtain ⟨⟨n7, n7w⟩, -⟩ := id x1
  obtain ⟨⟨k10, k10w⟩, -⟩ := id y2
  obtain ⟨⟨l7, l7w⟩, -, ⟨l9, l9w⟩, -⟩ := id x3
  have l13 : (w2W (wst (cpW w 8 T (v, p, sh, ln, pr, gd, co, c, s)) 10 (arO 6 (preF 6 (fun _ => 0) (preF 6 s T.2.2.2.2.2.2.2.2)))) 11 12 (arO 72 (preF 72 (ssF p sh ln) f)) (arO 6 (preF 6 (cnA p 19) g))).2.2 13 = arO 6 b0 := (g3.2 13 (by omega)).trans hB
  have zR : Rg v p.toNat (preF 6 (fun _ => 0) (preF 6 s T.2.2.2.2.2.2.2.2)) := by
    refine ⟨preF_lt (by omega), fun j h1 h2 => ?_⟩
    rw [preF_lt (by omega)]
    have := hg_0le j (preF 6 (fun _ => 0) (preF 6 s T.2.2.2.2.2.2.2.2))
    omega
  have zS : SR (preF 6 (fun _ => 0) (preF 6 s T.2.2.2.2.2.2.2.2)) := fun j hj => by rw [preF_lt (by omega)]; omega
  have fin : ∀ en : Int, ((en = 1 ∧ v ≤ p) ∨ (en = 0 ∧ p < v)) → rn MX4_findBestSlices 58 [some (.ref 0), some (.int (iN en)), some (.int (iN 0)), some (.int (iN 0)), some (.int (iN 1)), some (.int (iN 0)), none] [] (w2W (wst (cpW w 8 T (v, p, sh, ln, pr, gd, co, c, s)) 10 (arO 6 (preF 6 (fun _ => 0) (preF 6 s T.2.2.2.2.2.2.2.2)))) 11 12 (arO 72 (preF 72 (ssF p sh ln) f)) (arO 6 (preF 6 (cnA p 19) g))) (fun r' w' => r' = none ∧ agO 7 14 w w' ∧ (∃ T, CdV w' 8 T) ∧ (∃ f g, Sg w' 8 7 11 12 f g) ∧ ∃ b, w'.2.2 13 = arO 6 b ∧ bestO v p sh ln b) := by
    intro en hen
    have hl := c_findLoop (w2W (wst (cpW w 8 T (v, p, sh, ln, pr, gd, co, c, s)) 10 (arO 6 (preF 6 (fun _ => 0) (preF 6 s T.2.2.2.2.2.2.2.2)))) 11 12 (arO 72 (preF 72 (ssF p sh ln) f)) (arO 6 (preF 6 (cnA p 19) g))) (by rw [g3.1]; exact h33) hs l0w v p sh ln pr gd co _ _ x3 hK (preF 72 (ssF p sh ln) f) (preF 6 (cnA p 19) g) y3 (ssF_rg hp f) (cnA_19 g) en hen 5001 0 0 0 1 (preF 6 (fun _ => 0) (preF 6 s T.2.2.2.2.2.2.2.2)) b0 none (by omega) (by omega) (Or.inl rfl) zS (Or.inl ⟨rfl, zR, zS, (nc_rg hv (Rg_rg hv.1 zR)).1, Or.inl ⟨rfl, fun x hx _ q => ?_⟩, fun q => by omega⟩)
    · rw [fbW_id l9w l13] at hl
      refine hl.imp (fun r w2 h => ?_)
      obtain ⟨e1, s2, b2, e2, hb⟩ := h
      rw [e2]
      exact ⟨e1, (g3.mono (by omega) (by omega)).trans ((fbW_ag _ _ _).mono (by omega) (by omega)), ⟨(v, p, sh, ln, pr, gd, co, _, s2), fbW_C x3 s2 b2⟩, ⟨_, _, fbW_G y3 s2 b2⟩, b2, wst_self, bestO_of hp hb⟩
    · obtain ⟨j, j1, j2, j3⟩ := q
      rw [preF_lt (by omega)] at j3
      have := Rg_rg hv.1 hx j j1
      omega
  show rn MX4_findBestSlices 0 [some (.ref 0), none, none, none, none, none, none] [] w _
  refine r_aload_n (pc2 := 1) dX4_findBestSlices_0 rfl rfl ?_
  refine r_getf (pc2 := 4) dX4_findBestSlices_1 rfl fl_4_24 (by assumption) (by assumption) (by rfl) ?_
  refine r_aload_n (pc2 := 5) dX4_findBestSlices_4 rfl rfl ?_
  refine r_getf (pc2 := 8) dX4_findBestSlices_5 rfl fl_4_20 (by assumption) (by assumption) (by rfl) ?_
  refine r_callv_1 (pc2 := 11) dX4_findBestSlices_8 rfl rs_4_173 rfl (by decide) rfl (Nat.le_of_ble_eq_true rfl) (Nat.le_of_ble_eq_true rfl) (by assumption) (by assumption) (c_copyV w 8 2 T (v, p, sh, ln, pr, gd, co, c, s) hT hC (by omega)) (fun r_ w_ h_ => ?_)
  rw [h_.1, h_.2]
  clear h_ w_ r_
  refine ⟨rfl, ?_⟩
  refine r_aload_n (pc2 := 12) dX4_findBestSlices_11 rfl rfl ?_
  refine r_getf (pc2 := 15) dX4_findBestSlices_12 rfl fl_4_24 (by assumption) (by assumption) (by rfl) ?_
  refine r_callv_0 (pc2 := 18) dX4_findBestSlices_15 rfl rs_4_234 rfl (by decide) rfl (Nat.le_of_ble_eq_true rfl) (Nat.le_of_ble_eq_true rfl) (by assumption) (by assumption) (c_startSlices _ 8 9 10 v p sh ln pr gd co _ _ x1 hK) (fun r_ w_ h_ => ?_)
  rw [h_.1, h_.2]
  clear h_ w_ r_
  refine ⟨rfl, ?_⟩
  refine r_aload_n (pc2 := 19) dX4_findBestSlices_18 rfl rfl ?_
  refine r_getf (pc2 := 22) dX4_findBestSlices_19 rfl fl_4_21 (by assumption) (by assumption) (by rfl) ?_
  refine r_callv_0 (pc2 := 25) dX4_findBestSlices_22 rfl rs_4_228 rfl (by decide) rfl (Nat.le_of_ble_eq_true rfl) (Nat.le_of_ble_eq_true rfl) (by assumption) (by assumption) (c_aim _ 8 9 10 v p sh ln pr gd co _ _ x2 hK 7 11 12 f g y2 (by unfold aps; decide)) (fun r_ w_ h_ => ?_)
  rw [h_.1, h_.2]
  clear h_ w_ r_
  refine ⟨rfl, ?_⟩
  refine r_aload_n (pc2 := 26) dX4_findBestSlices_25 rfl rfl ?_
  refine r_getf (pc2 := 29) dX4_findBestSlices_26 rfl fl_4_24 (by assumption) (by assumption) (by rfl) ?_
  refine r_getf (pc2 := 32) dX4_findBestSlices_29 rfl fl_4_92 (by assumption) (by assumption) (by rfl) ?_
  refine r_aload_n (pc2 := 33) dX4_findBestSlices_32 rfl rfl ?_
  refine r_getf (pc2 := 36) dX4_findBestSlices_33 rfl fl_4_24 (by assumption) (by assumption) (by rfl) ?_
  refine r_getf (pc2 := 39) dX4_findBestSlices_36 rfl fl_4_78 (by assumption) (by assumption) (by rfl) ?_
  refine r_icmp_lt (pc2 := 42) (tgt := 46) dX4_findBestSlices_39 rfl (by decide) (by omega) (by omega) (fun h39 => ?_) (fun h39 => ?_)
  · refine r_iconst (pc2 := 47) dX4_findBestSlices_46 rfl ?_
    refine r_ist_1 (pc2 := 48) dX4_findBestSlices_47 rfl rfl ?_
    refine r_iconst (pc2 := 49) dX4_findBestSlices_48 rfl ?_
    refine r_ist_2 (pc2 := 50) dX4_findBestSlices_49 rfl rfl ?_
    refine r_iconst (pc2 := 51) dX4_findBestSlices_50 rfl ?_
    refine r_ist_3 (pc2 := 52) dX4_findBestSlices_51 rfl rfl ?_
    refine r_iconst (pc2 := 53) dX4_findBestSlices_52 rfl ?_
    refine r_ist_4 (pc2 := 55) dX4_findBestSlices_53 rfl rfl ?_
    refine r_iconst (pc2 := 56) dX4_findBestSlices_55 rfl ?_
    refine r_ist_5 (pc2 := 58) dX4_findBestSlices_56 rfl rfl ?_
    first
      | exact fin 1 (Or.inl ⟨rfl, by omega⟩)
      | exact fin 0 (Or.inr ⟨rfl, by omega⟩)
  · refine r_iconst (pc2 := 43) dX4_findBestSlices_42 rfl ?_
    refine r_goto (tgt := 47) dX4_findBestSlices_43 (by decide) ?_
    refine r_ist_1 (pc2 := 48) dX4_findBestSlices_47 rfl rfl ?_
    refine r_iconst (pc2 := 49) dX4_findBestSlices_48 rfl ?_
    refine r_ist_2 (pc2 := 50) dX4_findBestSlices_49 rfl rfl ?_
    refine r_iconst (pc2 := 51) dX4_findBestSlices_50 rfl ?_
    refine r_ist_3 (pc2 := 52) dX4_findBestSlices_51 rfl rfl ?_
    refine r_iconst (pc2 := 53) dX4_findBestSlices_52 rfl ?_
    refine r_ist_4 (pc2 := 55) dX4_findBestSlices_53 rfl rfl ?_
    refine r_iconst (pc2 := 56) dX4_findBestSlices_55 rfl ?_
    refine r_ist_5 (pc2 := 58) dX4_findBestSlices_56 rfl rfl ?_
    first
      | exact fin 1 (Or.inl ⟨rfl, by omega⟩)
      | exact fin 0 (Or.inr ⟨rfl, by omega⟩)
