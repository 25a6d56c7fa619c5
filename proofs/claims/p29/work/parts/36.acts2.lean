/-! the class's acts: order, press, texts, history -/
theorem CLS_tr {w w2 : av_W} {V : CV} {L : Nat → CV} {n : Int} {S : CV} {hs len : Int} {t : Nat → Int} (h0 : CLS w V L n S hs len t) (g : agO 7 14 w w2) (hT : ∃ T, CdV w2 8 T) (hG : ∃ f g, Sg w2 8 7 11 12 f g) (hB : ∃ b, w2.2.2 13 = arO 6 b) : CLS w2 V L n S hs len t := by
  obtain ⟨a0, a1, a2, ⟨f3, g3, a3⟩, -, -, -, ⟨f7, a7⟩, a8, ⟨f9, a9⟩⟩ := h0
  exact ⟨by rw [g.1]; exact a0, (g.2 0 (by omega)).trans a1, a2.ag g (by omega), ⟨_, _, a3.ag g (by omega) (by omega) (by omega)⟩, hT, hG, hB, ⟨_, a7.ag g (by omega)⟩, a8.ag g (by omega), ⟨_, a9.ag g (by omega) (by omega)⟩⟩
theorem c_lookC (w : av_W) (v p sh ln pr gd co : Int) (c s : Nat → Int) (L : Nat → CV) (n : Int) (S : CV) (hs len : Int) (t : Nat → Int) (h : CLS w (v, p, sh, ln, pr, gd, co, c, s) L n S hs len t) (hK : KR v p sh ln) : cl MX4_look [.ref 0] w (fun r' w' => r' = some (.ref 1) ∧ agO 5 7 w w' ∧ CLS w' (v, p, sh, ln, pr, gd, co, c, s) L n S hs len t ∧ ∃ f g, Sg w' 2 1 5 6 (preF 72 (ssF p sh ln) f) (preF 6 (cnA p 19) g)) := by
  obtain ⟨h33, h0w, hC, ⟨f, g, hG⟩, -⟩ := id h
  have q := c_look w h33 hs h0w v p sh ln pr gd co c s hC hK f g hG
  refine q.imp (fun r' w' q2 => ?_)
  obtain ⟨e1, e2⟩ := q2
  rw [e1, e2]
  have ga : agO 5 7 w (w2W w 5 6 (arO 72 (preF 72 (ssF p sh ln) f)) (arO 6 (preF 6 (cnA p 19) g))) := agO_w2W _ _ (by omega)
  exact ⟨rfl, ga, CLS_sight h ga ⟨_, _, hG.set _ _⟩, _, _, hG.set _ _⟩
theorem rsF_fg {s f f2 : Nat → Int} {st x : Int} (h : ∀ j : Nat, j < 72 → f j = f2 j) (hst : 0 ≤ st ∧ st < 6) : rsF s f st x = rsF s f2 st x := by
  unfold rsF
  exact sm_congr (fun r hr => bz_congr (by rw [vS_fg (h _ (by omega))]))
theorem whF_fg {s f f2 : Nat → Int} {st : Int} (h : ∀ j : Nat, j < 72 → f j = f2 j) (hst : 0 ≤ st ∧ st < 6) : whF s f st = whF s f2 st := by
  unfold whF
  rw [vS_fg (h _ (by omega)), rsF_fg h hst]
theorem asF_fg {p x : Int} {s f f2 g g2 : Nat → Int} (hp : 2 ≤ p ∧ p ≤ 6) (h : ∀ j : Nat, j < 72 → f j = f2 j) (hg : ∀ j : Nat, j < 6 → g j = g2 j) : asF p s f g x = asF p s f2 g2 x := by
  unfold asF
  refine sm_congr (fun st hst => ?_)
  rw [whF_fg h (by omega), hg st (by omega)]
theorem wvF_fg {p v : Int} {s f f2 g g2 : Nat → Int} (hp : 2 ≤ p ∧ p ≤ 6) (h : ∀ j : Nat, j < 72 → f j = f2 j) (hg : ∀ j : Nat, j < 6 → g j = g2 j) : wvF p v s f g = wvF p v s f2 g2 := by
  unfold wvF
  exact sm_congr (fun x hx => bz_congr (by rw [asF_fg hp h hg]))
theorem mvF_fg {s f f2 : Nat → Int} {st : Int} (h : ∀ j : Nat, j < 72 → f j = f2 j) (hst : 0 ≤ st ∧ st < 6) : ∀ n : Nat, mvF s f st n = mvF s f2 st n := by
  intro n
  induction n with
  | zero => rfl
  | succ n ih =>
    show (if _ then _ else _) = (if _ then _ else _)
    rw [ih, rsF_fg h hst]
theorem clF_fg {p x : Int} {s f f2 : Nat → Int} (hp : 2 ≤ p ∧ p ≤ 6) (h : ∀ j : Nat, j < 72 → f j = f2 j) : ∀ n : Nat, n ≤ 19 → clF p s f x n = clF p s f2 x n := by
  intro n
  induction n with
  | zero => exact fun _ => rfl
  | succ n ih =>
    intro hn
    have hst : 0 ≤ stZ p ((n : Int) - 9) ∧ stZ p ((n : Int) - 9) < 6 := by
      unfold stZ
      have : 0 ≤ p * ((n : Int) - 9 + 9) ∧ p * ((n : Int) - 9 + 9) ≤ 6 * 18 := ⟨Int.mul_nonneg (by omega) (by omega), by
        have h1 : p * ((n : Int) - 9 + 9) ≤ 6 * ((n : Int) - 9 + 9) := Int.mul_le_mul_of_nonneg_right hp.2 (by omega)
        omega⟩
      omega
    show (if _ then _ else _) = (if _ then _ else _)
    rw [ih (by omega), rsF_fg h hst, ghF_fg h hst]
theorem ss_of {p sh ln : Int} {f : Nat → Int} : ∀ j : Nat, j < 72 → preF 72 (ssF p sh ln) f j = ssF p sh ln j := fun j hj => preF_lt (by omega)
theorem cn_of {p : Int} {g : Nat → Int} : ∀ j : Nat, j < 6 → preF 6 (cnA p 19) g j = cnA p 19 j := fun j hj => preF_lt (by omega)
theorem wvF_rg {p v : Int} {s f g : Nat → Int} (hv : 0 ≤ v) : 0 ≤ wvF p v s f g ∧ wvF p v s f g ≤ v := by
  have := sm_rg (n := v.toNat) (f := fun x => bz (0 < asF p s f g x)) (L := 0) (H := 1) (fun j hj => by have := bz_01 (c := 0 < asF p s f g j); unfold bz; split <;> omega)
  unfold wvF
  omega
theorem SR_pre {b s : Nat → Int} (hb : SR b) : SR (preF 6 b s) := fun j hj => by
  rw [preF_lt (by omega)]
  exact hb j hj

def o_order (V : CV) (b : Nat → Int) : Int × Option CV := match V with
  | (v, p, sh, ln, pr, gd, co, c, s) => if (∀ j : Nat, j < p.toNat → s j = b j) then (-105, none) else (GA p sh ln (preF 6 b s), some (v, p, sh, ln, pr, gd, co, c, preF 6 b s))

def o_press (V : CV) (a : Int) : Int × Option CV := match V with
  | (v, p, sh, ln, pr, gd, co, c, s) => if ¬ (1 ≤ a ∧ a ≤ 999) then (-102, none) else if 99999 < pr + a then (-103, none) else if (wvF p v s (ssF p sh ln) (cnA p 19)) = v then (a, some (v, p, sh, ln, pr + a, gd + a, co + a * (3 + p), c, s)) else (0, some (v, p, sh, ln, pr + a, gd + 0, co + a * (3 + p), c, s))

set_option maxHeartbeats 4000000 in
theorem c_press (w : av_W) (v p sh ln pr gd co : Int) (c s : Nat → Int) (L : Nat → CV) (n : Int) (S : CV) (hs len : Int) (t : Nat → Int) (h : CLS w (v, p, sh, ln, pr, gd, co, c, s) L n S hs len t) (hV : KV (v, p, sh, ln, pr, gd, co, c, s)) (hn : 0 ≤ n ∧ n ≤ 4) (a : Int) (ha : RG a) : cl MX4_press [.ref 0, .int (iN a)] w (fun r' w' => RA w w' r' (o_press (v, p, sh, ln, pr, gd, co, c, s) a) (v, p, sh, ln, pr, gd, co, c, s) L n S hs len t) := by
  obtain ⟨x33, x0w, xC, ⟨xf, xg, xG⟩, ⟨xT, xTV⟩, ⟨xf2, xg2, xH⟩, ⟨xb, xB⟩, ⟨xq, xP⟩, xS, ⟨xk, xX⟩⟩ := id h
  have x0 : 0 < w.1 := by omega
  have xC : Cd w 2 3 4 v p sh ln pr gd co c s := xC
  obtain ⟨⟨x1, x1w⟩, -⟩ := id xC
  have x14 : 14 < w.1 := by omega
  have x14w := xP.1
  obtain ⟨hK, hS, hc, hpr⟩ := id hV
  have hK : KR v p sh ln := hK
  have hS : SR s := hS
  have hc : ∀ j : Nat, j < 48 → 0 ≤ c j ∧ c j ≤ 9 := hc
  have hpr : 0 ≤ pr ∧ pr ≤ 99999 := hpr
  obtain ⟨hv, hp, hsh, hln⟩ := id hK
  have haR : -2147483648 ≤ a ∧ a < 2147483648 := ha
  have hwv := wvF_rg (p := p) (v := v) (s := s) (f := ssF p sh ln) (g := cnA p 19) (by omega)
  show rn MX4_press 0 [some (.ref 0), some (.int (iN a)), none] [] w _
  refine r_iload_n (pc2 := 1) dX4_press_0 rfl rfl ?_
  refine r_iconst (pc2 := 2) dX4_press_1 rfl ?_
  refine r_sipush (pc2 := 5) dX4_press_2 rfl (by decide) ?_
  refine r_calls_3 (pc2 := 8) dX4_press_5 rfl rs_4_62 rfl (by decide) rfl (Nat.le_of_ble_eq_true rfl) (Nat.le_of_ble_eq_true rfl) (c_isWithin w a 1 999 ha ⟨by omega, by omega⟩ ⟨by omega, by omega⟩) (fun r_ w_ h_ => ?_)
  rw [h_.1, h_.2]
  clear h_ w_ r_
  refine ⟨rfl, ?_⟩
  refine r_ifb_ne (pc2 := 11) (tgt := 14) dX4_press_8 rfl (by decide)  (fun h8 => ?_) (fun h8 => ?_)
  · refine r_aload_n (pc2 := 15) dX4_press_14 rfl rfl ?_
    refine r_getf (pc2 := 18) dX4_press_15 rfl fl_4_20 (by assumption) (by assumption) (by rfl) ?_
    refine r_getf (pc2 := 21) dX4_press_18 rfl fl_4_140 (by assumption) (by assumption) (by rfl) ?_
    refine r_iload_n (pc2 := 22) dX4_press_21 rfl rfl ?_
    refine r_iadd (pc2 := 23) dX4_press_22 rfl ?_
    refine r_ldc (pc2 := 25) dX4_press_23 rfl ki_4_143 ?_
    refine r_icmp_le (pc2 := 28) (tgt := 31) dX4_press_25 rfl (by decide) (by omega) (by omega) (fun h25 => ?_) (fun h25 => ?_)
    · refine r_aload_n (pc2 := 32) dX4_press_31 rfl rfl ?_
      refine r_callv_0 (pc2 := 35) dX4_press_32 rfl rs_4_126 rfl (by decide) rfl (Nat.le_of_ble_eq_true rfl) (Nat.le_of_ble_eq_true rfl) (by assumption) (by assumption) (c_lookC _ v p sh ln pr gd co c s _ _ _ _ _ _ h hK) (fun r_ w_ h_ => ?_)
      obtain ⟨e_, qgr, qhl, qqf, qqg, qqG⟩ := h_
      rw [e_]
      clear e_
      obtain ⟨wq, rfl⟩ : ∃ wq, wq = w_ := ⟨_, rfl⟩
      obtain ⟨q33, q0w, qC, ⟨qf, qg, qG⟩, ⟨qT, qTV⟩, ⟨qf2, qg2, qH⟩, ⟨qb, qB⟩, ⟨qq, qP⟩, qS, ⟨qk, qX⟩⟩ := id qhl
      have q0 : 0 < wq.1 := by omega
      have qC : Cd wq 2 3 4 v p sh ln pr gd co c s := qC
      obtain ⟨⟨q1, q1w⟩, -⟩ := id qC
      have q14 : 14 < wq.1 := by omega
      have q14w := qP.1
      obtain ⟨⟨q4, q4w⟩, -⟩ := id qqG
      refine ⟨qgr.1, ?_⟩
      refine r_callv_0 (pc2 := 38) dX4_press_35 rfl rs_4_144 rfl (by decide) rfl (Nat.le_of_ble_eq_true rfl) (Nat.le_of_ble_eq_true rfl) (by assumption) (by assumption) (c_wholeViews _ 2 3 4 v p sh ln pr gd co c s qC hK hS 1 5 6 _ _ qqG (ss5 hp _) (cnA_19 _)) (fun r_ w_ h_ => ?_)
      rw [h_.1, h_.2]
      clear h_ w_ r_
      refine ⟨rfl, ?_⟩
      rw [wvF_fg hp ss_of cn_of]
      refine r_aload_n (pc2 := 39) dX4_press_38 rfl rfl ?_
      refine r_getf (pc2 := 42) dX4_press_39 rfl fl_4_20 (by assumption) (by assumption) (by rfl) ?_
      refine r_getf (pc2 := 45) dX4_press_42 rfl fl_4_78 (by assumption) (by assumption) (by rfl) ?_
      refine r_icmp_ne (pc2 := 48) (tgt := 52) dX4_press_45 rfl (by decide) (by omega) (by omega) (fun h45 => ?_) (fun h45 => ?_)
      · refine r_iconst (pc2 := 53) dX4_press_52 rfl ?_
        refine r_ist_2 (pc2 := 54) dX4_press_53 rfl rfl ?_
        refine r_aload_n (pc2 := 55) dX4_press_54 rfl rfl ?_
        refine r_getf (pc2 := 58) dX4_press_55 rfl fl_4_34 (by assumption) (by assumption) (by rfl) ?_
        refine r_aload_n (pc2 := 59) dX4_press_58 rfl rfl ?_
        refine r_getf (pc2 := 62) dX4_press_59 rfl fl_4_20 (by assumption) (by assumption) (by rfl) ?_
        refine r_callv_1 (pc2 := 65) dX4_press_62 rfl rs_4_70 rfl (by decide) rfl (Nat.le_of_ble_eq_true rfl) (Nat.le_of_ble_eq_true rfl) (by assumption) (by assumption) (c_rec _ _ _ _ _ _ _ _ qhl hn) (fun r_ w_ h_ => ?_)
        obtain ⟨e_, gr, hr⟩ := h_
        rw [e_]
        clear e_
        obtain ⟨wr, rfl⟩ : ∃ wr, wr = w_ := ⟨_, rfl⟩
        obtain ⟨y33, y0w, yC, ⟨yf, yg, yG⟩, ⟨yT, yTV⟩, ⟨yf2, yg2, yH⟩, ⟨yb, yB⟩, ⟨yq, yP⟩, yS, ⟨yk, yX⟩⟩ := id hr
        have y0 : 0 < wr.1 := by omega
        have yC : Cd wr 2 3 4 v p sh ln pr gd co c s := yC
        obtain ⟨⟨y1, y1w⟩, -⟩ := id yC
        have y14 : 14 < wr.1 := by omega
        have y14w := yP.1
        refine ⟨gr.1, ?_⟩
        refine r_aload_n (pc2 := 66) dX4_press_65 rfl rfl ?_
        refine r_getf (pc2 := 69) dX4_press_66 rfl fl_4_20 (by assumption) (by assumption) (by rfl) ?_
        refine r_dup (pc2 := 70) dX4_press_69 rfl rfl ?_
        refine r_getf (pc2 := 73) dX4_press_70 rfl fl_4_140 (by assumption) (by assumption) (by rfl) ?_
        refine r_iload_n (pc2 := 74) dX4_press_73 rfl rfl ?_
        refine r_iadd (pc2 := 75) dX4_press_74 rfl ?_
        refine r_putf (pc2 := 78) dX4_press_75 rfl fl_4_140 (by assumption) (by assumption) (by exact Nat.le_of_ble_eq_true rfl) (by rfl) (by rfl) (by rfl) ?_
        show rn _ _ _ _ (wst wr 2 (cdO 3 4 v p sh ln (pr + a) gd co)) _
        have gj1 : agO 2 5 wr (wst wr 2 (cdO 3 4 v p sh ln (pr + a) gd co)) := agO.wst _ (by omega)
        have j1C : Cd (wst wr 2 (cdO 3 4 v p sh ln (pr + a) gd co)) 2 3 4 v p sh ln (pr + a) gd co c s := yC.obj _ _ _ _ _ _ _
        have j10 : 0 < (wst wr 2 (cdO 3 4 v p sh ln (pr + a) gd co)).1 := y0
        have j10w := (gj1.2 0 (by omega)).trans y0w
        obtain ⟨⟨j11, j11w⟩, -⟩ := id j1C
        refine r_aload_n (pc2 := 79) dX4_press_78 rfl rfl ?_
        refine r_getf (pc2 := 82) dX4_press_79 rfl fl_4_20 (by assumption) (by assumption) (by rfl) ?_
        refine r_dup (pc2 := 83) dX4_press_82 rfl rfl ?_
        refine r_getf (pc2 := 86) dX4_press_83 rfl fl_4_147 (by assumption) (by assumption) (by rfl) ?_
        refine r_iload_n (pc2 := 87) dX4_press_86 rfl rfl ?_
        refine r_iadd (pc2 := 88) dX4_press_87 rfl ?_
        refine r_putf (pc2 := 91) dX4_press_88 rfl fl_4_147 (by assumption) (by assumption) (by exact Nat.le_of_ble_eq_true rfl) (by rfl) (by rfl) (by rfl) ?_
        first
          | (show rn _ _ _ _ (wst (wst wr 2 (cdO 3 4 v p sh ln (pr + a) gd co)) 2 (cdO 3 4 v p sh ln (pr + a) (gd + a) co)) _
             have gj2 : agO 2 5 wr (wst (wst wr 2 (cdO 3 4 v p sh ln (pr + a) gd co)) 2 (cdO 3 4 v p sh ln (pr + a) (gd + a) co)) := gj1.trans (agO.wst _ (by omega))
             have j2C : Cd (wst (wst wr 2 (cdO 3 4 v p sh ln (pr + a) gd co)) 2 (cdO 3 4 v p sh ln (pr + a) (gd + a) co)) 2 3 4 v p sh ln (pr + a) (gd + a) co c s := j1C.obj _ _ _ _ _ _ _
             have j20 : 0 < (wst (wst wr 2 (cdO 3 4 v p sh ln (pr + a) gd co)) 2 (cdO 3 4 v p sh ln (pr + a) (gd + a) co)).1 := y0
             have j20w := (gj2.2 0 (by omega)).trans y0w
             obtain ⟨⟨j21, j21w⟩, -⟩ := id j2C)
          | (show rn _ _ _ _ (wst (wst wr 2 (cdO 3 4 v p sh ln (pr + a) gd co)) 2 (cdO 3 4 v p sh ln (pr + a) (gd + 0) co)) _
             have gj2 : agO 2 5 wr (wst (wst wr 2 (cdO 3 4 v p sh ln (pr + a) gd co)) 2 (cdO 3 4 v p sh ln (pr + a) (gd + 0) co)) := gj1.trans (agO.wst _ (by omega))
             have j2C : Cd (wst (wst wr 2 (cdO 3 4 v p sh ln (pr + a) gd co)) 2 (cdO 3 4 v p sh ln (pr + a) (gd + 0) co)) 2 3 4 v p sh ln (pr + a) (gd + 0) co c s := j1C.obj _ _ _ _ _ _ _
             have j20 : 0 < (wst (wst wr 2 (cdO 3 4 v p sh ln (pr + a) gd co)) 2 (cdO 3 4 v p sh ln (pr + a) (gd + 0) co)).1 := y0
             have j20w := (gj2.2 0 (by omega)).trans y0w
             obtain ⟨⟨j21, j21w⟩, -⟩ := id j2C)
        refine r_aload_n (pc2 := 92) dX4_press_91 rfl rfl ?_
        refine r_getf (pc2 := 95) dX4_press_92 rfl fl_4_20 (by assumption) (by assumption) (by rfl) ?_
        refine r_dup (pc2 := 96) dX4_press_95 rfl rfl ?_
        refine r_getf (pc2 := 99) dX4_press_96 rfl fl_4_150 (by assumption) (by assumption) (by rfl) ?_
        refine r_iload_n (pc2 := 100) dX4_press_99 rfl rfl ?_
        refine r_iconst (pc2 := 101) dX4_press_100 rfl ?_
        refine r_aload_n (pc2 := 102) dX4_press_101 rfl rfl ?_
        refine r_getf (pc2 := 105) dX4_press_102 rfl fl_4_20 (by assumption) (by assumption) (by rfl) ?_
        refine r_getf (pc2 := 108) dX4_press_105 rfl fl_4_92 (by assumption) (by assumption) (by rfl) ?_
        refine r_iadd (pc2 := 109) dX4_press_108 rfl ?_
        refine r_imul (pc2 := 110) dX4_press_109 rfl ?_
        refine r_iadd (pc2 := 111) dX4_press_110 rfl ?_
        refine r_putf (pc2 := 114) dX4_press_111 rfl fl_4_150 (by assumption) (by assumption) (by exact Nat.le_of_ble_eq_true rfl) (by rfl) (by rfl) (by rfl) ?_
        first
          | (show rn _ _ _ _ (wst (wst (wst wr 2 (cdO 3 4 v p sh ln (pr + a) gd co)) 2 (cdO 3 4 v p sh ln (pr + a) (gd + a) co)) 2 (cdO 3 4 v p sh ln (pr + a) (gd + a) (co + a * (3 + p)))) _
             have gj3 : agO 2 5 wr (wst (wst (wst wr 2 (cdO 3 4 v p sh ln (pr + a) gd co)) 2 (cdO 3 4 v p sh ln (pr + a) (gd + a) co)) 2 (cdO 3 4 v p sh ln (pr + a) (gd + a) (co + a * (3 + p)))) := gj2.trans (agO.wst _ (by omega))
             have j3C : Cd (wst (wst (wst wr 2 (cdO 3 4 v p sh ln (pr + a) gd co)) 2 (cdO 3 4 v p sh ln (pr + a) (gd + a) co)) 2 (cdO 3 4 v p sh ln (pr + a) (gd + a) (co + a * (3 + p)))) 2 3 4 v p sh ln (pr + a) (gd + a) (co + a * (3 + p)) c s := j2C.obj _ _ _ _ _ _ _
             have j30 : 0 < (wst (wst (wst wr 2 (cdO 3 4 v p sh ln (pr + a) gd co)) 2 (cdO 3 4 v p sh ln (pr + a) (gd + a) co)) 2 (cdO 3 4 v p sh ln (pr + a) (gd + a) (co + a * (3 + p)))).1 := y0
             have j30w := (gj3.2 0 (by omega)).trans y0w
             obtain ⟨⟨j31, j31w⟩, -⟩ := id j3C)
          | (show rn _ _ _ _ (wst (wst (wst wr 2 (cdO 3 4 v p sh ln (pr + a) gd co)) 2 (cdO 3 4 v p sh ln (pr + a) (gd + 0) co)) 2 (cdO 3 4 v p sh ln (pr + a) (gd + 0) (co + a * (3 + p)))) _
             have gj3 : agO 2 5 wr (wst (wst (wst wr 2 (cdO 3 4 v p sh ln (pr + a) gd co)) 2 (cdO 3 4 v p sh ln (pr + a) (gd + 0) co)) 2 (cdO 3 4 v p sh ln (pr + a) (gd + 0) (co + a * (3 + p)))) := gj2.trans (agO.wst _ (by omega))
             have j3C : Cd (wst (wst (wst wr 2 (cdO 3 4 v p sh ln (pr + a) gd co)) 2 (cdO 3 4 v p sh ln (pr + a) (gd + 0) co)) 2 (cdO 3 4 v p sh ln (pr + a) (gd + 0) (co + a * (3 + p)))) 2 3 4 v p sh ln (pr + a) (gd + 0) (co + a * (3 + p)) c s := j2C.obj _ _ _ _ _ _ _
             have j30 : 0 < (wst (wst (wst wr 2 (cdO 3 4 v p sh ln (pr + a) gd co)) 2 (cdO 3 4 v p sh ln (pr + a) (gd + 0) co)) 2 (cdO 3 4 v p sh ln (pr + a) (gd + 0) (co + a * (3 + p)))).1 := y0
             have j30w := (gj3.2 0 (by omega)).trans y0w
             obtain ⟨⟨j31, j31w⟩, -⟩ := id j3C)
        refine r_iload_n (pc2 := 115) dX4_press_114 rfl rfl ?_
        refine r_ret dX4_press_115 rfl ?_
        first
          | (refine RA_s (x := a) (V2 := (v, p, sh, ln, pr + a, gd + a, co + a * (3 + p), c, s)) ?_ rfl ?_ ?_
             · show (if ¬ (1 ≤ a ∧ a ≤ 999) then (-102, none) else if 99999 < pr + a then (-103, none) else if (wvF p v s (ssF p sh ln) (cnA p 19)) = v then (a, some (v, p, sh, ln, pr + a, gd + a, co + a * (3 + p), c, s)) else (0, some (v, p, sh, ln, pr + a, gd + 0, co + a * (3 + p), c, s))) = _
               rw [if_neg (by omega), if_neg (by omega), if_pos h45]
             · exact ((qgr.mono (by omega) (by omega)).trans (gr.mono (by omega) (by omega))).trans (gj3.mono (by omega) (by omega))
             · exact CLS_card hr gj3 _ j3C)
          | (refine RA_s (x := 0) (V2 := (v, p, sh, ln, pr + a, gd + 0, co + a * (3 + p), c, s)) ?_ rfl ?_ ?_
             · show (if ¬ (1 ≤ a ∧ a ≤ 999) then (-102, none) else if 99999 < pr + a then (-103, none) else if (wvF p v s (ssF p sh ln) (cnA p 19)) = v then (a, some (v, p, sh, ln, pr + a, gd + a, co + a * (3 + p), c, s)) else (0, some (v, p, sh, ln, pr + a, gd + 0, co + a * (3 + p), c, s))) = _
               rw [if_neg (by omega), if_neg (by omega), if_neg h45]
             · exact ((qgr.mono (by omega) (by omega)).trans (gr.mono (by omega) (by omega))).trans (gj3.mono (by omega) (by omega))
             · exact CLS_card hr gj3 _ j3C)
      · refine r_iload_n (pc2 := 49) dX4_press_48 rfl rfl ?_
        refine r_goto (tgt := 53) dX4_press_49 (by decide) ?_
        refine r_ist_2 (pc2 := 54) dX4_press_53 rfl rfl ?_
        refine r_aload_n (pc2 := 55) dX4_press_54 rfl rfl ?_
        refine r_getf (pc2 := 58) dX4_press_55 rfl fl_4_34 (by assumption) (by assumption) (by rfl) ?_
        refine r_aload_n (pc2 := 59) dX4_press_58 rfl rfl ?_
        refine r_getf (pc2 := 62) dX4_press_59 rfl fl_4_20 (by assumption) (by assumption) (by rfl) ?_
        refine r_callv_1 (pc2 := 65) dX4_press_62 rfl rs_4_70 rfl (by decide) rfl (Nat.le_of_ble_eq_true rfl) (Nat.le_of_ble_eq_true rfl) (by assumption) (by assumption) (c_rec _ _ _ _ _ _ _ _ qhl hn) (fun r_ w_ h_ => ?_)
        obtain ⟨e_, gr, hr⟩ := h_
        rw [e_]
        clear e_
        obtain ⟨wr, rfl⟩ : ∃ wr, wr = w_ := ⟨_, rfl⟩
        obtain ⟨y33, y0w, yC, ⟨yf, yg, yG⟩, ⟨yT, yTV⟩, ⟨yf2, yg2, yH⟩, ⟨yb, yB⟩, ⟨yq, yP⟩, yS, ⟨yk, yX⟩⟩ := id hr
        have y0 : 0 < wr.1 := by omega
        have yC : Cd wr 2 3 4 v p sh ln pr gd co c s := yC
        obtain ⟨⟨y1, y1w⟩, -⟩ := id yC
        have y14 : 14 < wr.1 := by omega
        have y14w := yP.1
        refine ⟨gr.1, ?_⟩
        refine r_aload_n (pc2 := 66) dX4_press_65 rfl rfl ?_
        refine r_getf (pc2 := 69) dX4_press_66 rfl fl_4_20 (by assumption) (by assumption) (by rfl) ?_
        refine r_dup (pc2 := 70) dX4_press_69 rfl rfl ?_
        refine r_getf (pc2 := 73) dX4_press_70 rfl fl_4_140 (by assumption) (by assumption) (by rfl) ?_
        refine r_iload_n (pc2 := 74) dX4_press_73 rfl rfl ?_
        refine r_iadd (pc2 := 75) dX4_press_74 rfl ?_
        refine r_putf (pc2 := 78) dX4_press_75 rfl fl_4_140 (by assumption) (by assumption) (by exact Nat.le_of_ble_eq_true rfl) (by rfl) (by rfl) (by rfl) ?_
        show rn _ _ _ _ (wst wr 2 (cdO 3 4 v p sh ln (pr + a) gd co)) _
        have gj1 : agO 2 5 wr (wst wr 2 (cdO 3 4 v p sh ln (pr + a) gd co)) := agO.wst _ (by omega)
        have j1C : Cd (wst wr 2 (cdO 3 4 v p sh ln (pr + a) gd co)) 2 3 4 v p sh ln (pr + a) gd co c s := yC.obj _ _ _ _ _ _ _
        have j10 : 0 < (wst wr 2 (cdO 3 4 v p sh ln (pr + a) gd co)).1 := y0
        have j10w := (gj1.2 0 (by omega)).trans y0w
        obtain ⟨⟨j11, j11w⟩, -⟩ := id j1C
        refine r_aload_n (pc2 := 79) dX4_press_78 rfl rfl ?_
        refine r_getf (pc2 := 82) dX4_press_79 rfl fl_4_20 (by assumption) (by assumption) (by rfl) ?_
        refine r_dup (pc2 := 83) dX4_press_82 rfl rfl ?_
        refine r_getf (pc2 := 86) dX4_press_83 rfl fl_4_147 (by assumption) (by assumption) (by rfl) ?_
        refine r_iload_n (pc2 := 87) dX4_press_86 rfl rfl ?_
        refine r_iadd (pc2 := 88) dX4_press_87 rfl ?_
        refine r_putf (pc2 := 91) dX4_press_88 rfl fl_4_147 (by assumption) (by assumption) (by exact Nat.le_of_ble_eq_true rfl) (by rfl) (by rfl) (by rfl) ?_
        first
          | (show rn _ _ _ _ (wst (wst wr 2 (cdO 3 4 v p sh ln (pr + a) gd co)) 2 (cdO 3 4 v p sh ln (pr + a) (gd + a) co)) _
             have gj2 : agO 2 5 wr (wst (wst wr 2 (cdO 3 4 v p sh ln (pr + a) gd co)) 2 (cdO 3 4 v p sh ln (pr + a) (gd + a) co)) := gj1.trans (agO.wst _ (by omega))
             have j2C : Cd (wst (wst wr 2 (cdO 3 4 v p sh ln (pr + a) gd co)) 2 (cdO 3 4 v p sh ln (pr + a) (gd + a) co)) 2 3 4 v p sh ln (pr + a) (gd + a) co c s := j1C.obj _ _ _ _ _ _ _
             have j20 : 0 < (wst (wst wr 2 (cdO 3 4 v p sh ln (pr + a) gd co)) 2 (cdO 3 4 v p sh ln (pr + a) (gd + a) co)).1 := y0
             have j20w := (gj2.2 0 (by omega)).trans y0w
             obtain ⟨⟨j21, j21w⟩, -⟩ := id j2C)
          | (show rn _ _ _ _ (wst (wst wr 2 (cdO 3 4 v p sh ln (pr + a) gd co)) 2 (cdO 3 4 v p sh ln (pr + a) (gd + 0) co)) _
             have gj2 : agO 2 5 wr (wst (wst wr 2 (cdO 3 4 v p sh ln (pr + a) gd co)) 2 (cdO 3 4 v p sh ln (pr + a) (gd + 0) co)) := gj1.trans (agO.wst _ (by omega))
             have j2C : Cd (wst (wst wr 2 (cdO 3 4 v p sh ln (pr + a) gd co)) 2 (cdO 3 4 v p sh ln (pr + a) (gd + 0) co)) 2 3 4 v p sh ln (pr + a) (gd + 0) co c s := j1C.obj _ _ _ _ _ _ _
             have j20 : 0 < (wst (wst wr 2 (cdO 3 4 v p sh ln (pr + a) gd co)) 2 (cdO 3 4 v p sh ln (pr + a) (gd + 0) co)).1 := y0
             have j20w := (gj2.2 0 (by omega)).trans y0w
             obtain ⟨⟨j21, j21w⟩, -⟩ := id j2C)
        refine r_aload_n (pc2 := 92) dX4_press_91 rfl rfl ?_
        refine r_getf (pc2 := 95) dX4_press_92 rfl fl_4_20 (by assumption) (by assumption) (by rfl) ?_
        refine r_dup (pc2 := 96) dX4_press_95 rfl rfl ?_
        refine r_getf (pc2 := 99) dX4_press_96 rfl fl_4_150 (by assumption) (by assumption) (by rfl) ?_
        refine r_iload_n (pc2 := 100) dX4_press_99 rfl rfl ?_
        refine r_iconst (pc2 := 101) dX4_press_100 rfl ?_
        refine r_aload_n (pc2 := 102) dX4_press_101 rfl rfl ?_
        refine r_getf (pc2 := 105) dX4_press_102 rfl fl_4_20 (by assumption) (by assumption) (by rfl) ?_
        refine r_getf (pc2 := 108) dX4_press_105 rfl fl_4_92 (by assumption) (by assumption) (by rfl) ?_
        refine r_iadd (pc2 := 109) dX4_press_108 rfl ?_
        refine r_imul (pc2 := 110) dX4_press_109 rfl ?_
        refine r_iadd (pc2 := 111) dX4_press_110 rfl ?_
        refine r_putf (pc2 := 114) dX4_press_111 rfl fl_4_150 (by assumption) (by assumption) (by exact Nat.le_of_ble_eq_true rfl) (by rfl) (by rfl) (by rfl) ?_
        first
          | (show rn _ _ _ _ (wst (wst (wst wr 2 (cdO 3 4 v p sh ln (pr + a) gd co)) 2 (cdO 3 4 v p sh ln (pr + a) (gd + a) co)) 2 (cdO 3 4 v p sh ln (pr + a) (gd + a) (co + a * (3 + p)))) _
             have gj3 : agO 2 5 wr (wst (wst (wst wr 2 (cdO 3 4 v p sh ln (pr + a) gd co)) 2 (cdO 3 4 v p sh ln (pr + a) (gd + a) co)) 2 (cdO 3 4 v p sh ln (pr + a) (gd + a) (co + a * (3 + p)))) := gj2.trans (agO.wst _ (by omega))
             have j3C : Cd (wst (wst (wst wr 2 (cdO 3 4 v p sh ln (pr + a) gd co)) 2 (cdO 3 4 v p sh ln (pr + a) (gd + a) co)) 2 (cdO 3 4 v p sh ln (pr + a) (gd + a) (co + a * (3 + p)))) 2 3 4 v p sh ln (pr + a) (gd + a) (co + a * (3 + p)) c s := j2C.obj _ _ _ _ _ _ _
             have j30 : 0 < (wst (wst (wst wr 2 (cdO 3 4 v p sh ln (pr + a) gd co)) 2 (cdO 3 4 v p sh ln (pr + a) (gd + a) co)) 2 (cdO 3 4 v p sh ln (pr + a) (gd + a) (co + a * (3 + p)))).1 := y0
             have j30w := (gj3.2 0 (by omega)).trans y0w
             obtain ⟨⟨j31, j31w⟩, -⟩ := id j3C)
          | (show rn _ _ _ _ (wst (wst (wst wr 2 (cdO 3 4 v p sh ln (pr + a) gd co)) 2 (cdO 3 4 v p sh ln (pr + a) (gd + 0) co)) 2 (cdO 3 4 v p sh ln (pr + a) (gd + 0) (co + a * (3 + p)))) _
             have gj3 : agO 2 5 wr (wst (wst (wst wr 2 (cdO 3 4 v p sh ln (pr + a) gd co)) 2 (cdO 3 4 v p sh ln (pr + a) (gd + 0) co)) 2 (cdO 3 4 v p sh ln (pr + a) (gd + 0) (co + a * (3 + p)))) := gj2.trans (agO.wst _ (by omega))
             have j3C : Cd (wst (wst (wst wr 2 (cdO 3 4 v p sh ln (pr + a) gd co)) 2 (cdO 3 4 v p sh ln (pr + a) (gd + 0) co)) 2 (cdO 3 4 v p sh ln (pr + a) (gd + 0) (co + a * (3 + p)))) 2 3 4 v p sh ln (pr + a) (gd + 0) (co + a * (3 + p)) c s := j2C.obj _ _ _ _ _ _ _
             have j30 : 0 < (wst (wst (wst wr 2 (cdO 3 4 v p sh ln (pr + a) gd co)) 2 (cdO 3 4 v p sh ln (pr + a) (gd + 0) co)) 2 (cdO 3 4 v p sh ln (pr + a) (gd + 0) (co + a * (3 + p)))).1 := y0
             have j30w := (gj3.2 0 (by omega)).trans y0w
             obtain ⟨⟨j31, j31w⟩, -⟩ := id j3C)
        refine r_iload_n (pc2 := 115) dX4_press_114 rfl rfl ?_
        refine r_ret dX4_press_115 rfl ?_
        first
          | (refine RA_s (x := a) (V2 := (v, p, sh, ln, pr + a, gd + a, co + a * (3 + p), c, s)) ?_ rfl ?_ ?_
             · show (if ¬ (1 ≤ a ∧ a ≤ 999) then (-102, none) else if 99999 < pr + a then (-103, none) else if (wvF p v s (ssF p sh ln) (cnA p 19)) = v then (a, some (v, p, sh, ln, pr + a, gd + a, co + a * (3 + p), c, s)) else (0, some (v, p, sh, ln, pr + a, gd + 0, co + a * (3 + p), c, s))) = _
               rw [if_neg (by omega), if_neg (by omega), if_pos h45]
             · exact ((qgr.mono (by omega) (by omega)).trans (gr.mono (by omega) (by omega))).trans (gj3.mono (by omega) (by omega))
             · exact CLS_card hr gj3 _ j3C)
          | (refine RA_s (x := 0) (V2 := (v, p, sh, ln, pr + a, gd + 0, co + a * (3 + p), c, s)) ?_ rfl ?_ ?_
             · show (if ¬ (1 ≤ a ∧ a ≤ 999) then (-102, none) else if 99999 < pr + a then (-103, none) else if (wvF p v s (ssF p sh ln) (cnA p 19)) = v then (a, some (v, p, sh, ln, pr + a, gd + a, co + a * (3 + p), c, s)) else (0, some (v, p, sh, ln, pr + a, gd + 0, co + a * (3 + p), c, s))) = _
               rw [if_neg (by omega), if_neg (by omega), if_neg h45]
             · exact ((qgr.mono (by omega) (by omega)).trans (gr.mono (by omega) (by omega))).trans (gj3.mono (by omega) (by omega))
             · exact CLS_card hr gj3 _ j3C)
    · refine r_bipush (pc2 := 30) dX4_press_28 rfl (by decide) ?_
      refine r_ret dX4_press_30 rfl ?_
      refine RA_n (x := -103) ?_ rfl agO.rf h
      show (if ¬ (1 ≤ a ∧ a ≤ 999) then (-102, none) else if 99999 < pr + a then (-103, none) else if (wvF p v s (ssF p sh ln) (cnA p 19)) = v then (a, some (v, p, sh, ln, pr + a, gd + a, co + a * (3 + p), c, s)) else (0, some (v, p, sh, ln, pr + a, gd + 0, co + a * (3 + p), c, s))) = _
      rw [if_neg (by omega), if_pos (by omega)]
  · refine r_bipush (pc2 := 13) dX4_press_11 rfl (by decide) ?_
    refine r_ret dX4_press_13 rfl ?_
    refine RA_n (x := -102) ?_ rfl agO.rf h
    show (if ¬ (1 ≤ a ∧ a ≤ 999) then (-102, none) else if 99999 < pr + a then (-103, none) else if (wvF p v s (ssF p sh ln) (cnA p 19)) = v then (a, some (v, p, sh, ln, pr + a, gd + a, co + a * (3 + p), c, s)) else (0, some (v, p, sh, ln, pr + a, gd + 0, co + a * (3 + p), c, s))) = _
    rw [if_pos (by omega)]
