/-! the class's acts -/
/-- what an act leaves: its answer, and the world -/
def RC (w w' : av_W) (r' : Option Value) (x : Int) (V : CV) (L : Nat → CV) (n : Int) (S : CV) (hs len : Int) (t : Nat → Int) : Prop := r' = some (.int (iN x)) ∧ agO 0 33 w w' ∧ CLS w' V L n S hs len t
/-- an act's answer, and the card it makes, if it changes it -/
def RA (w w' : av_W) (r' : Option Value) (o : Int × Option CV) (V : CV) (L : Nat → CV) (n : Int) (S : CV) (hs len : Int) (t : Nat → Int) : Prop := match o with
  | (x, none) => RC w w' r' x V L n S hs len t
  | (x, some V2) => RC w w' r' x V2 (recL L n V) (recN n) S hs len t
theorem RA_n {w w' : av_W} {r' : Option Value} {o : Int × Option CV} {x : Int} {V : CV} {L : Nat → CV} {n : Int} {S : CV} {hs len : Int} {t : Nat → Int} (e : o = (x, none)) (h1 : r' = some (.int (iN x))) (h2 : agO 0 33 w w') (h3 : CLS w' V L n S hs len t) : RA w w' r' o V L n S hs len t := by
  subst e
  exact ⟨h1, h2, h3⟩
theorem RA_s {w w' : av_W} {r' : Option Value} {o : Int × Option CV} {x : Int} {V V2 : CV} {L : Nat → CV} {n : Int} {S : CV} {hs len : Int} {t : Nat → Int} (e : o = (x, some V2)) (h1 : r' = some (.int (iN x))) (h2 : agO 0 33 w w') (h3 : CLS w' V2 (recL L n V) (recN n) S hs len t) : RA w w' r' o V L n S hs len t := by
  subst e
  exact ⟨h1, h2, h3⟩
/-- a card's values are in range -/
def KV (V : CV) : Prop := KR V.1 V.2.1 V.2.2.1 V.2.2.2.1 ∧ SR V.2.2.2.2.2.2.2.2 ∧ (∀ j : Nat, j < 48 → 0 ≤ V.2.2.2.2.2.2.2.1 j ∧ V.2.2.2.2.2.2.2.1 j ≤ 9) ∧ (0 ≤ V.2.2.2.2.1 ∧ V.2.2.2.2.1 ≤ 99999)
theorem colI_rg {c : Nat → Int} (h : ∀ j : Nat, j < 48 → 0 ≤ c j ∧ c j ≤ 9) (x y : Int) : -1 ≤ colI c x y ∧ colI c x y ≤ 9 := by
  unfold colI
  split
  · have := h (x * 12 + y).toNat (by omega)
    omega
  · omega
theorem sDs_rg {s : Nat → Int} (h : SR s) (x : Int) : -1 ≤ sD s x ∧ sD s x ≤ 3 := by
  unfold sD
  split
  · have := h x.toNat (by omega)
    omega
  · omega
theorem c_rec (w : av_W) (V : CV) (L : Nat → CV) (n : Int) (S : CV) (hs len : Int) (t : Nat → Int) (h : CLS w V L n S hs len t) (hn : 0 ≤ n ∧ n ≤ 4) : cl MX2_record [.ref 14, .ref 2] w (fun r' w' => r' = none ∧ agO 14 28 w w' ∧ CLS w' V (recL L n V) (recN n) S hs len t) := by
  obtain ⟨h33, -, hV, -, -, -, -, ⟨q, hH⟩, -⟩ := id h
  refine (c_record w h33 V hV q n L hH hn).imp (fun r' w' h2 => ?_)
  exact ⟨h2.1, h2.2.1, CLS_hist h h2.2.1 _ _ h2.2.2⟩

def o_colour (V : CV) (a : Int) (b : Int) (k : Int) : Int × Option CV := match V with
  | (v, p, sh, ln, pr, gd, co, c, s) => if ¬ ((0 ≤ a ∧ a ≤ v - 1) ∧ (0 ≤ b ∧ b ≤ 11)) then (-101, none) else if ¬ (0 ≤ k ∧ k ≤ 9) then (-102, none) else if colI c a b = k then (-105, none) else (colI c a b, some (v, p, sh, ln, pr, gd, co, updZ c (a * 12 + b).toNat k, s))

set_option maxHeartbeats 4000000 in
theorem c_colour (w : av_W) (v p sh ln pr gd co : Int) (c s : Nat → Int) (L : Nat → CV) (n : Int) (S : CV) (hs len : Int) (t : Nat → Int) (h : CLS w (v, p, sh, ln, pr, gd, co, c, s) L n S hs len t) (hV : KV (v, p, sh, ln, pr, gd, co, c, s)) (hn : 0 ≤ n ∧ n ≤ 4) (a : Int) (ha : RG a) (b : Int) (hb : RG b) (k : Int) (hk : RG k) : cl MX4_colour [.ref 0, .int (iN a), .int (iN b), .int (iN k)] w (fun r' w' => RA w w' r' (o_colour (v, p, sh, ln, pr, gd, co, c, s) a b k) (v, p, sh, ln, pr, gd, co, c, s) L n S hs len t) := by
  obtain ⟨x33, x0w, xC, ⟨xf, xg, xG⟩, ⟨xT, xTV⟩, ⟨xf2, xg2, xH⟩, ⟨xb, xB⟩, ⟨xq, xP⟩, xS, ⟨xk, xX⟩⟩ := id h
  have x0 : 0 < w.1 := by omega
  have xC : Cd w 2 3 4 v p sh ln pr gd co c s := xC
  obtain ⟨⟨x1, x1w⟩, -⟩ := id xC
  have x14 : 14 < w.1 := by omega
  have x14w := xP.1
  obtain ⟨hK, hS, hc, hpr⟩ := id hV
  have hK : KR v p sh ln := hK
  have hS : SR s := hS
  have hc : ∀ j : Nat, j < 48 → 0 ≤ c j ∧ c j ≤ 9 := hc
  have hpr : 0 ≤ pr ∧ pr ≤ 99999 := hpr
  obtain ⟨hv, hp, hsh, hln⟩ := id hK
  have haR : -2147483648 ≤ a ∧ a < 2147483648 := ha
  have hbR : -2147483648 ≤ b ∧ b < 2147483648 := hb
  have hkR : -2147483648 ≤ k ∧ k < 2147483648 := hk
  have hcI := colI_rg hc a b
  show rn MX4_colour 0 [some (.ref 0), some (.int (iN a)), some (.int (iN b)), some (.int (iN k)), none] [] w _
  refine r_aload_n (pc2 := 1) dX4_colour_0 rfl rfl ?_
  refine r_getf (pc2 := 4) dX4_colour_1 rfl fl_4_20 (by assumption) (by assumption) (by rfl) ?_
  refine r_iload_n (pc2 := 5) dX4_colour_4 rfl rfl ?_
  refine r_callv_1 (pc2 := 8) dX4_colour_5 rfl rs_4_55 rfl (by decide) rfl (Nat.le_of_ble_eq_true rfl) (Nat.le_of_ble_eq_true rfl) (by assumption) (by assumption) (c_hasView w 2 3 4 v p sh ln pr gd co c s xC hK a ha) (fun r_ w_ h_ => ?_)
  rw [h_.1, h_.2]
  clear h_ w_ r_
  refine ⟨rfl, ?_⟩
  refine r_ifb_eq (pc2 := 11) (tgt := 18) dX4_colour_8 rfl (by decide)  (fun h8 => ?_) (fun h8 => ?_)
  · refine r_bipush (pc2 := 20) dX4_colour_18 rfl (by decide) ?_
    refine r_ret dX4_colour_20 rfl ?_
    refine RA_n (x := -101) ?_ rfl agO.rf h
    show (if ¬ ((0 ≤ a ∧ a ≤ v - 1) ∧ (0 ≤ b ∧ b ≤ 11)) then (-101, none) else if ¬ (0 ≤ k ∧ k ≤ 9) then (-102, none) else if colI c a b = k then (-105, none) else (colI c a b, some (v, p, sh, ln, pr, gd, co, updZ c (a * 12 + b).toNat k, s))) = _
    rw [if_pos (by omega)]
  · refine r_iload_n (pc2 := 12) dX4_colour_11 rfl rfl ?_
    refine r_calls_1 (pc2 := 15) dX4_colour_12 rfl rs_4_59 rfl (by decide) rfl (Nat.le_of_ble_eq_true rfl) (Nat.le_of_ble_eq_true rfl) (c_isRidge w b hb) (fun r_ w_ h_ => ?_)
    rw [h_.1, h_.2]
    clear h_ w_ r_
    refine ⟨rfl, ?_⟩
    refine r_ifb_ne (pc2 := 18) (tgt := 21) dX4_colour_15 rfl (by decide)  (fun h15 => ?_) (fun h15 => ?_)
    · refine r_iload_n (pc2 := 22) dX4_colour_21 rfl rfl ?_
      refine r_iconst (pc2 := 23) dX4_colour_22 rfl ?_
      refine r_bipush (pc2 := 25) dX4_colour_23 rfl (by decide) ?_
      refine r_calls_3 (pc2 := 28) dX4_colour_25 rfl rs_4_62 rfl (by decide) rfl (Nat.le_of_ble_eq_true rfl) (Nat.le_of_ble_eq_true rfl) (c_isWithin w k 0 9 hk ⟨by omega, by omega⟩ ⟨by omega, by omega⟩) (fun r_ w_ h_ => ?_)
      rw [h_.1, h_.2]
      clear h_ w_ r_
      refine ⟨rfl, ?_⟩
      refine r_ifb_ne (pc2 := 31) (tgt := 34) dX4_colour_28 rfl (by decide)  (fun h28 => ?_) (fun h28 => ?_)
      · refine r_aload_n (pc2 := 35) dX4_colour_34 rfl rfl ?_
        refine r_getf (pc2 := 38) dX4_colour_35 rfl fl_4_20 (by assumption) (by assumption) (by rfl) ?_
        refine r_iload_n (pc2 := 39) dX4_colour_38 rfl rfl ?_
        refine r_iload_n (pc2 := 40) dX4_colour_39 rfl rfl ?_
        refine r_callv_2 (pc2 := 43) dX4_colour_40 rfl rs_4_66 rfl (by decide) rfl (Nat.le_of_ble_eq_true rfl) (Nat.le_of_ble_eq_true rfl) (by assumption) (by assumption) (c_colourIn w 2 3 4 v p sh ln pr gd co c s xC hK a b ha hb) (fun r_ w_ h_ => ?_)
        rw [h_.1, h_.2]
        clear h_ w_ r_
        refine ⟨rfl, ?_⟩
        refine r_ist_4 (pc2 := 45) dX4_colour_43 rfl rfl ?_
        refine r_iload (pc2 := 47) dX4_colour_45 rfl rfl ?_
        refine r_iload_n (pc2 := 48) dX4_colour_47 rfl rfl ?_
        refine r_icmp_ne (pc2 := 51) (tgt := 54) dX4_colour_48 rfl (by decide) (by omega) (by omega) (fun h48 => ?_) (fun h48 => ?_)
        · refine r_aload_n (pc2 := 55) dX4_colour_54 rfl rfl ?_
          refine r_getf (pc2 := 58) dX4_colour_55 rfl fl_4_34 (by assumption) (by assumption) (by rfl) ?_
          refine r_aload_n (pc2 := 59) dX4_colour_58 rfl rfl ?_
          refine r_getf (pc2 := 62) dX4_colour_59 rfl fl_4_20 (by assumption) (by assumption) (by rfl) ?_
          refine r_callv_1 (pc2 := 65) dX4_colour_62 rfl rs_4_70 rfl (by decide) rfl (Nat.le_of_ble_eq_true rfl) (Nat.le_of_ble_eq_true rfl) (by assumption) (by assumption) (c_rec _ _ _ _ _ _ _ _ h hn) (fun r_ w_ h_ => ?_)
          obtain ⟨e_, gr, hr⟩ := h_
          rw [e_]
          obtain ⟨y33, y0w, yC, ⟨yf, yg, yG⟩, ⟨yT, yTV⟩, ⟨yf2, yg2, yH⟩, ⟨yb, yB⟩, ⟨yq, yP⟩, yS, ⟨yk, yX⟩⟩ := id hr
          have y0 : 0 < w_.1 := by omega
          have yC : Cd w_ 2 3 4 v p sh ln pr gd co c s := yC
          obtain ⟨⟨y1, y1w⟩, -⟩ := id yC
          have y14 : 14 < w_.1 := by omega
          have y14w := yP.1
          refine ⟨gr.1, ?_⟩
          refine r_aload_n (pc2 := 66) dX4_colour_65 rfl rfl ?_
          refine r_getf (pc2 := 69) dX4_colour_66 rfl fl_4_20 (by assumption) (by assumption) (by rfl) ?_
          refine r_iload_n (pc2 := 70) dX4_colour_69 rfl rfl ?_
          refine r_iload_n (pc2 := 71) dX4_colour_70 rfl rfl ?_
          refine r_iload_n (pc2 := 72) dX4_colour_71 rfl rfl ?_
          refine r_callv_3 (pc2 := 75) dX4_colour_72 rfl rs_4_74 rfl (by decide) rfl (Nat.le_of_ble_eq_true rfl) (Nat.le_of_ble_eq_true rfl) (by assumption) (by assumption) (c_paint _ 2 3 4 v p sh ln pr gd co c s yC hK a b k (by omega) (by omega)) (fun r_ w_ h_ => ?_)
          rw [h_.1, h_.2]
          clear h_ w_ r_
          refine ⟨rfl, ?_⟩
          refine r_iload (pc2 := 77) dX4_colour_75 rfl rfl ?_
          refine r_ret dX4_colour_77 rfl ?_
          refine RA_s (x := colI c a b) (V2 := (v, p, sh, ln, pr, gd, co, updZ c (a * 12 + b).toNat k, s)) ?_ rfl ?_ ?_
          · show (if ¬ ((0 ≤ a ∧ a ≤ v - 1) ∧ (0 ≤ b ∧ b ≤ 11)) then (-101, none) else if ¬ (0 ≤ k ∧ k ≤ 9) then (-102, none) else if colI c a b = k then (-105, none) else (colI c a b, some (v, p, sh, ln, pr, gd, co, updZ c (a * 12 + b).toNat k, s))) = _
            rw [if_neg (by omega), if_neg (by omega), if_neg (by omega)]
          · exact (gr.mono (by omega) (by omega)).trans ((agO.wst _ (by omega)).mono (lo := 2) (hi := 5) (by omega) (by omega))
          · exact CLS_card hr (agO.wst _ (by omega)) _ (yC.col _)
        · refine r_bipush (pc2 := 53) dX4_colour_51 rfl (by decide) ?_
          refine r_ret dX4_colour_53 rfl ?_
          refine RA_n (x := -105) ?_ rfl agO.rf h
          show (if ¬ ((0 ≤ a ∧ a ≤ v - 1) ∧ (0 ≤ b ∧ b ≤ 11)) then (-101, none) else if ¬ (0 ≤ k ∧ k ≤ 9) then (-102, none) else if colI c a b = k then (-105, none) else (colI c a b, some (v, p, sh, ln, pr, gd, co, updZ c (a * 12 + b).toNat k, s))) = _
          rw [if_neg (by omega), if_neg (by omega), if_pos (by omega)]
      · refine r_bipush (pc2 := 33) dX4_colour_31 rfl (by decide) ?_
        refine r_ret dX4_colour_33 rfl ?_
        refine RA_n (x := -102) ?_ rfl agO.rf h
        show (if ¬ ((0 ≤ a ∧ a ≤ v - 1) ∧ (0 ≤ b ∧ b ≤ 11)) then (-101, none) else if ¬ (0 ≤ k ∧ k ≤ 9) then (-102, none) else if colI c a b = k then (-105, none) else (colI c a b, some (v, p, sh, ln, pr, gd, co, updZ c (a * 12 + b).toNat k, s))) = _
        rw [if_neg (by omega), if_pos (by omega)]
    · refine r_bipush (pc2 := 20) dX4_colour_18 rfl (by decide) ?_
      refine r_ret dX4_colour_20 rfl ?_
      refine RA_n (x := -101) ?_ rfl agO.rf h
      show (if ¬ ((0 ≤ a ∧ a ≤ v - 1) ∧ (0 ≤ b ∧ b ≤ 11)) then (-101, none) else if ¬ (0 ≤ k ∧ k ≤ 9) then (-102, none) else if colI c a b = k then (-105, none) else (colI c a b, some (v, p, sh, ln, pr, gd, co, updZ c (a * 12 + b).toNat k, s))) = _
      rw [if_pos (by omega)]

def o_addView (V : CV) : Int × Option CV := match V with
  | (v, p, sh, ln, pr, gd, co, c, s) => if 4 ≤ v then (-103, none) else (v + 1, some (v + 1, p, sh, ln, pr, gd, co, rgF (v * 12) 12 (fun _ => 0) c, preF 6 (inT (v + 1)) s))

def o_removeView (V : CV) (a : Int) : Int × Option CV := match V with
  | (v, p, sh, ln, pr, gd, co, c, s) => if ¬ (0 ≤ a ∧ a ≤ v - 1) then (-101, none) else if v ≤ 2 then (-104, none) else (v - 1, some (v - 1, p, sh, ln, pr, gd, co, rgF (a * 12) ((v - 1 - a) * 12) (fun j => c (j + 12)) c, preF 6 (inT (v - 1)) s))

set_option maxHeartbeats 4000000 in
theorem c_removeView (w : av_W) (v p sh ln pr gd co : Int) (c s : Nat → Int) (L : Nat → CV) (n : Int) (S : CV) (hs len : Int) (t : Nat → Int) (h : CLS w (v, p, sh, ln, pr, gd, co, c, s) L n S hs len t) (hV : KV (v, p, sh, ln, pr, gd, co, c, s)) (hn : 0 ≤ n ∧ n ≤ 4) (a : Int) (ha : RG a) : cl MX4_removeView [.ref 0, .int (iN a)] w (fun r' w' => RA w w' r' (o_removeView (v, p, sh, ln, pr, gd, co, c, s) a) (v, p, sh, ln, pr, gd, co, c, s) L n S hs len t) := by
  obtain ⟨x33, x0w, xC, ⟨xf, xg, xG⟩, ⟨xT, xTV⟩, ⟨xf2, xg2, xH⟩, ⟨xb, xB⟩, ⟨xq, xP⟩, xS, ⟨xk, xX⟩⟩ := id h
  have x0 : 0 < w.1 := by omega
  have xC : Cd w 2 3 4 v p sh ln pr gd co c s := xC
  obtain ⟨⟨x1, x1w⟩, -⟩ := id xC
  have x14 : 14 < w.1 := by omega
  have x14w := xP.1
  obtain ⟨hK, hS, hc, hpr⟩ := id hV
  have hK : KR v p sh ln := hK
  have hS : SR s := hS
  have hc : ∀ j : Nat, j < 48 → 0 ≤ c j ∧ c j ≤ 9 := hc
  have hpr : 0 ≤ pr ∧ pr ≤ 99999 := hpr
  obtain ⟨hv, hp, hsh, hln⟩ := id hK
  have haR : -2147483648 ≤ a ∧ a < 2147483648 := ha
  show rn MX4_removeView 0 [some (.ref 0), some (.int (iN a))] [] w _
  refine r_aload_n (pc2 := 1) dX4_removeView_0 rfl rfl ?_
  refine r_getf (pc2 := 4) dX4_removeView_1 rfl fl_4_20 (by assumption) (by assumption) (by rfl) ?_
  refine r_iload_n (pc2 := 5) dX4_removeView_4 rfl rfl ?_
  refine r_callv_1 (pc2 := 8) dX4_removeView_5 rfl rs_4_55 rfl (by decide) rfl (Nat.le_of_ble_eq_true rfl) (Nat.le_of_ble_eq_true rfl) (by assumption) (by assumption) (c_hasView w 2 3 4 v p sh ln pr gd co c s xC hK a ha) (fun r_ w_ h_ => ?_)
  rw [h_.1, h_.2]
  clear h_ w_ r_
  refine ⟨rfl, ?_⟩
  refine r_ifb_ne (pc2 := 11) (tgt := 14) dX4_removeView_8 rfl (by decide)  (fun h8 => ?_) (fun h8 => ?_)
  · refine r_aload_n (pc2 := 15) dX4_removeView_14 rfl rfl ?_
    refine r_getf (pc2 := 18) dX4_removeView_15 rfl fl_4_20 (by assumption) (by assumption) (by rfl) ?_
    refine r_getf (pc2 := 21) dX4_removeView_18 rfl fl_4_78 (by assumption) (by assumption) (by rfl) ?_
    refine r_iconst (pc2 := 22) dX4_removeView_21 rfl ?_
    refine r_icmp_gt (pc2 := 25) (tgt := 28) dX4_removeView_22 rfl (by decide) (by omega) (by omega) (fun h22 => ?_) (fun h22 => ?_)
    · refine r_aload_n (pc2 := 29) dX4_removeView_28 rfl rfl ?_
      refine r_getf (pc2 := 32) dX4_removeView_29 rfl fl_4_34 (by assumption) (by assumption) (by rfl) ?_
      refine r_aload_n (pc2 := 33) dX4_removeView_32 rfl rfl ?_
      refine r_getf (pc2 := 36) dX4_removeView_33 rfl fl_4_20 (by assumption) (by assumption) (by rfl) ?_
      refine r_callv_1 (pc2 := 39) dX4_removeView_36 rfl rs_4_70 rfl (by decide) rfl (Nat.le_of_ble_eq_true rfl) (Nat.le_of_ble_eq_true rfl) (by assumption) (by assumption) (c_rec _ _ _ _ _ _ _ _ h hn) (fun r_ w_ h_ => ?_)
      obtain ⟨e_, gr, hr⟩ := h_
      rw [e_]
      obtain ⟨y33, y0w, yC, ⟨yf, yg, yG⟩, ⟨yT, yTV⟩, ⟨yf2, yg2, yH⟩, ⟨yb, yB⟩, ⟨yq, yP⟩, yS, ⟨yk, yX⟩⟩ := id hr
      have y0 : 0 < w_.1 := by omega
      have yC : Cd w_ 2 3 4 v p sh ln pr gd co c s := yC
      obtain ⟨⟨y1, y1w⟩, -⟩ := id yC
      have y14 : 14 < w_.1 := by omega
      have y14w := yP.1
      refine ⟨gr.1, ?_⟩
      refine r_aload_n (pc2 := 40) dX4_removeView_39 rfl rfl ?_
      refine r_getf (pc2 := 43) dX4_removeView_40 rfl fl_4_20 (by assumption) (by assumption) (by rfl) ?_
      refine r_iload_n (pc2 := 44) dX4_removeView_43 rfl rfl ?_
      refine r_callv_1 (pc2 := 47) dX4_removeView_44 rfl rs_4_85 rfl (by decide) rfl (Nat.le_of_ble_eq_true rfl) (Nat.le_of_ble_eq_true rfl) (by assumption) (by assumption) (c_dropView _ 2 3 4 v p sh ln pr gd co c s yC hK a (by omega) (cdW w_ 2 3 4 (cdO 3 4 (v - 1) p sh ln pr gd co) (arO 48 (rgF (a * 12) ((v - 1 - a) * 12) (fun j => c (j + 12)) c)) (arO 6 (preF 6 (inT (v - 1)) s))) rfl (by omega)) (fun r_ w_ h_ => ?_)
      rw [h_.1, h_.2]
      clear h_ w_ r_
      refine ⟨rfl, ?_⟩
      have zC := Cd_cdW yC (v - 1) p sh ln pr gd co (rgF (a * 12) ((v - 1 - a) * 12) (fun j => c (j + 12)) c) (preF 6 (inT (v - 1)) s)
      have gz : agO 2 5 w_ (cdW w_ 2 3 4 (cdO 3 4 (v - 1) p sh ln pr gd co) (arO 48 (rgF (a * 12) ((v - 1 - a) * 12) (fun j => c (j + 12)) c)) (arO 6 (preF 6 (inT (v - 1)) s))) := agO.cdW _ _ _ (by omega)
      have z0w := (gz.2 0 (by omega)).trans y0w
      have z0 : 0 < (cdW w_ 2 3 4 (cdO 3 4 (v - 1) p sh ln pr gd co) (arO 48 (rgF (a * 12) ((v - 1 - a) * 12) (fun j => c (j + 12)) c)) (arO 6 (preF 6 (inT (v - 1)) s))).1 := y0
      obtain ⟨⟨z1, z1w⟩, -⟩ := id zC
      refine r_aload_n (pc2 := 48) dX4_removeView_47 rfl rfl ?_
      refine r_getf (pc2 := 51) dX4_removeView_48 rfl fl_4_20 (by assumption) (by assumption) (by rfl) ?_
      refine r_getf (pc2 := 54) dX4_removeView_51 rfl fl_4_78 (by assumption) (by assumption) (by rfl) ?_
      refine r_ret dX4_removeView_54 rfl ?_
      refine RA_s (x := v - 1) (V2 := (v - 1, p, sh, ln, pr, gd, co, rgF (a * 12) ((v - 1 - a) * 12) (fun j => c (j + 12)) c, preF 6 (inT (v - 1)) s)) ?_ rfl ?_ ?_
      · show (if ¬ (0 ≤ a ∧ a ≤ v - 1) then (-101, none) else if v ≤ 2 then (-104, none) else (v - 1, some (v - 1, p, sh, ln, pr, gd, co, rgF (a * 12) ((v - 1 - a) * 12) (fun j => c (j + 12)) c, preF 6 (inT (v - 1)) s))) = _
        rw [if_neg (by omega), if_neg (by omega)]
      · exact (gr.mono (by omega) (by omega)).trans ((gz).mono (lo := 2) (hi := 5) (by omega) (by omega))
      · exact CLS_card hr (gz) _ (zC)
    · refine r_bipush (pc2 := 27) dX4_removeView_25 rfl (by decide) ?_
      refine r_ret dX4_removeView_27 rfl ?_
      refine RA_n (x := -104) ?_ rfl agO.rf h
      show (if ¬ (0 ≤ a ∧ a ≤ v - 1) then (-101, none) else if v ≤ 2 then (-104, none) else (v - 1, some (v - 1, p, sh, ln, pr, gd, co, rgF (a * 12) ((v - 1 - a) * 12) (fun j => c (j + 12)) c, preF 6 (inT (v - 1)) s))) = _
      rw [if_neg (by omega), if_pos (by omega)]
  · refine r_bipush (pc2 := 13) dX4_removeView_11 rfl (by decide) ?_
    refine r_ret dX4_removeView_13 rfl ?_
    refine RA_n (x := -101) ?_ rfl agO.rf h
    show (if ¬ (0 ≤ a ∧ a ≤ v - 1) then (-101, none) else if v ≤ 2 then (-104, none) else (v - 1, some (v - 1, p, sh, ln, pr, gd, co, rgF (a * 12) ((v - 1 - a) * 12) (fun j => c (j + 12)) c, preF 6 (inT (v - 1)) s))) = _
    rw [if_pos (by omega)]

def o_swap (V : CV) (a : Int) (b : Int) : Int × Option CV := match V with
  | (v, p, sh, ln, pr, gd, co, c, s) => if ¬ ((0 ≤ a ∧ a ≤ v - 1) ∧ (0 ≤ b ∧ b ≤ v - 1)) then (-101, none) else if a = b then (-105, none) else (sm 12 (unF a b c), some (v, p, sh, ln, pr, gd, co, exF a b 12 c, s))

set_option maxHeartbeats 4000000 in
theorem c_swap (w : av_W) (v p sh ln pr gd co : Int) (c s : Nat → Int) (L : Nat → CV) (n : Int) (S : CV) (hs len : Int) (t : Nat → Int) (h : CLS w (v, p, sh, ln, pr, gd, co, c, s) L n S hs len t) (hV : KV (v, p, sh, ln, pr, gd, co, c, s)) (hn : 0 ≤ n ∧ n ≤ 4) (a : Int) (ha : RG a) (b : Int) (hb : RG b) : cl MX4_swap [.ref 0, .int (iN a), .int (iN b)] w (fun r' w' => RA w w' r' (o_swap (v, p, sh, ln, pr, gd, co, c, s) a b) (v, p, sh, ln, pr, gd, co, c, s) L n S hs len t) := by
  obtain ⟨x33, x0w, xC, ⟨xf, xg, xG⟩, ⟨xT, xTV⟩, ⟨xf2, xg2, xH⟩, ⟨xb, xB⟩, ⟨xq, xP⟩, xS, ⟨xk, xX⟩⟩ := id h
  have x0 : 0 < w.1 := by omega
  have xC : Cd w 2 3 4 v p sh ln pr gd co c s := xC
  obtain ⟨⟨x1, x1w⟩, -⟩ := id xC
  have x14 : 14 < w.1 := by omega
  have x14w := xP.1
  obtain ⟨hK, hS, hc, hpr⟩ := id hV
  have hK : KR v p sh ln := hK
  have hS : SR s := hS
  have hc : ∀ j : Nat, j < 48 → 0 ≤ c j ∧ c j ≤ 9 := hc
  have hpr : 0 ≤ pr ∧ pr ≤ 99999 := hpr
  obtain ⟨hv, hp, hsh, hln⟩ := id hK
  have haR : -2147483648 ≤ a ∧ a < 2147483648 := ha
  have hbR : -2147483648 ≤ b ∧ b < 2147483648 := hb
  show rn MX4_swap 0 [some (.ref 0), some (.int (iN a)), some (.int (iN b))] [] w _
  refine r_aload_n (pc2 := 1) dX4_swap_0 rfl rfl ?_
  refine r_getf (pc2 := 4) dX4_swap_1 rfl fl_4_20 (by assumption) (by assumption) (by rfl) ?_
  refine r_iload_n (pc2 := 5) dX4_swap_4 rfl rfl ?_
  refine r_callv_1 (pc2 := 8) dX4_swap_5 rfl rs_4_55 rfl (by decide) rfl (Nat.le_of_ble_eq_true rfl) (Nat.le_of_ble_eq_true rfl) (by assumption) (by assumption) (c_hasView w 2 3 4 v p sh ln pr gd co c s xC hK a ha) (fun r_ w_ h_ => ?_)
  rw [h_.1, h_.2]
  clear h_ w_ r_
  refine ⟨rfl, ?_⟩
  refine r_ifb_eq (pc2 := 11) (tgt := 22) dX4_swap_8 rfl (by decide)  (fun h8 => ?_) (fun h8 => ?_)
  · refine r_bipush (pc2 := 24) dX4_swap_22 rfl (by decide) ?_
    refine r_ret dX4_swap_24 rfl ?_
    refine RA_n (x := -101) ?_ rfl agO.rf h
    show (if ¬ ((0 ≤ a ∧ a ≤ v - 1) ∧ (0 ≤ b ∧ b ≤ v - 1)) then (-101, none) else if a = b then (-105, none) else (sm 12 (unF a b c), some (v, p, sh, ln, pr, gd, co, exF a b 12 c, s))) = _
    rw [if_pos (by omega)]
  · refine r_aload_n (pc2 := 12) dX4_swap_11 rfl rfl ?_
    refine r_getf (pc2 := 15) dX4_swap_12 rfl fl_4_20 (by assumption) (by assumption) (by rfl) ?_
    refine r_iload_n (pc2 := 16) dX4_swap_15 rfl rfl ?_
    refine r_callv_1 (pc2 := 19) dX4_swap_16 rfl rs_4_55 rfl (by decide) rfl (Nat.le_of_ble_eq_true rfl) (Nat.le_of_ble_eq_true rfl) (by assumption) (by assumption) (c_hasView w 2 3 4 v p sh ln pr gd co c s xC hK b hb) (fun r_ w_ h_ => ?_)
    rw [h_.1, h_.2]
    clear h_ w_ r_
    refine ⟨rfl, ?_⟩
    refine r_ifb_ne (pc2 := 22) (tgt := 25) dX4_swap_19 rfl (by decide)  (fun h19 => ?_) (fun h19 => ?_)
    · refine r_iload_n (pc2 := 26) dX4_swap_25 rfl rfl ?_
      refine r_iload_n (pc2 := 27) dX4_swap_26 rfl rfl ?_
      refine r_icmp_ne (pc2 := 30) (tgt := 33) dX4_swap_27 rfl (by decide) (by omega) (by omega) (fun h27 => ?_) (fun h27 => ?_)
      · refine r_aload_n (pc2 := 34) dX4_swap_33 rfl rfl ?_
        refine r_getf (pc2 := 37) dX4_swap_34 rfl fl_4_34 (by assumption) (by assumption) (by rfl) ?_
        refine r_aload_n (pc2 := 38) dX4_swap_37 rfl rfl ?_
        refine r_getf (pc2 := 41) dX4_swap_38 rfl fl_4_20 (by assumption) (by assumption) (by rfl) ?_
        refine r_callv_1 (pc2 := 44) dX4_swap_41 rfl rs_4_70 rfl (by decide) rfl (Nat.le_of_ble_eq_true rfl) (Nat.le_of_ble_eq_true rfl) (by assumption) (by assumption) (c_rec _ _ _ _ _ _ _ _ h hn) (fun r_ w_ h_ => ?_)
        obtain ⟨e_, gr, hr⟩ := h_
        rw [e_]
        obtain ⟨y33, y0w, yC, ⟨yf, yg, yG⟩, ⟨yT, yTV⟩, ⟨yf2, yg2, yH⟩, ⟨yb, yB⟩, ⟨yq, yP⟩, yS, ⟨yk, yX⟩⟩ := id hr
        have y0 : 0 < w_.1 := by omega
        have yC : Cd w_ 2 3 4 v p sh ln pr gd co c s := yC
        obtain ⟨⟨y1, y1w⟩, -⟩ := id yC
        have y14 : 14 < w_.1 := by omega
        have y14w := yP.1
        refine ⟨gr.1, ?_⟩
        refine r_aload_n (pc2 := 45) dX4_swap_44 rfl rfl ?_
        refine r_getf (pc2 := 48) dX4_swap_45 rfl fl_4_20 (by assumption) (by assumption) (by rfl) ?_
        refine r_iload_n (pc2 := 49) dX4_swap_48 rfl rfl ?_
        refine r_iload_n (pc2 := 50) dX4_swap_49 rfl rfl ?_
        refine r_callv_2 (pc2 := 53) dX4_swap_50 rfl rs_4_89 rfl (by decide) rfl (Nat.le_of_ble_eq_true rfl) (Nat.le_of_ble_eq_true rfl) (by assumption) (by assumption) (c_exchangeViews _ 2 3 4 v p sh ln pr gd co c s yC hK a b (by omega) (by omega) (by omega) (fun j hj => by have := hc j (by omega); omega)) (fun r_ w_ h_ => ?_)
        rw [h_.1, h_.2]
        clear h_ w_ r_
        refine ⟨rfl, ?_⟩
        refine r_ret dX4_swap_53 rfl ?_
        refine RA_s (x := sm 12 (unF a b c)) (V2 := (v, p, sh, ln, pr, gd, co, exF a b 12 c, s)) ?_ rfl ?_ ?_
        · show (if ¬ ((0 ≤ a ∧ a ≤ v - 1) ∧ (0 ≤ b ∧ b ≤ v - 1)) then (-101, none) else if a = b then (-105, none) else (sm 12 (unF a b c), some (v, p, sh, ln, pr, gd, co, exF a b 12 c, s))) = _
          rw [if_neg (by omega), if_neg (by omega)]
        · exact (gr.mono (by omega) (by omega)).trans ((agO.wst _ (by omega)).mono (lo := 2) (hi := 5) (by omega) (by omega))
        · exact CLS_card hr (agO.wst _ (by omega)) _ (yC.col _)
      · refine r_bipush (pc2 := 32) dX4_swap_30 rfl (by decide) ?_
        refine r_ret dX4_swap_32 rfl ?_
        refine RA_n (x := -105) ?_ rfl agO.rf h
        show (if ¬ ((0 ≤ a ∧ a ≤ v - 1) ∧ (0 ≤ b ∧ b ≤ v - 1)) then (-101, none) else if a = b then (-105, none) else (sm 12 (unF a b c), some (v, p, sh, ln, pr, gd, co, exF a b 12 c, s))) = _
        rw [if_neg (by omega), if_pos (by omega)]
    · refine r_bipush (pc2 := 24) dX4_swap_22 rfl (by decide) ?_
      refine r_ret dX4_swap_24 rfl ?_
      refine RA_n (x := -101) ?_ rfl agO.rf h
      show (if ¬ ((0 ≤ a ∧ a ≤ v - 1) ∧ (0 ≤ b ∧ b ≤ v - 1)) then (-101, none) else if a = b then (-105, none) else (sm 12 (unF a b c), some (v, p, sh, ln, pr, gd, co, exF a b 12 c, s))) = _
      rw [if_pos (by omega)]

def o_setPitch (V : CV) (a : Int) : Int × Option CV := match V with
  | (v, p, sh, ln, pr, gd, co, c, s) => if ¬ (2 ≤ a ∧ a ≤ 6) then (-102, none) else if p = a then (-105, none) else (p, some (v, a, sh, ln, pr, gd, co, c, preF 6 (inT v) s))

set_option maxHeartbeats 4000000 in
theorem c_setPitch (w : av_W) (v p sh ln pr gd co : Int) (c s : Nat → Int) (L : Nat → CV) (n : Int) (S : CV) (hs len : Int) (t : Nat → Int) (h : CLS w (v, p, sh, ln, pr, gd, co, c, s) L n S hs len t) (hV : KV (v, p, sh, ln, pr, gd, co, c, s)) (hn : 0 ≤ n ∧ n ≤ 4) (a : Int) (ha : RG a) : cl MX4_setPitch [.ref 0, .int (iN a)] w (fun r' w' => RA w w' r' (o_setPitch (v, p, sh, ln, pr, gd, co, c, s) a) (v, p, sh, ln, pr, gd, co, c, s) L n S hs len t) := by
  obtain ⟨x33, x0w, xC, ⟨xf, xg, xG⟩, ⟨xT, xTV⟩, ⟨xf2, xg2, xH⟩, ⟨xb, xB⟩, ⟨xq, xP⟩, xS, ⟨xk, xX⟩⟩ := id h
  have x0 : 0 < w.1 := by omega
  have xC : Cd w 2 3 4 v p sh ln pr gd co c s := xC
  obtain ⟨⟨x1, x1w⟩, -⟩ := id xC
  have x14 : 14 < w.1 := by omega
  have x14w := xP.1
  obtain ⟨hK, hS, hc, hpr⟩ := id hV
  have hK : KR v p sh ln := hK
  have hS : SR s := hS
  have hc : ∀ j : Nat, j < 48 → 0 ≤ c j ∧ c j ≤ 9 := hc
  have hpr : 0 ≤ pr ∧ pr ≤ 99999 := hpr
  obtain ⟨hv, hp, hsh, hln⟩ := id hK
  have haR : -2147483648 ≤ a ∧ a < 2147483648 := ha
  show rn MX4_setPitch 0 [some (.ref 0), some (.int (iN a)), none] [] w _
  refine r_iload_n (pc2 := 1) dX4_setPitch_0 rfl rfl ?_
  refine r_iconst (pc2 := 2) dX4_setPitch_1 rfl ?_
  refine r_bipush (pc2 := 4) dX4_setPitch_2 rfl (by decide) ?_
  refine r_calls_3 (pc2 := 7) dX4_setPitch_4 rfl rs_4_62 rfl (by decide) rfl (Nat.le_of_ble_eq_true rfl) (Nat.le_of_ble_eq_true rfl) (c_isWithin w a 2 6 ha ⟨by omega, by omega⟩ ⟨by omega, by omega⟩) (fun r_ w_ h_ => ?_)
  rw [h_.1, h_.2]
  clear h_ w_ r_
  refine ⟨rfl, ?_⟩
  refine r_ifb_ne (pc2 := 10) (tgt := 13) dX4_setPitch_7 rfl (by decide)  (fun h7 => ?_) (fun h7 => ?_)
  · refine r_aload_n (pc2 := 14) dX4_setPitch_13 rfl rfl ?_
    refine r_getf (pc2 := 17) dX4_setPitch_14 rfl fl_4_20 (by assumption) (by assumption) (by rfl) ?_
    refine r_getf (pc2 := 20) dX4_setPitch_17 rfl fl_4_92 (by assumption) (by assumption) (by rfl) ?_
    refine r_ist_2 (pc2 := 21) dX4_setPitch_20 rfl rfl ?_
    refine r_iload_n (pc2 := 22) dX4_setPitch_21 rfl rfl ?_
    refine r_iload_n (pc2 := 23) dX4_setPitch_22 rfl rfl ?_
    refine r_icmp_ne (pc2 := 26) (tgt := 29) dX4_setPitch_23 rfl (by decide) (by omega) (by omega) (fun h23 => ?_) (fun h23 => ?_)
    · refine r_aload_n (pc2 := 30) dX4_setPitch_29 rfl rfl ?_
      refine r_getf (pc2 := 33) dX4_setPitch_30 rfl fl_4_34 (by assumption) (by assumption) (by rfl) ?_
      refine r_aload_n (pc2 := 34) dX4_setPitch_33 rfl rfl ?_
      refine r_getf (pc2 := 37) dX4_setPitch_34 rfl fl_4_20 (by assumption) (by assumption) (by rfl) ?_
      refine r_callv_1 (pc2 := 40) dX4_setPitch_37 rfl rs_4_70 rfl (by decide) rfl (Nat.le_of_ble_eq_true rfl) (Nat.le_of_ble_eq_true rfl) (by assumption) (by assumption) (c_rec _ _ _ _ _ _ _ _ h hn) (fun r_ w_ h_ => ?_)
      obtain ⟨e_, gr, hr⟩ := h_
      rw [e_]
      obtain ⟨y33, y0w, yC, ⟨yf, yg, yG⟩, ⟨yT, yTV⟩, ⟨yf2, yg2, yH⟩, ⟨yb, yB⟩, ⟨yq, yP⟩, yS, ⟨yk, yX⟩⟩ := id hr
      have y0 : 0 < w_.1 := by omega
      have yC : Cd w_ 2 3 4 v p sh ln pr gd co c s := yC
      obtain ⟨⟨y1, y1w⟩, -⟩ := id yC
      have y14 : 14 < w_.1 := by omega
      have y14w := yP.1
      refine ⟨gr.1, ?_⟩
      refine r_aload_n (pc2 := 41) dX4_setPitch_40 rfl rfl ?_
      refine r_getf (pc2 := 44) dX4_setPitch_41 rfl fl_4_20 (by assumption) (by assumption) (by rfl) ?_
      refine r_iload_n (pc2 := 45) dX4_setPitch_44 rfl rfl ?_
      refine r_putf (pc2 := 48) dX4_setPitch_45 rfl fl_4_92 (by assumption) (by assumption) (by exact Nat.le_of_ble_eq_true rfl) (by rfl) (by rfl) (by rfl) ?_
      have zC : Cd (wst w_ 2 (cdO 3 4 v a sh ln pr gd co)) 2 3 4 v a sh ln pr gd co c s := yC.obj _ _ _ _ _ _ _
      have gz : agO 2 5 w_ (wst w_ 2 (cdO 3 4 v a sh ln pr gd co)) := agO.wst _ (by omega)
      show rn _ _ _ _ (wst w_ 2 (cdO 3 4 v a sh ln pr gd co)) _
      have z0w := (gz.2 0 (by omega)).trans y0w
      have z0 : 0 < (wst w_ 2 (cdO 3 4 v a sh ln pr gd co)).1 := y0
      obtain ⟨⟨z1, z1w⟩, -⟩ := id zC
      refine r_aload_n (pc2 := 49) dX4_setPitch_48 rfl rfl ?_
      refine r_getf (pc2 := 52) dX4_setPitch_49 rfl fl_4_20 (by assumption) (by assumption) (by rfl) ?_
      refine r_callv_0 (pc2 := 55) dX4_setPitch_52 rfl rs_4_95 rfl (by decide) rfl (Nat.le_of_ble_eq_true rfl) (Nat.le_of_ble_eq_true rfl) (by assumption) (by assumption) (c_resetSlices _ 2 3 4 v a sh ln pr gd co c s zC ⟨hv, ⟨by omega, by omega⟩, hsh, hln⟩) (fun r_ w_ h_ => ?_)
      rw [h_.1, h_.2]
      clear h_ w_ r_
      refine ⟨rfl, ?_⟩
      refine r_iload_n (pc2 := 56) dX4_setPitch_55 rfl rfl ?_
      refine r_ret dX4_setPitch_56 rfl ?_
      refine RA_s (x := p) (V2 := (v, a, sh, ln, pr, gd, co, c, preF 6 (inT v) s)) ?_ rfl ?_ ?_
      · show (if ¬ (2 ≤ a ∧ a ≤ 6) then (-102, none) else if p = a then (-105, none) else (p, some (v, a, sh, ln, pr, gd, co, c, preF 6 (inT v) s))) = _
        rw [if_neg (by omega), if_neg (by omega)]
      · exact (gr.mono (by omega) (by omega)).trans (((agO.wst _ (by omega)).trans (agO.wst _ (by omega))).mono (lo := 2) (hi := 5) (by omega) (by omega))
      · exact CLS_card hr ((agO.wst _ (by omega)).trans (agO.wst _ (by omega))) _ (zC.slc _)
    · refine r_bipush (pc2 := 28) dX4_setPitch_26 rfl (by decide) ?_
      refine r_ret dX4_setPitch_28 rfl ?_
      refine RA_n (x := -105) ?_ rfl agO.rf h
      show (if ¬ (2 ≤ a ∧ a ≤ 6) then (-102, none) else if p = a then (-105, none) else (p, some (v, a, sh, ln, pr, gd, co, c, preF 6 (inT v) s))) = _
      rw [if_neg (by omega), if_pos (by omega)]
  · refine r_bipush (pc2 := 12) dX4_setPitch_10 rfl (by decide) ?_
    refine r_ret dX4_setPitch_12 rfl ?_
    refine RA_n (x := -102) ?_ rfl agO.rf h
    show (if ¬ (2 ≤ a ∧ a ≤ 6) then (-102, none) else if p = a then (-105, none) else (p, some (v, a, sh, ln, pr, gd, co, c, preF 6 (inT v) s))) = _
    rw [if_pos (by omega)]

def o_slice (V : CV) (a : Int) (b : Int) : Int × Option CV := match V with
  | (v, p, sh, ln, pr, gd, co, c, s) => if ¬ ((0 ≤ a ∧ a ≤ p - 1) ∧ (0 ≤ b ∧ b ≤ v - 1)) then (-101, none) else if sD s a = b then (-105, none) else (sD s a, some (v, p, sh, ln, pr, gd, co, c, updZ s a.toNat b))

set_option maxHeartbeats 4000000 in
theorem c_slice (w : av_W) (v p sh ln pr gd co : Int) (c s : Nat → Int) (L : Nat → CV) (n : Int) (S : CV) (hs len : Int) (t : Nat → Int) (h : CLS w (v, p, sh, ln, pr, gd, co, c, s) L n S hs len t) (hV : KV (v, p, sh, ln, pr, gd, co, c, s)) (hn : 0 ≤ n ∧ n ≤ 4) (a : Int) (ha : RG a) (b : Int) (hb : RG b) : cl MX4_slice [.ref 0, .int (iN a), .int (iN b)] w (fun r' w' => RA w w' r' (o_slice (v, p, sh, ln, pr, gd, co, c, s) a b) (v, p, sh, ln, pr, gd, co, c, s) L n S hs len t) := by
  obtain ⟨x33, x0w, xC, ⟨xf, xg, xG⟩, ⟨xT, xTV⟩, ⟨xf2, xg2, xH⟩, ⟨xb, xB⟩, ⟨xq, xP⟩, xS, ⟨xk, xX⟩⟩ := id h
  have x0 : 0 < w.1 := by omega
  have xC : Cd w 2 3 4 v p sh ln pr gd co c s := xC
  obtain ⟨⟨x1, x1w⟩, -⟩ := id xC
  have x14 : 14 < w.1 := by omega
  have x14w := xP.1
  obtain ⟨hK, hS, hc, hpr⟩ := id hV
  have hK : KR v p sh ln := hK
  have hS : SR s := hS
  have hc : ∀ j : Nat, j < 48 → 0 ≤ c j ∧ c j ≤ 9 := hc
  have hpr : 0 ≤ pr ∧ pr ≤ 99999 := hpr
  obtain ⟨hv, hp, hsh, hln⟩ := id hK
  have haR : -2147483648 ≤ a ∧ a < 2147483648 := ha
  have hbR : -2147483648 ≤ b ∧ b < 2147483648 := hb
  have hsI := sDs_rg hS a
  show rn MX4_slice 0 [some (.ref 0), some (.int (iN a)), some (.int (iN b)), none] [] w _
  refine r_aload_n (pc2 := 1) dX4_slice_0 rfl rfl ?_
  refine r_getf (pc2 := 4) dX4_slice_1 rfl fl_4_20 (by assumption) (by assumption) (by rfl) ?_
  refine r_iload_n (pc2 := 5) dX4_slice_4 rfl rfl ?_
  refine r_callv_1 (pc2 := 8) dX4_slice_5 rfl rs_4_98 rfl (by decide) rfl (Nat.le_of_ble_eq_true rfl) (Nat.le_of_ble_eq_true rfl) (by assumption) (by assumption) (c_hasSlice w 2 3 4 v p sh ln pr gd co c s xC hK a ha) (fun r_ w_ h_ => ?_)
  rw [h_.1, h_.2]
  clear h_ w_ r_
  refine ⟨rfl, ?_⟩
  refine r_ifb_eq (pc2 := 11) (tgt := 22) dX4_slice_8 rfl (by decide)  (fun h8 => ?_) (fun h8 => ?_)
  · refine r_bipush (pc2 := 24) dX4_slice_22 rfl (by decide) ?_
    refine r_ret dX4_slice_24 rfl ?_
    refine RA_n (x := -101) ?_ rfl agO.rf h
    show (if ¬ ((0 ≤ a ∧ a ≤ p - 1) ∧ (0 ≤ b ∧ b ≤ v - 1)) then (-101, none) else if sD s a = b then (-105, none) else (sD s a, some (v, p, sh, ln, pr, gd, co, c, updZ s a.toNat b))) = _
    rw [if_pos (by omega)]
  · refine r_aload_n (pc2 := 12) dX4_slice_11 rfl rfl ?_
    refine r_getf (pc2 := 15) dX4_slice_12 rfl fl_4_20 (by assumption) (by assumption) (by rfl) ?_
    refine r_iload_n (pc2 := 16) dX4_slice_15 rfl rfl ?_
    refine r_callv_1 (pc2 := 19) dX4_slice_16 rfl rs_4_55 rfl (by decide) rfl (Nat.le_of_ble_eq_true rfl) (Nat.le_of_ble_eq_true rfl) (by assumption) (by assumption) (c_hasView w 2 3 4 v p sh ln pr gd co c s xC hK b hb) (fun r_ w_ h_ => ?_)
    rw [h_.1, h_.2]
    clear h_ w_ r_
    refine ⟨rfl, ?_⟩
    refine r_ifb_ne (pc2 := 22) (tgt := 25) dX4_slice_19 rfl (by decide)  (fun h19 => ?_) (fun h19 => ?_)
    · refine r_aload_n (pc2 := 26) dX4_slice_25 rfl rfl ?_
      refine r_getf (pc2 := 29) dX4_slice_26 rfl fl_4_20 (by assumption) (by assumption) (by rfl) ?_
      refine r_iload_n (pc2 := 30) dX4_slice_29 rfl rfl ?_
      refine r_callv_1 (pc2 := 33) dX4_slice_30 rfl rs_4_101 rfl (by decide) rfl (Nat.le_of_ble_eq_true rfl) (Nat.le_of_ble_eq_true rfl) (by assumption) (by assumption) (c_viewDue w 2 3 4 v p sh ln pr gd co c s xC hK a ha) (fun r_ w_ h_ => ?_)
      rw [h_.1, h_.2]
      clear h_ w_ r_
      refine ⟨rfl, ?_⟩
      refine r_ist_3 (pc2 := 34) dX4_slice_33 rfl rfl ?_
      refine r_iload_n (pc2 := 35) dX4_slice_34 rfl rfl ?_
      refine r_iload_n (pc2 := 36) dX4_slice_35 rfl rfl ?_
      refine r_icmp_ne (pc2 := 39) (tgt := 42) dX4_slice_36 rfl (by decide) (by omega) (by omega) (fun h36 => ?_) (fun h36 => ?_)
      · refine r_aload_n (pc2 := 43) dX4_slice_42 rfl rfl ?_
        refine r_getf (pc2 := 46) dX4_slice_43 rfl fl_4_34 (by assumption) (by assumption) (by rfl) ?_
        refine r_aload_n (pc2 := 47) dX4_slice_46 rfl rfl ?_
        refine r_getf (pc2 := 50) dX4_slice_47 rfl fl_4_20 (by assumption) (by assumption) (by rfl) ?_
        refine r_callv_1 (pc2 := 53) dX4_slice_50 rfl rs_4_70 rfl (by decide) rfl (Nat.le_of_ble_eq_true rfl) (Nat.le_of_ble_eq_true rfl) (by assumption) (by assumption) (c_rec _ _ _ _ _ _ _ _ h hn) (fun r_ w_ h_ => ?_)
        obtain ⟨e_, gr, hr⟩ := h_
        rw [e_]
        obtain ⟨y33, y0w, yC, ⟨yf, yg, yG⟩, ⟨yT, yTV⟩, ⟨yf2, yg2, yH⟩, ⟨yb, yB⟩, ⟨yq, yP⟩, yS, ⟨yk, yX⟩⟩ := id hr
        have y0 : 0 < w_.1 := by omega
        have yC : Cd w_ 2 3 4 v p sh ln pr gd co c s := yC
        obtain ⟨⟨y1, y1w⟩, -⟩ := id yC
        have y14 : 14 < w_.1 := by omega
        have y14w := yP.1
        refine ⟨gr.1, ?_⟩
        refine r_aload_n (pc2 := 54) dX4_slice_53 rfl rfl ?_
        refine r_getf (pc2 := 57) dX4_slice_54 rfl fl_4_20 (by assumption) (by assumption) (by rfl) ?_
        refine r_iload_n (pc2 := 58) dX4_slice_57 rfl rfl ?_
        refine r_iload_n (pc2 := 59) dX4_slice_58 rfl rfl ?_
        refine r_callv_2 (pc2 := 62) dX4_slice_59 rfl rs_4_105 rfl (by decide) rfl (Nat.le_of_ble_eq_true rfl) (Nat.le_of_ble_eq_true rfl) (by assumption) (by assumption) (c_putSlice _ 2 3 4 v p sh ln pr gd co c s yC hK a b (by omega)) (fun r_ w_ h_ => ?_)
        rw [h_.1, h_.2]
        clear h_ w_ r_
        refine ⟨rfl, ?_⟩
        refine r_iload_n (pc2 := 63) dX4_slice_62 rfl rfl ?_
        refine r_ret dX4_slice_63 rfl ?_
        refine RA_s (x := sD s a) (V2 := (v, p, sh, ln, pr, gd, co, c, updZ s a.toNat b)) ?_ rfl ?_ ?_
        · show (if ¬ ((0 ≤ a ∧ a ≤ p - 1) ∧ (0 ≤ b ∧ b ≤ v - 1)) then (-101, none) else if sD s a = b then (-105, none) else (sD s a, some (v, p, sh, ln, pr, gd, co, c, updZ s a.toNat b))) = _
          rw [if_neg (by omega), if_neg (by omega)]
        · exact (gr.mono (by omega) (by omega)).trans ((agO.wst _ (by omega)).mono (lo := 2) (hi := 5) (by omega) (by omega))
        · exact CLS_card hr (agO.wst _ (by omega)) _ (yC.slc _)
      · refine r_bipush (pc2 := 41) dX4_slice_39 rfl (by decide) ?_
        refine r_ret dX4_slice_41 rfl ?_
        refine RA_n (x := -105) ?_ rfl agO.rf h
        show (if ¬ ((0 ≤ a ∧ a ≤ p - 1) ∧ (0 ≤ b ∧ b ≤ v - 1)) then (-101, none) else if sD s a = b then (-105, none) else (sD s a, some (v, p, sh, ln, pr, gd, co, c, updZ s a.toNat b))) = _
        rw [if_neg (by omega), if_pos (by omega)]
    · refine r_bipush (pc2 := 24) dX4_slice_22 rfl (by decide) ?_
      refine r_ret dX4_slice_24 rfl ?_
      refine RA_n (x := -101) ?_ rfl agO.rf h
      show (if ¬ ((0 ≤ a ∧ a ≤ p - 1) ∧ (0 ≤ b ∧ b ≤ v - 1)) then (-101, none) else if sD s a = b then (-105, none) else (sD s a, some (v, p, sh, ln, pr, gd, co, c, updZ s a.toNat b))) = _
      rw [if_pos (by omega)]

def o_setShift (V : CV) (a : Int) : Int × Option CV := match V with
  | (v, p, sh, ln, pr, gd, co, c, s) => if ¬ (-3 ≤ a ∧ a ≤ 3) then (-102, none) else if sh = a then (-105, none) else (sh, some (v, p, a, ln, pr, gd, co, c, s))

set_option maxHeartbeats 4000000 in
theorem c_setShift (w : av_W) (v p sh ln pr gd co : Int) (c s : Nat → Int) (L : Nat → CV) (n : Int) (S : CV) (hs len : Int) (t : Nat → Int) (h : CLS w (v, p, sh, ln, pr, gd, co, c, s) L n S hs len t) (hV : KV (v, p, sh, ln, pr, gd, co, c, s)) (hn : 0 ≤ n ∧ n ≤ 4) (a : Int) (ha : RG a) : cl MX4_setShift [.ref 0, .int (iN a)] w (fun r' w' => RA w w' r' (o_setShift (v, p, sh, ln, pr, gd, co, c, s) a) (v, p, sh, ln, pr, gd, co, c, s) L n S hs len t) := by
  obtain ⟨x33, x0w, xC, ⟨xf, xg, xG⟩, ⟨xT, xTV⟩, ⟨xf2, xg2, xH⟩, ⟨xb, xB⟩, ⟨xq, xP⟩, xS, ⟨xk, xX⟩⟩ := id h
  have x0 : 0 < w.1 := by omega
  have xC : Cd w 2 3 4 v p sh ln pr gd co c s := xC
  obtain ⟨⟨x1, x1w⟩, -⟩ := id xC
  have x14 : 14 < w.1 := by omega
  have x14w := xP.1
  obtain ⟨hK, hS, hc, hpr⟩ := id hV
  have hK : KR v p sh ln := hK
  have hS : SR s := hS
  have hc : ∀ j : Nat, j < 48 → 0 ≤ c j ∧ c j ≤ 9 := hc
  have hpr : 0 ≤ pr ∧ pr ≤ 99999 := hpr
  obtain ⟨hv, hp, hsh, hln⟩ := id hK
  have haR : -2147483648 ≤ a ∧ a < 2147483648 := ha
  show rn MX4_setShift 0 [some (.ref 0), some (.int (iN a)), none] [] w _
  refine r_iload_n (pc2 := 1) dX4_setShift_0 rfl rfl ?_
  refine r_bipush (pc2 := 3) dX4_setShift_1 rfl (by decide) ?_
  refine r_iconst (pc2 := 4) dX4_setShift_3 rfl ?_
  refine r_calls_3 (pc2 := 7) dX4_setShift_4 rfl rs_4_62 rfl (by decide) rfl (Nat.le_of_ble_eq_true rfl) (Nat.le_of_ble_eq_true rfl) (c_isWithin w a (-3) 3 ha ⟨by omega, by omega⟩ ⟨by omega, by omega⟩) (fun r_ w_ h_ => ?_)
  rw [h_.1, h_.2]
  clear h_ w_ r_
  refine ⟨rfl, ?_⟩
  refine r_ifb_ne (pc2 := 10) (tgt := 13) dX4_setShift_7 rfl (by decide)  (fun h7 => ?_) (fun h7 => ?_)
  · refine r_aload_n (pc2 := 14) dX4_setShift_13 rfl rfl ?_
    refine r_getf (pc2 := 17) dX4_setShift_14 rfl fl_4_20 (by assumption) (by assumption) (by rfl) ?_
    refine r_getf (pc2 := 20) dX4_setShift_17 rfl fl_4_109 (by assumption) (by assumption) (by rfl) ?_
    refine r_ist_2 (pc2 := 21) dX4_setShift_20 rfl rfl ?_
    refine r_iload_n (pc2 := 22) dX4_setShift_21 rfl rfl ?_
    refine r_iload_n (pc2 := 23) dX4_setShift_22 rfl rfl ?_
    refine r_icmp_ne (pc2 := 26) (tgt := 29) dX4_setShift_23 rfl (by decide) (by omega) (by omega) (fun h23 => ?_) (fun h23 => ?_)
    · refine r_aload_n (pc2 := 30) dX4_setShift_29 rfl rfl ?_
      refine r_getf (pc2 := 33) dX4_setShift_30 rfl fl_4_34 (by assumption) (by assumption) (by rfl) ?_
      refine r_aload_n (pc2 := 34) dX4_setShift_33 rfl rfl ?_
      refine r_getf (pc2 := 37) dX4_setShift_34 rfl fl_4_20 (by assumption) (by assumption) (by rfl) ?_
      refine r_callv_1 (pc2 := 40) dX4_setShift_37 rfl rs_4_70 rfl (by decide) rfl (Nat.le_of_ble_eq_true rfl) (Nat.le_of_ble_eq_true rfl) (by assumption) (by assumption) (c_rec _ _ _ _ _ _ _ _ h hn) (fun r_ w_ h_ => ?_)
      obtain ⟨e_, gr, hr⟩ := h_
      rw [e_]
      obtain ⟨y33, y0w, yC, ⟨yf, yg, yG⟩, ⟨yT, yTV⟩, ⟨yf2, yg2, yH⟩, ⟨yb, yB⟩, ⟨yq, yP⟩, yS, ⟨yk, yX⟩⟩ := id hr
      have y0 : 0 < w_.1 := by omega
      have yC : Cd w_ 2 3 4 v p sh ln pr gd co c s := yC
      obtain ⟨⟨y1, y1w⟩, -⟩ := id yC
      have y14 : 14 < w_.1 := by omega
      have y14w := yP.1
      refine ⟨gr.1, ?_⟩
      refine r_aload_n (pc2 := 41) dX4_setShift_40 rfl rfl ?_
      refine r_getf (pc2 := 44) dX4_setShift_41 rfl fl_4_20 (by assumption) (by assumption) (by rfl) ?_
      refine r_iload_n (pc2 := 45) dX4_setShift_44 rfl rfl ?_
      refine r_putf (pc2 := 48) dX4_setShift_45 rfl fl_4_109 (by assumption) (by assumption) (by exact Nat.le_of_ble_eq_true rfl) (by rfl) (by rfl) (by rfl) ?_
      refine r_iload_n (pc2 := 49) dX4_setShift_48 rfl rfl ?_
      refine r_ret dX4_setShift_49 rfl ?_
      refine RA_s (x := sh) (V2 := (v, p, a, ln, pr, gd, co, c, s)) ?_ rfl ?_ ?_
      · show (if ¬ (-3 ≤ a ∧ a ≤ 3) then (-102, none) else if sh = a then (-105, none) else (sh, some (v, p, a, ln, pr, gd, co, c, s))) = _
        rw [if_neg (by omega), if_neg (by omega)]
      · exact (gr.mono (by omega) (by omega)).trans ((agO.wst _ (by omega)).mono (lo := 2) (hi := 5) (by omega) (by omega))
      · exact CLS_card hr (agO.wst _ (by omega)) _ (yC.obj _ _ _ _ _ _ _)
    · refine r_bipush (pc2 := 28) dX4_setShift_26 rfl (by decide) ?_
      refine r_ret dX4_setShift_28 rfl ?_
      refine RA_n (x := -105) ?_ rfl agO.rf h
      show (if ¬ (-3 ≤ a ∧ a ≤ 3) then (-102, none) else if sh = a then (-105, none) else (sh, some (v, p, a, ln, pr, gd, co, c, s))) = _
      rw [if_neg (by omega), if_pos (by omega)]
  · refine r_bipush (pc2 := 12) dX4_setShift_10 rfl (by decide) ?_
    refine r_ret dX4_setShift_12 rfl ?_
    refine RA_n (x := -102) ?_ rfl agO.rf h
    show (if ¬ (-3 ≤ a ∧ a ≤ 3) then (-102, none) else if sh = a then (-105, none) else (sh, some (v, p, a, ln, pr, gd, co, c, s))) = _
    rw [if_pos (by omega)]

def o_setLean (V : CV) (a : Int) : Int × Option CV := match V with
  | (v, p, sh, ln, pr, gd, co, c, s) => if ¬ (0 ≤ a ∧ a ≤ 3) then (-102, none) else if ln = a then (-105, none) else (ln, some (v, p, sh, a, pr, gd, co, c, s))

set_option maxHeartbeats 4000000 in
theorem c_setLean (w : av_W) (v p sh ln pr gd co : Int) (c s : Nat → Int) (L : Nat → CV) (n : Int) (S : CV) (hs len : Int) (t : Nat → Int) (h : CLS w (v, p, sh, ln, pr, gd, co, c, s) L n S hs len t) (hV : KV (v, p, sh, ln, pr, gd, co, c, s)) (hn : 0 ≤ n ∧ n ≤ 4) (a : Int) (ha : RG a) : cl MX4_setLean [.ref 0, .int (iN a)] w (fun r' w' => RA w w' r' (o_setLean (v, p, sh, ln, pr, gd, co, c, s) a) (v, p, sh, ln, pr, gd, co, c, s) L n S hs len t) := by
  obtain ⟨x33, x0w, xC, ⟨xf, xg, xG⟩, ⟨xT, xTV⟩, ⟨xf2, xg2, xH⟩, ⟨xb, xB⟩, ⟨xq, xP⟩, xS, ⟨xk, xX⟩⟩ := id h
  have x0 : 0 < w.1 := by omega
  have xC : Cd w 2 3 4 v p sh ln pr gd co c s := xC
  obtain ⟨⟨x1, x1w⟩, -⟩ := id xC
  have x14 : 14 < w.1 := by omega
  have x14w := xP.1
  obtain ⟨hK, hS, hc, hpr⟩ := id hV
  have hK : KR v p sh ln := hK
  have hS : SR s := hS
  have hc : ∀ j : Nat, j < 48 → 0 ≤ c j ∧ c j ≤ 9 := hc
  have hpr : 0 ≤ pr ∧ pr ≤ 99999 := hpr
  obtain ⟨hv, hp, hsh, hln⟩ := id hK
  have haR : -2147483648 ≤ a ∧ a < 2147483648 := ha
  show rn MX4_setLean 0 [some (.ref 0), some (.int (iN a)), none] [] w _
  refine r_iload_n (pc2 := 1) dX4_setLean_0 rfl rfl ?_
  refine r_iconst (pc2 := 2) dX4_setLean_1 rfl ?_
  refine r_iconst (pc2 := 3) dX4_setLean_2 rfl ?_
  refine r_calls_3 (pc2 := 6) dX4_setLean_3 rfl rs_4_62 rfl (by decide) rfl (Nat.le_of_ble_eq_true rfl) (Nat.le_of_ble_eq_true rfl) (c_isWithin w a (0) 3 ha ⟨by omega, by omega⟩ ⟨by omega, by omega⟩) (fun r_ w_ h_ => ?_)
  rw [h_.1, h_.2]
  clear h_ w_ r_
  refine ⟨rfl, ?_⟩
  refine r_ifb_ne (pc2 := 9) (tgt := 12) dX4_setLean_6 rfl (by decide)  (fun h6 => ?_) (fun h6 => ?_)
  · refine r_aload_n (pc2 := 13) dX4_setLean_12 rfl rfl ?_
    refine r_getf (pc2 := 16) dX4_setLean_13 rfl fl_4_20 (by assumption) (by assumption) (by rfl) ?_
    refine r_getf (pc2 := 19) dX4_setLean_16 rfl fl_4_112 (by assumption) (by assumption) (by rfl) ?_
    refine r_ist_2 (pc2 := 20) dX4_setLean_19 rfl rfl ?_
    refine r_iload_n (pc2 := 21) dX4_setLean_20 rfl rfl ?_
    refine r_iload_n (pc2 := 22) dX4_setLean_21 rfl rfl ?_
    refine r_icmp_ne (pc2 := 25) (tgt := 28) dX4_setLean_22 rfl (by decide) (by omega) (by omega) (fun h22 => ?_) (fun h22 => ?_)
    · refine r_aload_n (pc2 := 29) dX4_setLean_28 rfl rfl ?_
      refine r_getf (pc2 := 32) dX4_setLean_29 rfl fl_4_34 (by assumption) (by assumption) (by rfl) ?_
      refine r_aload_n (pc2 := 33) dX4_setLean_32 rfl rfl ?_
      refine r_getf (pc2 := 36) dX4_setLean_33 rfl fl_4_20 (by assumption) (by assumption) (by rfl) ?_
      refine r_callv_1 (pc2 := 39) dX4_setLean_36 rfl rs_4_70 rfl (by decide) rfl (Nat.le_of_ble_eq_true rfl) (Nat.le_of_ble_eq_true rfl) (by assumption) (by assumption) (c_rec _ _ _ _ _ _ _ _ h hn) (fun r_ w_ h_ => ?_)
      obtain ⟨e_, gr, hr⟩ := h_
      rw [e_]
      obtain ⟨y33, y0w, yC, ⟨yf, yg, yG⟩, ⟨yT, yTV⟩, ⟨yf2, yg2, yH⟩, ⟨yb, yB⟩, ⟨yq, yP⟩, yS, ⟨yk, yX⟩⟩ := id hr
      have y0 : 0 < w_.1 := by omega
      have yC : Cd w_ 2 3 4 v p sh ln pr gd co c s := yC
      obtain ⟨⟨y1, y1w⟩, -⟩ := id yC
      have y14 : 14 < w_.1 := by omega
      have y14w := yP.1
      refine ⟨gr.1, ?_⟩
      refine r_aload_n (pc2 := 40) dX4_setLean_39 rfl rfl ?_
      refine r_getf (pc2 := 43) dX4_setLean_40 rfl fl_4_20 (by assumption) (by assumption) (by rfl) ?_
      refine r_iload_n (pc2 := 44) dX4_setLean_43 rfl rfl ?_
      refine r_putf (pc2 := 47) dX4_setLean_44 rfl fl_4_112 (by assumption) (by assumption) (by exact Nat.le_of_ble_eq_true rfl) (by rfl) (by rfl) (by rfl) ?_
      refine r_iload_n (pc2 := 48) dX4_setLean_47 rfl rfl ?_
      refine r_ret dX4_setLean_48 rfl ?_
      refine RA_s (x := ln) (V2 := (v, p, sh, a, pr, gd, co, c, s)) ?_ rfl ?_ ?_
      · show (if ¬ (0 ≤ a ∧ a ≤ 3) then (-102, none) else if ln = a then (-105, none) else (ln, some (v, p, sh, a, pr, gd, co, c, s))) = _
        rw [if_neg (by omega), if_neg (by omega)]
      · exact (gr.mono (by omega) (by omega)).trans ((agO.wst _ (by omega)).mono (lo := 2) (hi := 5) (by omega) (by omega))
      · exact CLS_card hr (agO.wst _ (by omega)) _ (yC.obj _ _ _ _ _ _ _)
    · refine r_bipush (pc2 := 27) dX4_setLean_25 rfl (by decide) ?_
      refine r_ret dX4_setLean_27 rfl ?_
      refine RA_n (x := -105) ?_ rfl agO.rf h
      show (if ¬ (0 ≤ a ∧ a ≤ 3) then (-102, none) else if ln = a then (-105, none) else (ln, some (v, p, sh, a, pr, gd, co, c, s))) = _
      rw [if_neg (by omega), if_pos (by omega)]
  · refine r_bipush (pc2 := 11) dX4_setLean_9 rfl (by decide) ?_
    refine r_ret dX4_setLean_11 rfl ?_
    refine RA_n (x := -102) ?_ rfl agO.rf h
    show (if ¬ (0 ≤ a ∧ a ≤ 3) then (-102, none) else if ln = a then (-105, none) else (ln, some (v, p, sh, a, pr, gd, co, c, s))) = _
    rw [if_pos (by omega)]
