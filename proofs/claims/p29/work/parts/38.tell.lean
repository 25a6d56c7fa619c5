/-! the class's tellings -/
theorem RC_of {w w' : av_W} {r' : Option Value} {y x : Int} {V : CV} {L : Nat → CV} {n : Int} {S : CV} {hs len : Int} {t : Nat → Int} (e : y = x) (h1 : r' = some (.int (iN x))) (h2 : agO 0 33 w w') (h3 : CLS w' V L n S hs len t) : RC w w' r' y V L n S hs len t := by
  subst e
  exact ⟨h1, h2, h3⟩
def nn (x : Int) : Int := if x = -1 then -105 else x
theorem ghC_fg {s f f2 : Nat → Int} {st r : Int} (h : ∀ j : Nat, j < 72 → f j = f2 j) (hst : 0 ≤ st ∧ st < 6) (hr : 0 ≤ r ∧ r ≤ 11) : ghC s f st r ↔ ghC s f2 st r := by
  unfold ghC
  have e0 : vS s f st r = vS s f2 st r := vS_fg (h _ (by omega))
  have e1 : 0 < r → vS s f st (r - 1) = vS s f2 st (r - 1) := fun q => vS_fg (h _ (by omega))
  have e2 : r < 11 → vS s f st (r + 1) = vS s f2 st (r + 1) := fun q => vS_fg (h _ (by omega))
  rw [e0]
  constructor
  · rintro (⟨q1, q2⟩ | ⟨q1, q2⟩)
    · exact Or.inl ⟨q1, by rw [← e1 q1]; exact q2⟩
    · exact Or.inr ⟨q1, by rw [← e2 q1]; exact q2⟩
  · rintro (⟨q1, q2⟩ | ⟨q1, q2⟩)
    · exact Or.inl ⟨q1, by rw [e1 q1]; exact q2⟩
    · exact Or.inr ⟨q1, by rw [e2 q1]; exact q2⟩
theorem GA_s {p sh ln : Int} {s t : Nat → Int} (hp : 2 ≤ p ∧ p ≤ 6) (h : eqp p.toNat s t) : GA p sh ln s = GA p sh ln t := by
  refine gaF_congr hp h (fun j hj => ?_)
  have := slZ_rg (sh := sh) (r := (j : Int) % 12) (pl := plZ p ln ((j : Int) / 12) ((j : Int) % 12)) hp
  unfold ssF
  omega

def o_colourOf (V : CV) (a : Int) (b : Int) : Int := match V with
  | (v, p, sh, ln, pr, gd, co, c, s) => if ¬ ((0 ≤ a ∧ a ≤ v - 1) ∧ (0 ≤ b ∧ b ≤ 11)) then -101 else colI c a b

set_option maxHeartbeats 4000000 in
theorem c_colourOf (w : av_W) (v p sh ln pr gd co : Int) (c s : Nat → Int) (L : Nat → CV) (n : Int) (S : CV) (hs len : Int) (t : Nat → Int) (h : CLS w (v, p, sh, ln, pr, gd, co, c, s) L n S hs len t) (hV : KV (v, p, sh, ln, pr, gd, co, c, s)) (hn : 0 ≤ n ∧ n ≤ 4) (a : Int) (ha : RG a) (b : Int) (hb : RG b) : cl MX4_colourOf [.ref 0, .int (iN a), .int (iN b)] w (fun r' w' => RC w w' r' (o_colourOf (v, p, sh, ln, pr, gd, co, c, s) a b) (v, p, sh, ln, pr, gd, co, c, s) L n S hs len t) := by
  obtain ⟨x33, x0w, xC, ⟨xf, xg, xG⟩, ⟨xT, xTV⟩, ⟨xf2, xg2, xH⟩, ⟨xb, xB⟩, ⟨xq, xP⟩, xS, ⟨xk, xX⟩⟩ := id h
  have x0 : 0 < w.1 := by omega
  have xC : Cd w 2 3 4 v p sh ln pr gd co c s := xC
  obtain ⟨⟨x1, x1w⟩, -⟩ := id xC
  have x14 : 14 < w.1 := by omega
  have x14w := xP.1
  obtain ⟨hK, hS, hc, hpr⟩ := id hV
  have hK : KR v p sh ln := hK
  have hS : SR s := hS
  have hc : ∀ j : Nat, j < 48 → 0 ≤ c j ∧ c j ≤ 9 := hc
  have hpr : 0 ≤ pr ∧ pr ≤ 99999 := hpr
  obtain ⟨hv, hp, hsh, hln⟩ := id hK
  have haR : -2147483648 ≤ a ∧ a < 2147483648 := ha
  have hbR : -2147483648 ≤ b ∧ b < 2147483648 := hb
  show rn MX4_colourOf 0 [some (.ref 0), some (.int (iN a)), some (.int (iN b))] [] w _
  refine r_aload_n (pc2 := 1) dX4_colourOf_0 rfl rfl ?_
  refine r_getf (pc2 := 4) dX4_colourOf_1 rfl fl_4_20 (by assumption) (by assumption) (by rfl) ?_
  refine r_iload_n (pc2 := 5) dX4_colourOf_4 rfl rfl ?_
  refine r_callv_1 (pc2 := 8) dX4_colourOf_5 rfl rs_4_55 rfl (by decide) rfl (Nat.le_of_ble_eq_true rfl) (Nat.le_of_ble_eq_true rfl) (by assumption) (by assumption) (c_hasView w 2 3 4 v p sh ln pr gd co c s xC hK a ha) (fun r_ w_ h_ => ?_)
  rw [h_.1, h_.2]
  clear h_ w_ r_
  refine ⟨rfl, ?_⟩
  refine r_ifb_eq (pc2 := 11) (tgt := 18) dX4_colourOf_8 rfl (by decide)  (fun h8 => ?_) (fun h8 => ?_)
  · refine r_bipush (pc2 := 20) dX4_colourOf_18 rfl (by decide) ?_
    refine r_ret dX4_colourOf_20 rfl ?_
    refine RC_of (x := -101) ?_ rfl agO.rf h
    show (if ¬ ((0 ≤ a ∧ a ≤ v - 1) ∧ (0 ≤ b ∧ b ≤ 11)) then -101 else colI c a b) = _
    rw [if_pos (by omega)]
  · refine r_iload_n (pc2 := 12) dX4_colourOf_11 rfl rfl ?_
    refine r_calls_1 (pc2 := 15) dX4_colourOf_12 rfl rs_4_59 rfl (by decide) rfl (Nat.le_of_ble_eq_true rfl) (Nat.le_of_ble_eq_true rfl) (c_isRidge w b hb) (fun r_ w_ h_ => ?_)
    rw [h_.1, h_.2]
    clear h_ w_ r_
    refine ⟨rfl, ?_⟩
    refine r_ifb_ne (pc2 := 18) (tgt := 21) dX4_colourOf_15 rfl (by decide)  (fun h15 => ?_) (fun h15 => ?_)
    · refine r_aload_n (pc2 := 22) dX4_colourOf_21 rfl rfl ?_
      refine r_getf (pc2 := 25) dX4_colourOf_22 rfl fl_4_20 (by assumption) (by assumption) (by rfl) ?_
      refine r_iload_n (pc2 := 26) dX4_colourOf_25 rfl rfl ?_
      refine r_iload_n (pc2 := 27) dX4_colourOf_26 rfl rfl ?_
      refine r_callv_2 (pc2 := 30) dX4_colourOf_27 rfl rs_4_66 rfl (by decide) rfl (Nat.le_of_ble_eq_true rfl) (Nat.le_of_ble_eq_true rfl) (by assumption) (by assumption) (c_colourIn w 2 3 4 v p sh ln pr gd co c s xC hK a b ha hb) (fun r_ w_ h_ => ?_)
      rw [h_.1, h_.2]
      clear h_ w_ r_
      refine ⟨rfl, ?_⟩
      refine r_ret dX4_colourOf_30 rfl ?_
      refine RC_of (x := colI c a b) ?_ rfl agO.rf h
      show (if ¬ ((0 ≤ a ∧ a ≤ v - 1) ∧ (0 ≤ b ∧ b ≤ 11)) then -101 else colI c a b) = _
      rw [if_neg (by omega)]
    · refine r_bipush (pc2 := 20) dX4_colourOf_18 rfl (by decide) ?_
      refine r_ret dX4_colourOf_20 rfl ?_
      refine RC_of (x := -101) ?_ rfl agO.rf h
      show (if ¬ ((0 ≤ a ∧ a ≤ v - 1) ∧ (0 ≤ b ∧ b ≤ 11)) then -101 else colI c a b) = _
      rw [if_pos (by omega)]

def o_viewOf (V : CV) (a : Int) : Int := match V with
  | (v, p, sh, ln, pr, gd, co, c, s) => if ¬ (0 ≤ a ∧ a ≤ p - 1) then -101 else sD s a

set_option maxHeartbeats 4000000 in
theorem c_viewOf (w : av_W) (v p sh ln pr gd co : Int) (c s : Nat → Int) (L : Nat → CV) (n : Int) (S : CV) (hs len : Int) (t : Nat → Int) (h : CLS w (v, p, sh, ln, pr, gd, co, c, s) L n S hs len t) (hV : KV (v, p, sh, ln, pr, gd, co, c, s)) (hn : 0 ≤ n ∧ n ≤ 4) (a : Int) (ha : RG a) : cl MX4_viewOf [.ref 0, .int (iN a)] w (fun r' w' => RC w w' r' (o_viewOf (v, p, sh, ln, pr, gd, co, c, s) a) (v, p, sh, ln, pr, gd, co, c, s) L n S hs len t) := by
  obtain ⟨x33, x0w, xC, ⟨xf, xg, xG⟩, ⟨xT, xTV⟩, ⟨xf2, xg2, xH⟩, ⟨xb, xB⟩, ⟨xq, xP⟩, xS, ⟨xk, xX⟩⟩ := id h
  have x0 : 0 < w.1 := by omega
  have xC : Cd w 2 3 4 v p sh ln pr gd co c s := xC
  obtain ⟨⟨x1, x1w⟩, -⟩ := id xC
  have x14 : 14 < w.1 := by omega
  have x14w := xP.1
  obtain ⟨hK, hS, hc, hpr⟩ := id hV
  have hK : KR v p sh ln := hK
  have hS : SR s := hS
  have hc : ∀ j : Nat, j < 48 → 0 ≤ c j ∧ c j ≤ 9 := hc
  have hpr : 0 ≤ pr ∧ pr ≤ 99999 := hpr
  obtain ⟨hv, hp, hsh, hln⟩ := id hK
  have haR : -2147483648 ≤ a ∧ a < 2147483648 := ha
  show rn MX4_viewOf 0 [some (.ref 0), some (.int (iN a))] [] w _
  refine r_aload_n (pc2 := 1) dX4_viewOf_0 rfl rfl ?_
  refine r_getf (pc2 := 4) dX4_viewOf_1 rfl fl_4_20 (by assumption) (by assumption) (by rfl) ?_
  refine r_iload_n (pc2 := 5) dX4_viewOf_4 rfl rfl ?_
  refine r_callv_1 (pc2 := 8) dX4_viewOf_5 rfl rs_4_98 rfl (by decide) rfl (Nat.le_of_ble_eq_true rfl) (Nat.le_of_ble_eq_true rfl) (by assumption) (by assumption) (c_hasSlice w 2 3 4 v p sh ln pr gd co c s xC hK a ha) (fun r_ w_ h_ => ?_)
  rw [h_.1, h_.2]
  clear h_ w_ r_
  refine ⟨rfl, ?_⟩
  refine r_ifb_ne (pc2 := 11) (tgt := 14) dX4_viewOf_8 rfl (by decide)  (fun h8 => ?_) (fun h8 => ?_)
  · refine r_aload_n (pc2 := 15) dX4_viewOf_14 rfl rfl ?_
    refine r_getf (pc2 := 18) dX4_viewOf_15 rfl fl_4_20 (by assumption) (by assumption) (by rfl) ?_
    refine r_iload_n (pc2 := 19) dX4_viewOf_18 rfl rfl ?_
    refine r_callv_1 (pc2 := 22) dX4_viewOf_19 rfl rs_4_101 rfl (by decide) rfl (Nat.le_of_ble_eq_true rfl) (Nat.le_of_ble_eq_true rfl) (by assumption) (by assumption) (c_viewDue w 2 3 4 v p sh ln pr gd co c s xC hK a ha) (fun r_ w_ h_ => ?_)
    rw [h_.1, h_.2]
    clear h_ w_ r_
    refine ⟨rfl, ?_⟩
    refine r_ret dX4_viewOf_22 rfl ?_
    refine RC_of (x := sD s a) ?_ rfl agO.rf h
    show (if ¬ (0 ≤ a ∧ a ≤ p - 1) then -101 else sD s a) = _
    rw [if_neg (by omega)]
  · refine r_bipush (pc2 := 13) dX4_viewOf_11 rfl (by decide) ?_
    refine r_ret dX4_viewOf_13 rfl ?_
    refine RC_of (x := -101) ?_ rfl agO.rf h
    show (if ¬ (0 ≤ a ∧ a ≤ p - 1) then -101 else sD s a) = _
    rw [if_pos (by omega)]

def o_behind (V : CV) (a : Int) (b : Int) (k : Int) : Int := match V with
  | (v, p, sh, ln, pr, gd, co, c, s) => if ¬ ((0 ≤ a ∧ a ≤ 11) ∧ (0 ≤ b ∧ b ≤ p - 1)) then -101 else if k = 0 then nn (sD s (slZ p sh a b)) else if k = 1 then nn (colI c (sD s (slZ p sh a b)) (rdZ p sh a b)) else if k = 2 then nn (rdZ p sh a b) else -102

set_option maxHeartbeats 4000000 in
theorem c_behind (w : av_W) (v p sh ln pr gd co : Int) (c s : Nat → Int) (L : Nat → CV) (n : Int) (S : CV) (hs len : Int) (t : Nat → Int) (h : CLS w (v, p, sh, ln, pr, gd, co, c, s) L n S hs len t) (hV : KV (v, p, sh, ln, pr, gd, co, c, s)) (hn : 0 ≤ n ∧ n ≤ 4) (a : Int) (ha : RG a) (b : Int) (hb : RG b) (k : Int) (hk : RG k) : cl MX4_behind [.ref 0, .int (iN a), .int (iN b), .int (iN k)] w (fun r' w' => RC w w' r' (o_behind (v, p, sh, ln, pr, gd, co, c, s) a b k) (v, p, sh, ln, pr, gd, co, c, s) L n S hs len t) := by
  obtain ⟨x33, x0w, xC, ⟨xf, xg, xG⟩, ⟨xT, xTV⟩, ⟨xf2, xg2, xH⟩, ⟨xb, xB⟩, ⟨xq, xP⟩, xS, ⟨xk, xX⟩⟩ := id h
  have x0 : 0 < w.1 := by omega
  have xC : Cd w 2 3 4 v p sh ln pr gd co c s := xC
  obtain ⟨⟨x1, x1w⟩, -⟩ := id xC
  have x14 : 14 < w.1 := by omega
  have x14w := xP.1
  obtain ⟨hK, hS, hc, hpr⟩ := id hV
  have hK : KR v p sh ln := hK
  have hS : SR s := hS
  have hc : ∀ j : Nat, j < 48 → 0 ≤ c j ∧ c j ≤ 9 := hc
  have hpr : 0 ≤ pr ∧ pr ≤ 99999 := hpr
  obtain ⟨hv, hp, hsh, hln⟩ := id hK
  have haR : -2147483648 ≤ a ∧ a < 2147483648 := ha
  have hbR : -2147483648 ≤ b ∧ b < 2147483648 := hb
  have hkR : -2147483648 ≤ k ∧ k < 2147483648 := hk
  have q0 := sDs_rg hS (slZ p sh a b)
  have q1 := colI_rg hc (sD s (slZ p sh a b)) (rdZ p sh a b)
  have q2 := rdZ_rg (p := p) (sh := sh) (r := a) (pl := b) hp
  show rn MX4_behind 0 [some (.ref 0), some (.int (iN a)), some (.int (iN b)), some (.int (iN k))] [] w _
  refine r_iload_n (pc2 := 1) dX4_behind_0 rfl rfl ?_
  refine r_calls_1 (pc2 := 4) dX4_behind_1 rfl rs_4_59 rfl (by decide) rfl (Nat.le_of_ble_eq_true rfl) (Nat.le_of_ble_eq_true rfl) (c_isRidge w a ha) (fun r_ w_ h_ => ?_)
  rw [h_.1, h_.2]
  clear h_ w_ r_
  refine ⟨rfl, ?_⟩
  refine r_ifb_eq (pc2 := 7) (tgt := 18) dX4_behind_4 rfl (by decide)  (fun h4 => ?_) (fun h4 => ?_)
  · refine r_bipush (pc2 := 20) dX4_behind_18 rfl (by decide) ?_
    refine r_ret dX4_behind_20 rfl ?_
    refine RC_of (x := -101) ?_ rfl agO.rf h
    show (if ¬ ((0 ≤ a ∧ a ≤ 11) ∧ (0 ≤ b ∧ b ≤ p - 1)) then -101 else if k = 0 then nn (sD s (slZ p sh a b)) else if k = 1 then nn (colI c (sD s (slZ p sh a b)) (rdZ p sh a b)) else if k = 2 then nn (rdZ p sh a b) else -102) = _
    rw [if_pos (by omega)]
  · refine r_aload_n (pc2 := 8) dX4_behind_7 rfl rfl ?_
    refine r_getf (pc2 := 11) dX4_behind_8 rfl fl_4_20 (by assumption) (by assumption) (by rfl) ?_
    refine r_iload_n (pc2 := 12) dX4_behind_11 rfl rfl ?_
    refine r_callv_1 (pc2 := 15) dX4_behind_12 rfl rs_4_98 rfl (by decide) rfl (Nat.le_of_ble_eq_true rfl) (Nat.le_of_ble_eq_true rfl) (by assumption) (by assumption) (c_hasSlice w 2 3 4 v p sh ln pr gd co c s xC hK b hb) (fun r_ w_ h_ => ?_)
    rw [h_.1, h_.2]
    clear h_ w_ r_
    refine ⟨rfl, ?_⟩
    refine r_ifb_ne (pc2 := 18) (tgt := 21) dX4_behind_15 rfl (by decide)  (fun h15 => ?_) (fun h15 => ?_)
    · refine r_iload_n (pc2 := 22) dX4_behind_21 rfl rfl ?_
      refine r_tab (len := 26) dX4_behind_22 ⟨by omega, by omega⟩ (fun hD => ⟨87, by decide, ?_⟩) (fun hI => ?_)
      · refine r_bipush (pc2 := 89) dX4_behind_87 rfl (by decide) ?_
        refine r_ret dX4_behind_89 rfl ?_
        refine RC_of (x := -102) ?_ rfl agO.rf h
        show (if ¬ ((0 ≤ a ∧ a ≤ 11) ∧ (0 ≤ b ∧ b ≤ p - 1)) then -101 else if k = 0 then nn (sD s (slZ p sh a b)) else if k = 1 then nn (colI c (sD s (slZ p sh a b)) (rdZ p sh a b)) else if k = 2 then nn (rdZ p sh a b) else -102) = _
        rw [if_neg (by omega), if_neg (by omega), if_neg (by omega), if_neg (by omega)]
      · have hcase : k = 0 ∨ k = 1 ∨ k = 2 := by omega
        rcases hcase with hX0 | hX1 | hX2
        · refine ⟨26, 48, by rw [hX0]; rfl, by decide, ?_⟩
          refine r_aload_n (pc2 := 49) dX4_behind_48 rfl rfl ?_
          refine r_getf (pc2 := 52) dX4_behind_49 rfl fl_4_20 (by assumption) (by assumption) (by rfl) ?_
          refine r_iload_n (pc2 := 53) dX4_behind_52 rfl rfl ?_
          refine r_iload_n (pc2 := 54) dX4_behind_53 rfl rfl ?_
          refine r_callv_2 (pc2 := 57) dX4_behind_54 rfl rs_4_176 rfl (by decide) rfl (Nat.le_of_ble_eq_true rfl) (Nat.le_of_ble_eq_true rfl) (by assumption) (by assumption) (c_viewBehind w 2 3 4 v p sh ln pr gd co c s xC hK a b (by omega) (by omega)) (fun r_ w_ h_ => ?_)
          rw [h_.1, h_.2]
          clear h_ w_ r_
          refine ⟨rfl, ?_⟩
          refine r_calls_1 (pc2 := 60) dX4_behind_57 rfl rs_4_179 rfl (by decide) rfl (Nat.le_of_ble_eq_true rfl) (Nat.le_of_ble_eq_true rfl) (c_none w (sD s (slZ p sh a b)) ⟨by omega, by omega⟩) (fun r_ w_ h_ => ?_)
          rw [h_.1, h_.2]
          clear h_ w_ r_
          refine ⟨rfl, ?_⟩
          refine r_ret dX4_behind_60 rfl ?_
          refine RC_of (x := nn (sD s (slZ p sh a b))) ?_ rfl agO.rf h
          show (if ¬ ((0 ≤ a ∧ a ≤ 11) ∧ (0 ≤ b ∧ b ≤ p - 1)) then -101 else if k = 0 then nn (sD s (slZ p sh a b)) else if k = 1 then nn (colI c (sD s (slZ p sh a b)) (rdZ p sh a b)) else if k = 2 then nn (rdZ p sh a b) else -102) = _
          rw [if_neg (by omega), if_pos (by omega)]
        · refine ⟨39, 61, by rw [hX1]; rfl, by decide, ?_⟩
          refine r_aload_n (pc2 := 62) dX4_behind_61 rfl rfl ?_
          refine r_getf (pc2 := 65) dX4_behind_62 rfl fl_4_20 (by assumption) (by assumption) (by rfl) ?_
          refine r_iload_n (pc2 := 66) dX4_behind_65 rfl rfl ?_
          refine r_iload_n (pc2 := 67) dX4_behind_66 rfl rfl ?_
          refine r_callv_2 (pc2 := 70) dX4_behind_67 rfl rs_4_182 rfl (by decide) rfl (Nat.le_of_ble_eq_true rfl) (Nat.le_of_ble_eq_true rfl) (by assumption) (by assumption) (c_colourBehind w 2 3 4 v p sh ln pr gd co c s xC hK a b (by omega) (by omega) (fun j hj => by have := hS j hj; omega)) (fun r_ w_ h_ => ?_)
          rw [h_.1, h_.2]
          clear h_ w_ r_
          refine ⟨rfl, ?_⟩
          refine r_calls_1 (pc2 := 73) dX4_behind_70 rfl rs_4_179 rfl (by decide) rfl (Nat.le_of_ble_eq_true rfl) (Nat.le_of_ble_eq_true rfl) (c_none w (colI c (sD s (slZ p sh a b)) (rdZ p sh a b)) ⟨by omega, by omega⟩) (fun r_ w_ h_ => ?_)
          rw [h_.1, h_.2]
          clear h_ w_ r_
          refine ⟨rfl, ?_⟩
          refine r_ret dX4_behind_73 rfl ?_
          refine RC_of (x := nn (colI c (sD s (slZ p sh a b)) (rdZ p sh a b))) ?_ rfl agO.rf h
          show (if ¬ ((0 ≤ a ∧ a ≤ 11) ∧ (0 ≤ b ∧ b ≤ p - 1)) then -101 else if k = 0 then nn (sD s (slZ p sh a b)) else if k = 1 then nn (colI c (sD s (slZ p sh a b)) (rdZ p sh a b)) else if k = 2 then nn (rdZ p sh a b) else -102) = _
          rw [if_neg (by omega), if_neg (by omega), if_pos (by omega)]
        · refine ⟨52, 74, by rw [hX2]; rfl, by decide, ?_⟩
          refine r_aload_n (pc2 := 75) dX4_behind_74 rfl rfl ?_
          refine r_getf (pc2 := 78) dX4_behind_75 rfl fl_4_20 (by assumption) (by assumption) (by rfl) ?_
          refine r_iload_n (pc2 := 79) dX4_behind_78 rfl rfl ?_
          refine r_iload_n (pc2 := 80) dX4_behind_79 rfl rfl ?_
          refine r_callv_2 (pc2 := 83) dX4_behind_80 rfl rs_4_185 rfl (by decide) rfl (Nat.le_of_ble_eq_true rfl) (Nat.le_of_ble_eq_true rfl) (by assumption) (by assumption) (c_ridgeBehind w 2 3 4 v p sh ln pr gd co c s xC hK a b (by omega) (by omega)) (fun r_ w_ h_ => ?_)
          rw [h_.1, h_.2]
          clear h_ w_ r_
          refine ⟨rfl, ?_⟩
          refine r_calls_1 (pc2 := 86) dX4_behind_83 rfl rs_4_179 rfl (by decide) rfl (Nat.le_of_ble_eq_true rfl) (Nat.le_of_ble_eq_true rfl) (c_none w (rdZ p sh a b) ⟨by omega, by omega⟩) (fun r_ w_ h_ => ?_)
          rw [h_.1, h_.2]
          clear h_ w_ r_
          refine ⟨rfl, ?_⟩
          refine r_ret dX4_behind_86 rfl ?_
          refine RC_of (x := nn (rdZ p sh a b)) ?_ rfl agO.rf h
          show (if ¬ ((0 ≤ a ∧ a ≤ 11) ∧ (0 ≤ b ∧ b ≤ p - 1)) then -101 else if k = 0 then nn (sD s (slZ p sh a b)) else if k = 1 then nn (colI c (sD s (slZ p sh a b)) (rdZ p sh a b)) else if k = 2 then nn (rdZ p sh a b) else -102) = _
          rw [if_neg (by omega), if_neg (by omega), if_neg (by omega), if_pos (by omega)]
    · refine r_bipush (pc2 := 20) dX4_behind_18 rfl (by decide) ?_
      refine r_ret dX4_behind_20 rfl ?_
      refine RC_of (x := -101) ?_ rfl agO.rf h
      show (if ¬ ((0 ≤ a ∧ a ≤ 11) ∧ (0 ≤ b ∧ b ≤ p - 1)) then -101 else if k = 0 then nn (sD s (slZ p sh a b)) else if k = 1 then nn (colI c (sD s (slZ p sh a b)) (rdZ p sh a b)) else if k = 2 then nn (rdZ p sh a b) else -102) = _
      rw [if_pos (by omega)]

def o_seen (V : CV) (a : Int) (b : Int) (k : Int) : Int := match V with
  | (v, p, sh, ln, pr, gd, co, c, s) => if ¬ ((-9 ≤ a ∧ a ≤ 9) ∧ (0 ≤ b ∧ b ≤ 11)) then -101 else if k = 0 then nn (sD s (slZ p sh b (plZ p ln (stZ p a) b))) else if k = 1 then nn (colI c (sD s (slZ p sh b (plZ p ln (stZ p a) b))) (rdZ p sh b (plZ p ln (stZ p a) b))) else if k = 2 then (plZ p ln (stZ p a) b) else if k = 3 then (bz (ghC s (ssF p sh ln) (stZ p a) b)) else -102

set_option maxHeartbeats 4000000 in
theorem c_seen (w : av_W) (v p sh ln pr gd co : Int) (c s : Nat → Int) (L : Nat → CV) (n : Int) (S : CV) (hs len : Int) (t : Nat → Int) (h : CLS w (v, p, sh, ln, pr, gd, co, c, s) L n S hs len t) (hV : KV (v, p, sh, ln, pr, gd, co, c, s)) (hn : 0 ≤ n ∧ n ≤ 4) (a : Int) (ha : RG a) (b : Int) (hb : RG b) (k : Int) (hk : RG k) : cl MX4_seen [.ref 0, .int (iN a), .int (iN b), .int (iN k)] w (fun r' w' => RC w w' r' (o_seen (v, p, sh, ln, pr, gd, co, c, s) a b k) (v, p, sh, ln, pr, gd, co, c, s) L n S hs len t) := by
  obtain ⟨x33, x0w, xC, ⟨xf, xg, xG⟩, ⟨xT, xTV⟩, ⟨xf2, xg2, xH⟩, ⟨xb, xB⟩, ⟨xq, xP⟩, xS, ⟨xk, xX⟩⟩ := id h
  have x0 : 0 < w.1 := by omega
  have xC : Cd w 2 3 4 v p sh ln pr gd co c s := xC
  obtain ⟨⟨x1, x1w⟩, -⟩ := id xC
  have x14 : 14 < w.1 := by omega
  have x14w := xP.1
  obtain ⟨hK, hS, hc, hpr⟩ := id hV
  have hK : KR v p sh ln := hK
  have hS : SR s := hS
  have hc : ∀ j : Nat, j < 48 → 0 ≤ c j ∧ c j ≤ 9 := hc
  have hpr : 0 ≤ pr ∧ pr ≤ 99999 := hpr
  obtain ⟨hv, hp, hsh, hln⟩ := id hK
  have haR : -2147483648 ≤ a ∧ a < 2147483648 := ha
  have hbR : -2147483648 ≤ b ∧ b < 2147483648 := hb
  have hkR : -2147483648 ≤ k ∧ k < 2147483648 := hk
  have q0 := sDs_rg hS (slZ p sh b (plZ p ln (stZ p a) b))
  have q1 := colI_rg hc (sD s (slZ p sh b (plZ p ln (stZ p a) b))) (rdZ p sh b (plZ p ln (stZ p a) b))
  have q4 := plZ_rg (p := p) (ln := ln) (st := stZ p a) (r := b) hp
  show rn MX4_seen 0 [some (.ref 0), some (.int (iN a)), some (.int (iN b)), some (.int (iN k)), none, none] [] w _
  refine r_iload_n (pc2 := 1) dX4_seen_0 rfl rfl ?_
  refine r_calls_1 (pc2 := 4) dX4_seen_1 rfl rs_4_188 rfl (by decide) rfl (Nat.le_of_ble_eq_true rfl) (Nat.le_of_ble_eq_true rfl) (c_isAngle w a ha) (fun r_ w_ h_ => ?_)
  rw [h_.1, h_.2]
  clear h_ w_ r_
  refine ⟨rfl, ?_⟩
  refine r_ifb_eq (pc2 := 7) (tgt := 14) dX4_seen_4 rfl (by decide)  (fun h4 => ?_) (fun h4 => ?_)
  · refine r_bipush (pc2 := 16) dX4_seen_14 rfl (by decide) ?_
    refine r_ret dX4_seen_16 rfl ?_
    refine RC_of (x := -101) ?_ rfl agO.rf h
    show (if ¬ ((-9 ≤ a ∧ a ≤ 9) ∧ (0 ≤ b ∧ b ≤ 11)) then -101 else if k = 0 then nn (sD s (slZ p sh b (plZ p ln (stZ p a) b))) else if k = 1 then nn (colI c (sD s (slZ p sh b (plZ p ln (stZ p a) b))) (rdZ p sh b (plZ p ln (stZ p a) b))) else if k = 2 then (plZ p ln (stZ p a) b) else if k = 3 then (bz (ghC s (ssF p sh ln) (stZ p a) b)) else -102) = _
    rw [if_pos (by omega)]
  · refine r_iload_n (pc2 := 8) dX4_seen_7 rfl rfl ?_
    refine r_calls_1 (pc2 := 11) dX4_seen_8 rfl rs_4_59 rfl (by decide) rfl (Nat.le_of_ble_eq_true rfl) (Nat.le_of_ble_eq_true rfl) (c_isRidge w b hb) (fun r_ w_ h_ => ?_)
    rw [h_.1, h_.2]
    clear h_ w_ r_
    refine ⟨rfl, ?_⟩
    refine r_ifb_ne (pc2 := 14) (tgt := 17) dX4_seen_11 rfl (by decide)  (fun h11 => ?_) (fun h11 => ?_)
    · refine r_aload_n (pc2 := 18) dX4_seen_17 rfl rfl ?_
      refine r_getf (pc2 := 21) dX4_seen_18 rfl fl_4_20 (by assumption) (by assumption) (by rfl) ?_
      refine r_iload_n (pc2 := 22) dX4_seen_21 rfl rfl ?_
      refine r_callv_1 (pc2 := 25) dX4_seen_22 rfl rs_4_191 rfl (by decide) rfl (Nat.le_of_ble_eq_true rfl) (Nat.le_of_ble_eq_true rfl) (by assumption) (by assumption) (c_stepAt w 2 3 4 v p sh ln pr gd co c s xC hK a (by omega)) (fun r_ w_ h_ => ?_)
      rw [h_.1, h_.2]
      clear h_ w_ r_
      refine ⟨rfl, ?_⟩
      have q3 := stZ_rg (p := p) (an := a) hp (by omega)
      refine r_ist_4 (pc2 := 27) dX4_seen_25 rfl rfl ?_
      refine r_aload_n (pc2 := 28) dX4_seen_27 rfl rfl ?_
      refine r_getf (pc2 := 31) dX4_seen_28 rfl fl_4_20 (by assumption) (by assumption) (by rfl) ?_
      refine r_iload (pc2 := 33) dX4_seen_31 rfl rfl ?_
      refine r_iload_n (pc2 := 34) dX4_seen_33 rfl rfl ?_
      refine r_callv_2 (pc2 := 37) dX4_seen_34 rfl rs_4_194 rfl (by decide) rfl (Nat.le_of_ble_eq_true rfl) (Nat.le_of_ble_eq_true rfl) (by assumption) (by assumption) (c_placeSeen w 2 3 4 v p sh ln pr gd co c s xC hK (stZ p a) b (by omega) (by omega)) (fun r_ w_ h_ => ?_)
      rw [h_.1, h_.2]
      clear h_ w_ r_
      refine ⟨rfl, ?_⟩
      refine r_ist_5 (pc2 := 39) dX4_seen_37 rfl rfl ?_
      refine r_iload_n (pc2 := 40) dX4_seen_39 rfl rfl ?_
      refine r_tab (len := 32) dX4_seen_40 ⟨by omega, by omega⟩ (fun hD => ⟨122, by decide, ?_⟩) (fun hI => ?_)
      · refine r_bipush (pc2 := 124) dX4_seen_122 rfl (by decide) ?_
        refine r_ret dX4_seen_124 rfl ?_
        refine RC_of (x := -102) ?_ rfl agO.rf h
        show (if ¬ ((-9 ≤ a ∧ a ≤ 9) ∧ (0 ≤ b ∧ b ≤ 11)) then -101 else if k = 0 then nn (sD s (slZ p sh b (plZ p ln (stZ p a) b))) else if k = 1 then nn (colI c (sD s (slZ p sh b (plZ p ln (stZ p a) b))) (rdZ p sh b (plZ p ln (stZ p a) b))) else if k = 2 then (plZ p ln (stZ p a) b) else if k = 3 then (bz (ghC s (ssF p sh ln) (stZ p a) b)) else -102) = _
        rw [if_neg (by omega), if_neg (by omega), if_neg (by omega), if_neg (by omega), if_neg (by omega)]
      · have hcase : k = 0 ∨ k = 1 ∨ k = 2 ∨ k = 3 := by omega
        rcases hcase with hX0 | hX1 | hX2 | hX3
        · refine ⟨32, 72, by rw [hX0]; rfl, by decide, ?_⟩
          refine r_aload_n (pc2 := 73) dX4_seen_72 rfl rfl ?_
          refine r_getf (pc2 := 76) dX4_seen_73 rfl fl_4_20 (by assumption) (by assumption) (by rfl) ?_
          refine r_iload_n (pc2 := 77) dX4_seen_76 rfl rfl ?_
          refine r_iload (pc2 := 79) dX4_seen_77 rfl rfl ?_
          refine r_callv_2 (pc2 := 82) dX4_seen_79 rfl rs_4_176 rfl (by decide) rfl (Nat.le_of_ble_eq_true rfl) (Nat.le_of_ble_eq_true rfl) (by assumption) (by assumption) (c_viewBehind w 2 3 4 v p sh ln pr gd co c s xC hK b (plZ p ln (stZ p a) b) (by omega) (by omega)) (fun r_ w_ h_ => ?_)
          rw [h_.1, h_.2]
          clear h_ w_ r_
          refine ⟨rfl, ?_⟩
          refine r_calls_1 (pc2 := 85) dX4_seen_82 rfl rs_4_179 rfl (by decide) rfl (Nat.le_of_ble_eq_true rfl) (Nat.le_of_ble_eq_true rfl) (c_none w (sD s (slZ p sh b (plZ p ln (stZ p a) b))) ⟨by omega, by omega⟩) (fun r_ w_ h_ => ?_)
          rw [h_.1, h_.2]
          clear h_ w_ r_
          refine ⟨rfl, ?_⟩
          refine r_ret dX4_seen_85 rfl ?_
          refine RC_of (x := nn (sD s (slZ p sh b (plZ p ln (stZ p a) b)))) ?_ rfl agO.rf h
          show (if ¬ ((-9 ≤ a ∧ a ≤ 9) ∧ (0 ≤ b ∧ b ≤ 11)) then -101 else if k = 0 then nn (sD s (slZ p sh b (plZ p ln (stZ p a) b))) else if k = 1 then nn (colI c (sD s (slZ p sh b (plZ p ln (stZ p a) b))) (rdZ p sh b (plZ p ln (stZ p a) b))) else if k = 2 then (plZ p ln (stZ p a) b) else if k = 3 then (bz (ghC s (ssF p sh ln) (stZ p a) b)) else -102) = _
          rw [if_neg (by omega), if_pos (by omega)]
        · refine ⟨46, 86, by rw [hX1]; rfl, by decide, ?_⟩
          refine r_aload_n (pc2 := 87) dX4_seen_86 rfl rfl ?_
          refine r_getf (pc2 := 90) dX4_seen_87 rfl fl_4_20 (by assumption) (by assumption) (by rfl) ?_
          refine r_iload_n (pc2 := 91) dX4_seen_90 rfl rfl ?_
          refine r_iload (pc2 := 93) dX4_seen_91 rfl rfl ?_
          refine r_callv_2 (pc2 := 96) dX4_seen_93 rfl rs_4_182 rfl (by decide) rfl (Nat.le_of_ble_eq_true rfl) (Nat.le_of_ble_eq_true rfl) (by assumption) (by assumption) (c_colourBehind w 2 3 4 v p sh ln pr gd co c s xC hK b (plZ p ln (stZ p a) b) (by omega) (by omega) (fun j hj => by have := hS j hj; omega)) (fun r_ w_ h_ => ?_)
          rw [h_.1, h_.2]
          clear h_ w_ r_
          refine ⟨rfl, ?_⟩
          refine r_calls_1 (pc2 := 99) dX4_seen_96 rfl rs_4_179 rfl (by decide) rfl (Nat.le_of_ble_eq_true rfl) (Nat.le_of_ble_eq_true rfl) (c_none w (colI c (sD s (slZ p sh b (plZ p ln (stZ p a) b))) (rdZ p sh b (plZ p ln (stZ p a) b))) ⟨by omega, by omega⟩) (fun r_ w_ h_ => ?_)
          rw [h_.1, h_.2]
          clear h_ w_ r_
          refine ⟨rfl, ?_⟩
          refine r_ret dX4_seen_99 rfl ?_
          refine RC_of (x := nn (colI c (sD s (slZ p sh b (plZ p ln (stZ p a) b))) (rdZ p sh b (plZ p ln (stZ p a) b)))) ?_ rfl agO.rf h
          show (if ¬ ((-9 ≤ a ∧ a ≤ 9) ∧ (0 ≤ b ∧ b ≤ 11)) then -101 else if k = 0 then nn (sD s (slZ p sh b (plZ p ln (stZ p a) b))) else if k = 1 then nn (colI c (sD s (slZ p sh b (plZ p ln (stZ p a) b))) (rdZ p sh b (plZ p ln (stZ p a) b))) else if k = 2 then (plZ p ln (stZ p a) b) else if k = 3 then (bz (ghC s (ssF p sh ln) (stZ p a) b)) else -102) = _
          rw [if_neg (by omega), if_neg (by omega), if_pos (by omega)]
        · refine ⟨60, 100, by rw [hX2]; rfl, by decide, ?_⟩
          refine r_iload (pc2 := 102) dX4_seen_100 rfl rfl ?_
          refine r_ret dX4_seen_102 rfl ?_
          refine RC_of (x := (plZ p ln (stZ p a) b)) ?_ rfl agO.rf h
          show (if ¬ ((-9 ≤ a ∧ a ≤ 9) ∧ (0 ≤ b ∧ b ≤ 11)) then -101 else if k = 0 then nn (sD s (slZ p sh b (plZ p ln (stZ p a) b))) else if k = 1 then nn (colI c (sD s (slZ p sh b (plZ p ln (stZ p a) b))) (rdZ p sh b (plZ p ln (stZ p a) b))) else if k = 2 then (plZ p ln (stZ p a) b) else if k = 3 then (bz (ghC s (ssF p sh ln) (stZ p a) b)) else -102) = _
          rw [if_neg (by omega), if_neg (by omega), if_neg (by omega), if_pos (by omega)]
        · refine ⟨63, 103, by rw [hX3]; rfl, by decide, ?_⟩
          refine r_aload_n (pc2 := 104) dX4_seen_103 rfl rfl ?_
          refine r_callv_0 (pc2 := 107) dX4_seen_104 rfl rs_4_126 rfl (by decide) rfl (Nat.le_of_ble_eq_true rfl) (Nat.le_of_ble_eq_true rfl) (by assumption) (by assumption) (c_lookC _ v p sh ln pr gd co c s _ _ _ _ _ _ h hK) (fun r_ w_ h_ => ?_)
          obtain ⟨e_, qgr, qhl, qqf, qqg, qqG⟩ := h_
          rw [e_]
          clear e_
          obtain ⟨wq, rfl⟩ : ∃ wq, wq = w_ := ⟨_, rfl⟩
          obtain ⟨q33, q0w, qC, ⟨qf, qg, qG⟩, ⟨qT, qTV⟩, ⟨qf2, qg2, qH⟩, ⟨qb, qB⟩, ⟨qq, qP⟩, qS, ⟨qk, qX⟩⟩ := id qhl
          have q0 : 0 < wq.1 := by omega
          have qC : Cd wq 2 3 4 v p sh ln pr gd co c s := qC
          obtain ⟨⟨q1, q1w⟩, -⟩ := id qC
          have q14 : 14 < wq.1 := by omega
          have q14w := qP.1
          obtain ⟨⟨q4, q4w⟩, -⟩ := id qqG
          refine ⟨qgr.1, ?_⟩
          refine r_iload (pc2 := 109) dX4_seen_107 rfl rfl ?_
          refine r_iload_n (pc2 := 110) dX4_seen_109 rfl rfl ?_
          refine r_callv_2 (pc2 := 113) dX4_seen_110 rfl rs_4_197 rfl (by decide) rfl (Nat.le_of_ble_eq_true rfl) (Nat.le_of_ble_eq_true rfl) (by assumption) (by assumption) (c_isGhost _ 2 3 4 v p sh ln pr gd co c s qC hK hS 1 5 6 _ _ qqG (ss5 hp _) (stZ p a) b (by omega) (by omega)) (fun r_ w_ h_ => ?_)
          rw [h_.1, h_.2]
          clear h_ w_ r_
          refine ⟨rfl, ?_⟩
          rw [bz_congr (ghC_fg (s := s) (f2 := ssF p sh ln) ss_of (show 0 ≤ stZ p a ∧ stZ p a < 6 by omega) (show 0 ≤ b ∧ b ≤ 11 by omega))]
          refine r_ifb_eq (pc2 := 116) (tgt := 120) dX4_seen_113 rfl (by decide)  (fun h113 => ?_) (fun h113 => ?_)
          · refine r_iconst (pc2 := 121) dX4_seen_120 rfl ?_
            refine r_ret dX4_seen_121 rfl ?_
            refine RC_of (x := _) ?_ rfl (qgr.mono (by omega) (by omega)) qhl
            show (if ¬ ((-9 ≤ a ∧ a ≤ 9) ∧ (0 ≤ b ∧ b ≤ 11)) then -101 else if k = 0 then nn (sD s (slZ p sh b (plZ p ln (stZ p a) b))) else if k = 1 then nn (colI c (sD s (slZ p sh b (plZ p ln (stZ p a) b))) (rdZ p sh b (plZ p ln (stZ p a) b))) else if k = 2 then (plZ p ln (stZ p a) b) else if k = 3 then (bz (ghC s (ssF p sh ln) (stZ p a) b)) else -102) = _
            rw [if_neg (by omega), if_neg (by omega), if_neg (by omega), if_neg (by omega), if_pos (by omega)]
            first
              | exact bz_t h113
              | exact bz_f h113
          · refine r_iconst (pc2 := 117) dX4_seen_116 rfl ?_
            refine r_goto (tgt := 121) dX4_seen_117 (by decide) ?_
            refine r_ret dX4_seen_121 rfl ?_
            refine RC_of (x := _) ?_ rfl (qgr.mono (by omega) (by omega)) qhl
            show (if ¬ ((-9 ≤ a ∧ a ≤ 9) ∧ (0 ≤ b ∧ b ≤ 11)) then -101 else if k = 0 then nn (sD s (slZ p sh b (plZ p ln (stZ p a) b))) else if k = 1 then nn (colI c (sD s (slZ p sh b (plZ p ln (stZ p a) b))) (rdZ p sh b (plZ p ln (stZ p a) b))) else if k = 2 then (plZ p ln (stZ p a) b) else if k = 3 then (bz (ghC s (ssF p sh ln) (stZ p a) b)) else -102) = _
            rw [if_neg (by omega), if_neg (by omega), if_neg (by omega), if_neg (by omega), if_pos (by omega)]
            first
              | exact bz_t h113
              | exact bz_f h113
    · refine r_bipush (pc2 := 16) dX4_seen_14 rfl (by decide) ?_
      refine r_ret dX4_seen_16 rfl ?_
      refine RC_of (x := -101) ?_ rfl agO.rf h
      show (if ¬ ((-9 ≤ a ∧ a ≤ 9) ∧ (0 ≤ b ∧ b ≤ 11)) then -101 else if k = 0 then nn (sD s (slZ p sh b (plZ p ln (stZ p a) b))) else if k = 1 then nn (colI c (sD s (slZ p sh b (plZ p ln (stZ p a) b))) (rdZ p sh b (plZ p ln (stZ p a) b))) else if k = 2 then (plZ p ln (stZ p a) b) else if k = 3 then (bz (ghC s (ssF p sh ln) (stZ p a) b)) else -102) = _
      rw [if_pos (by omega)]

def o_at (V : CV) (a : Int) (k : Int) : Int := match V with
  | (v, p, sh, ln, pr, gd, co, c, s) => if ¬ (-9 ≤ a ∧ a ≤ 9) then -101 else if k = 0 then ghF s (ssF p sh ln) (stZ p a) else if k = 1 then nn (whF s (ssF p sh ln) (stZ p a)) else if k = 2 then nn (mvF s (ssF p sh ln) (stZ p a) v.toNat).2 else if k = 3 then (if (mvF s (ssF p sh ln) (stZ p a) v.toNat).2 = -1 then 0 else rsF s (ssF p sh ln) (stZ p a) (mvF s (ssF p sh ln) (stZ p a) v.toNat).2) else if k = 4 then rsF s (ssF p sh ln) (stZ p a) (-1) else -102

set_option maxHeartbeats 4000000 in
theorem c_at (w : av_W) (v p sh ln pr gd co : Int) (c s : Nat → Int) (L : Nat → CV) (n : Int) (S : CV) (hs len : Int) (t : Nat → Int) (h : CLS w (v, p, sh, ln, pr, gd, co, c, s) L n S hs len t) (hV : KV (v, p, sh, ln, pr, gd, co, c, s)) (hn : 0 ≤ n ∧ n ≤ 4) (a : Int) (ha : RG a) (k : Int) (hk : RG k) : cl MX4_at [.ref 0, .int (iN a), .int (iN k)] w (fun r' w' => RC w w' r' (o_at (v, p, sh, ln, pr, gd, co, c, s) a k) (v, p, sh, ln, pr, gd, co, c, s) L n S hs len t) := by
  obtain ⟨x33, x0w, xC, ⟨xf, xg, xG⟩, ⟨xT, xTV⟩, ⟨xf2, xg2, xH⟩, ⟨xb, xB⟩, ⟨xq, xP⟩, xS, ⟨xk, xX⟩⟩ := id h
  have x0 : 0 < w.1 := by omega
  have xC : Cd w 2 3 4 v p sh ln pr gd co c s := xC
  obtain ⟨⟨x1, x1w⟩, -⟩ := id xC
  have x14 : 14 < w.1 := by omega
  have x14w := xP.1
  obtain ⟨hK, hS, hc, hpr⟩ := id hV
  have hK : KR v p sh ln := hK
  have hS : SR s := hS
  have hc : ∀ j : Nat, j < 48 → 0 ≤ c j ∧ c j ≤ 9 := hc
  have hpr : 0 ≤ pr ∧ pr ≤ 99999 := hpr
  obtain ⟨hv, hp, hsh, hln⟩ := id hK
  have haR : -2147483648 ≤ a ∧ a < 2147483648 := ha
  have hkR : -2147483648 ≤ k ∧ k < 2147483648 := hk
  have q5 := whF_rg (f := ssF p sh ln) hS (stZ p a)
  have q6 := mvF_rg s (ssF p sh ln) (stZ p a) v.toNat
  show rn MX4_at 0 [some (.ref 0), some (.int (iN a)), some (.int (iN k)), none] [] w _
  refine r_iload_n (pc2 := 1) dX4_at_0 rfl rfl ?_
  refine r_calls_1 (pc2 := 4) dX4_at_1 rfl rs_4_188 rfl (by decide) rfl (Nat.le_of_ble_eq_true rfl) (Nat.le_of_ble_eq_true rfl) (c_isAngle w a ha) (fun r_ w_ h_ => ?_)
  rw [h_.1, h_.2]
  clear h_ w_ r_
  refine ⟨rfl, ?_⟩
  refine r_ifb_ne (pc2 := 7) (tgt := 10) dX4_at_4 rfl (by decide)  (fun h4 => ?_) (fun h4 => ?_)
  · refine r_aload_n (pc2 := 11) dX4_at_10 rfl rfl ?_
    refine r_getf (pc2 := 14) dX4_at_11 rfl fl_4_20 (by assumption) (by assumption) (by rfl) ?_
    refine r_iload_n (pc2 := 15) dX4_at_14 rfl rfl ?_
    refine r_callv_1 (pc2 := 18) dX4_at_15 rfl rs_4_191 rfl (by decide) rfl (Nat.le_of_ble_eq_true rfl) (Nat.le_of_ble_eq_true rfl) (by assumption) (by assumption) (c_stepAt w 2 3 4 v p sh ln pr gd co c s xC hK a (by omega)) (fun r_ w_ h_ => ?_)
    rw [h_.1, h_.2]
    clear h_ w_ r_
    refine ⟨rfl, ?_⟩
    have q3 := stZ_rg (p := p) (an := a) hp (by omega)
    refine r_ist_3 (pc2 := 19) dX4_at_18 rfl rfl ?_
    refine r_aload_n (pc2 := 20) dX4_at_19 rfl rfl ?_
    refine r_callv_0 (pc2 := 23) dX4_at_20 rfl rs_4_126 rfl (by decide) rfl (Nat.le_of_ble_eq_true rfl) (Nat.le_of_ble_eq_true rfl) (by assumption) (by assumption) (c_lookC _ v p sh ln pr gd co c s _ _ _ _ _ _ h hK) (fun r_ w_ h_ => ?_)
    obtain ⟨e_, qgr, qhl, qqf, qqg, qqG⟩ := h_
    rw [e_]
    clear e_
    obtain ⟨wq, rfl⟩ : ∃ wq, wq = w_ := ⟨_, rfl⟩
    obtain ⟨q33, q0w, qC, ⟨qf, qg, qG⟩, ⟨qT, qTV⟩, ⟨qf2, qg2, qH⟩, ⟨qb, qB⟩, ⟨qq, qP⟩, qS, ⟨qk, qX⟩⟩ := id qhl
    have q0 : 0 < wq.1 := by omega
    have qC : Cd wq 2 3 4 v p sh ln pr gd co c s := qC
    obtain ⟨⟨q1, q1w⟩, -⟩ := id qC
    have q14 : 14 < wq.1 := by omega
    have q14w := qP.1
    obtain ⟨⟨q4, q4w⟩, -⟩ := id qqG
    refine ⟨qgr.1, ?_⟩
    refine r_pop (pc2 := 24) dX4_at_23 rfl rfl ?_
    refine r_iload_n (pc2 := 25) dX4_at_24 rfl rfl ?_
    refine r_tab (len := 35) dX4_at_25 ⟨by omega, by omega⟩ (fun hD => ⟨112, by decide, ?_⟩) (fun hI => ?_)
    · refine r_bipush (pc2 := 114) dX4_at_112 rfl (by decide) ?_
      refine r_ret dX4_at_114 rfl ?_
      refine RC_of (x := -102) ?_ rfl (qgr.mono (by omega) (by omega)) qhl
      show (if ¬ (-9 ≤ a ∧ a ≤ 9) then -101 else if k = 0 then ghF s (ssF p sh ln) (stZ p a) else if k = 1 then nn (whF s (ssF p sh ln) (stZ p a)) else if k = 2 then nn (mvF s (ssF p sh ln) (stZ p a) v.toNat).2 else if k = 3 then (if (mvF s (ssF p sh ln) (stZ p a) v.toNat).2 = -1 then 0 else rsF s (ssF p sh ln) (stZ p a) (mvF s (ssF p sh ln) (stZ p a) v.toNat).2) else if k = 4 then rsF s (ssF p sh ln) (stZ p a) (-1) else -102) = _
      rw [if_neg (by omega), if_neg (by omega), if_neg (by omega), if_neg (by omega), if_neg (by omega), if_neg (by omega)]
    · have hcase : k = 0 ∨ k = 1 ∨ k = 2 ∨ k = 3 ∨ k = 4 := by omega
      rcases hcase with hX0 | hX1 | hX2 | hX3 | hX4
      · refine ⟨35, 60, by rw [hX0]; rfl, by decide, ?_⟩
        refine r_aload_n (pc2 := 61) dX4_at_60 rfl rfl ?_
        refine r_getf (pc2 := 64) dX4_at_61 rfl fl_4_10 (by assumption) (by assumption) (by rfl) ?_
        refine r_iload_n (pc2 := 65) dX4_at_64 rfl rfl ?_
        refine r_callv_1 (pc2 := 68) dX4_at_65 rfl rs_4_201 rfl (by decide) rfl (Nat.le_of_ble_eq_true rfl) (Nat.le_of_ble_eq_true rfl) (by assumption) (by assumption) (c_ghosts _ 2 3 4 v p sh ln pr gd co c s qC hK hS 1 5 6 _ _ qqG (ss5 hp _) (stZ p a) (show 0 ≤ stZ p a ∧ stZ p a ≤ 5 by omega)) (fun r_ w_ h_ => ?_)
        rw [h_.1, h_.2]
        clear h_ w_ r_
        refine ⟨rfl, ?_⟩
        rw [ghF_fg ss_of (show 0 ≤ stZ p a ∧ stZ p a < 6 by omega)]
        refine r_ret dX4_at_68 rfl ?_
        refine RC_of (x := ghF s (ssF p sh ln) (stZ p a)) ?_ rfl (qgr.mono (by omega) (by omega)) qhl
        show (if ¬ (-9 ≤ a ∧ a ≤ 9) then -101 else if k = 0 then ghF s (ssF p sh ln) (stZ p a) else if k = 1 then nn (whF s (ssF p sh ln) (stZ p a)) else if k = 2 then nn (mvF s (ssF p sh ln) (stZ p a) v.toNat).2 else if k = 3 then (if (mvF s (ssF p sh ln) (stZ p a) v.toNat).2 = -1 then 0 else rsF s (ssF p sh ln) (stZ p a) (mvF s (ssF p sh ln) (stZ p a) v.toNat).2) else if k = 4 then rsF s (ssF p sh ln) (stZ p a) (-1) else -102) = _
        rw [if_neg (by omega), if_pos (by omega)]
      · refine ⟨44, 69, by rw [hX1]; rfl, by decide, ?_⟩
        refine r_aload_n (pc2 := 70) dX4_at_69 rfl rfl ?_
        refine r_getf (pc2 := 73) dX4_at_70 rfl fl_4_10 (by assumption) (by assumption) (by rfl) ?_
        refine r_iload_n (pc2 := 74) dX4_at_73 rfl rfl ?_
        refine r_callv_1 (pc2 := 77) dX4_at_74 rfl rs_4_204 rfl (by decide) rfl (Nat.le_of_ble_eq_true rfl) (Nat.le_of_ble_eq_true rfl) (by assumption) (by assumption) (c_wholeView _ 2 3 4 v p sh ln pr gd co c s qC hK hS 1 5 6 _ _ qqG (ss5 hp _) (stZ p a) (show 0 ≤ stZ p a ∧ stZ p a ≤ 5 by omega)) (fun r_ w_ h_ => ?_)
        rw [h_.1, h_.2]
        clear h_ w_ r_
        refine ⟨rfl, ?_⟩
        rw [whF_fg ss_of (show 0 ≤ stZ p a ∧ stZ p a < 6 by omega)]
        refine r_calls_1 (pc2 := 80) dX4_at_77 rfl rs_4_179 rfl (by decide) rfl (Nat.le_of_ble_eq_true rfl) (Nat.le_of_ble_eq_true rfl) (c_none _ (whF s (ssF p sh ln) (stZ p a)) ⟨by omega, by omega⟩) (fun r_ w_ h_ => ?_)
        rw [h_.1, h_.2]
        clear h_ w_ r_
        refine ⟨rfl, ?_⟩
        refine r_ret dX4_at_80 rfl ?_
        refine RC_of (x := nn (whF s (ssF p sh ln) (stZ p a))) ?_ rfl (qgr.mono (by omega) (by omega)) qhl
        show (if ¬ (-9 ≤ a ∧ a ≤ 9) then -101 else if k = 0 then ghF s (ssF p sh ln) (stZ p a) else if k = 1 then nn (whF s (ssF p sh ln) (stZ p a)) else if k = 2 then nn (mvF s (ssF p sh ln) (stZ p a) v.toNat).2 else if k = 3 then (if (mvF s (ssF p sh ln) (stZ p a) v.toNat).2 = -1 then 0 else rsF s (ssF p sh ln) (stZ p a) (mvF s (ssF p sh ln) (stZ p a) v.toNat).2) else if k = 4 then rsF s (ssF p sh ln) (stZ p a) (-1) else -102) = _
        rw [if_neg (by omega), if_neg (by omega), if_pos (by omega)]
      · refine ⟨56, 81, by rw [hX2]; rfl, by decide, ?_⟩
        refine r_aload_n (pc2 := 82) dX4_at_81 rfl rfl ?_
        refine r_getf (pc2 := 85) dX4_at_82 rfl fl_4_10 (by assumption) (by assumption) (by rfl) ?_
        refine r_iload_n (pc2 := 86) dX4_at_85 rfl rfl ?_
        refine r_callv_1 (pc2 := 89) dX4_at_86 rfl rs_4_207 rfl (by decide) rfl (Nat.le_of_ble_eq_true rfl) (Nat.le_of_ble_eq_true rfl) (by assumption) (by assumption) (c_mostShown _ 2 3 4 v p sh ln pr gd co c s qC hK hS 1 5 6 _ _ qqG (ss5 hp _) (stZ p a) (show 0 ≤ stZ p a ∧ stZ p a ≤ 5 by omega)) (fun r_ w_ h_ => ?_)
        rw [h_.1, h_.2]
        clear h_ w_ r_
        refine ⟨rfl, ?_⟩
        rw [mvF_fg ss_of (show 0 ≤ stZ p a ∧ stZ p a < 6 by omega)]
        refine r_calls_1 (pc2 := 92) dX4_at_89 rfl rs_4_179 rfl (by decide) rfl (Nat.le_of_ble_eq_true rfl) (Nat.le_of_ble_eq_true rfl) (c_none _ (mvF s (ssF p sh ln) (stZ p a) v.toNat).2 ⟨by omega, by omega⟩) (fun r_ w_ h_ => ?_)
        rw [h_.1, h_.2]
        clear h_ w_ r_
        refine ⟨rfl, ?_⟩
        refine r_ret dX4_at_92 rfl ?_
        refine RC_of (x := nn (mvF s (ssF p sh ln) (stZ p a) v.toNat).2) ?_ rfl (qgr.mono (by omega) (by omega)) qhl
        show (if ¬ (-9 ≤ a ∧ a ≤ 9) then -101 else if k = 0 then ghF s (ssF p sh ln) (stZ p a) else if k = 1 then nn (whF s (ssF p sh ln) (stZ p a)) else if k = 2 then nn (mvF s (ssF p sh ln) (stZ p a) v.toNat).2 else if k = 3 then (if (mvF s (ssF p sh ln) (stZ p a) v.toNat).2 = -1 then 0 else rsF s (ssF p sh ln) (stZ p a) (mvF s (ssF p sh ln) (stZ p a) v.toNat).2) else if k = 4 then rsF s (ssF p sh ln) (stZ p a) (-1) else -102) = _
        rw [if_neg (by omega), if_neg (by omega), if_neg (by omega), if_pos (by omega)]
      · refine ⟨68, 93, by rw [hX3]; rfl, by decide, ?_⟩
        refine r_aload_n (pc2 := 94) dX4_at_93 rfl rfl ?_
        refine r_getf (pc2 := 97) dX4_at_94 rfl fl_4_10 (by assumption) (by assumption) (by rfl) ?_
        refine r_iload_n (pc2 := 98) dX4_at_97 rfl rfl ?_
        refine r_callv_1 (pc2 := 101) dX4_at_98 rfl rs_4_210 rfl (by decide) rfl (Nat.le_of_ble_eq_true rfl) (Nat.le_of_ble_eq_true rfl) (by assumption) (by assumption) (c_mostRidges _ 2 3 4 v p sh ln pr gd co c s qC hK hS 1 5 6 _ _ qqG (ss5 hp _) (stZ p a) (show 0 ≤ stZ p a ∧ stZ p a ≤ 5 by omega)) (fun r_ w_ h_ => ?_)
        rw [h_.1, h_.2]
        clear h_ w_ r_
        refine ⟨rfl, ?_⟩
        rw [mvF_fg ss_of (show 0 ≤ stZ p a ∧ stZ p a < 6 by omega), rsF_fg ss_of (show 0 ≤ stZ p a ∧ stZ p a < 6 by omega)]
        refine r_ret dX4_at_101 rfl ?_
        refine RC_of (x := (if (mvF s (ssF p sh ln) (stZ p a) v.toNat).2 = -1 then 0 else rsF s (ssF p sh ln) (stZ p a) (mvF s (ssF p sh ln) (stZ p a) v.toNat).2)) ?_ rfl (qgr.mono (by omega) (by omega)) qhl
        show (if ¬ (-9 ≤ a ∧ a ≤ 9) then -101 else if k = 0 then ghF s (ssF p sh ln) (stZ p a) else if k = 1 then nn (whF s (ssF p sh ln) (stZ p a)) else if k = 2 then nn (mvF s (ssF p sh ln) (stZ p a) v.toNat).2 else if k = 3 then (if (mvF s (ssF p sh ln) (stZ p a) v.toNat).2 = -1 then 0 else rsF s (ssF p sh ln) (stZ p a) (mvF s (ssF p sh ln) (stZ p a) v.toNat).2) else if k = 4 then rsF s (ssF p sh ln) (stZ p a) (-1) else -102) = _
        rw [if_neg (by omega), if_neg (by omega), if_neg (by omega), if_neg (by omega), if_pos (by omega)]
      · refine ⟨77, 102, by rw [hX4]; rfl, by decide, ?_⟩
        refine r_aload_n (pc2 := 103) dX4_at_102 rfl rfl ?_
        refine r_getf (pc2 := 106) dX4_at_103 rfl fl_4_10 (by assumption) (by assumption) (by rfl) ?_
        refine r_iload_n (pc2 := 107) dX4_at_106 rfl rfl ?_
        refine r_iconst (pc2 := 108) dX4_at_107 rfl ?_
        refine r_callv_2 (pc2 := 111) dX4_at_108 rfl rs_4_213 rfl (by decide) rfl (Nat.le_of_ble_eq_true rfl) (Nat.le_of_ble_eq_true rfl) (by assumption) (by assumption) (c_ridgesShowing _ 2 3 4 v p sh ln pr gd co c s qC hK hS 1 5 6 _ _ qqG (ss5 hp _) (stZ p a) (-1) (show 0 ≤ stZ p a ∧ stZ p a ≤ 5 by omega) ⟨by omega, by omega⟩) (fun r_ w_ h_ => ?_)
        rw [h_.1, h_.2]
        clear h_ w_ r_
        refine ⟨rfl, ?_⟩
        rw [rsF_fg ss_of (show 0 ≤ stZ p a ∧ stZ p a < 6 by omega)]
        refine r_ret dX4_at_111 rfl ?_
        refine RC_of (x := rsF s (ssF p sh ln) (stZ p a) (-1)) ?_ rfl (qgr.mono (by omega) (by omega)) qhl
        show (if ¬ (-9 ≤ a ∧ a ≤ 9) then -101 else if k = 0 then ghF s (ssF p sh ln) (stZ p a) else if k = 1 then nn (whF s (ssF p sh ln) (stZ p a)) else if k = 2 then nn (mvF s (ssF p sh ln) (stZ p a) v.toNat).2 else if k = 3 then (if (mvF s (ssF p sh ln) (stZ p a) v.toNat).2 = -1 then 0 else rsF s (ssF p sh ln) (stZ p a) (mvF s (ssF p sh ln) (stZ p a) v.toNat).2) else if k = 4 then rsF s (ssF p sh ln) (stZ p a) (-1) else -102) = _
        rw [if_neg (by omega), if_neg (by omega), if_neg (by omega), if_neg (by omega), if_neg (by omega), if_pos (by omega)]
  · refine r_bipush (pc2 := 9) dX4_at_7 rfl (by decide) ?_
    refine r_ret dX4_at_9 rfl ?_
    refine RC_of (x := -101) ?_ rfl agO.rf h
    show (if ¬ (-9 ≤ a ∧ a ≤ 9) then -101 else if k = 0 then ghF s (ssF p sh ln) (stZ p a) else if k = 1 then nn (whF s (ssF p sh ln) (stZ p a)) else if k = 2 then nn (mvF s (ssF p sh ln) (stZ p a) v.toNat).2 else if k = 3 then (if (mvF s (ssF p sh ln) (stZ p a) v.toNat).2 = -1 then 0 else rsF s (ssF p sh ln) (stZ p a) (mvF s (ssF p sh ln) (stZ p a) v.toNat).2) else if k = 4 then rsF s (ssF p sh ln) (stZ p a) (-1) else -102) = _
    rw [if_pos (by omega)]

def o_view (V : CV) (a : Int) (k : Int) : Int := match V with
  | (v, p, sh, ln, pr, gd, co, c, s) => if ¬ (0 ≤ a ∧ a ≤ v - 1) then -101 else if k = 0 then cnS p s a else if k = 1 then asF p s (ssF p sh ln) (cnA p 19) a else if k = 2 then (clF p s (ssF p sh ln) a 19).1 else if k = 3 then rsF s (ssF p sh ln) (stZ p (clF p s (ssF p sh ln) a 19).1) a else -102

set_option maxHeartbeats 4000000 in
theorem c_view (w : av_W) (v p sh ln pr gd co : Int) (c s : Nat → Int) (L : Nat → CV) (n : Int) (S : CV) (hs len : Int) (t : Nat → Int) (h : CLS w (v, p, sh, ln, pr, gd, co, c, s) L n S hs len t) (hV : KV (v, p, sh, ln, pr, gd, co, c, s)) (hn : 0 ≤ n ∧ n ≤ 4) (a : Int) (ha : RG a) (k : Int) (hk : RG k) : cl MX4_view [.ref 0, .int (iN a), .int (iN k)] w (fun r' w' => RC w w' r' (o_view (v, p, sh, ln, pr, gd, co, c, s) a k) (v, p, sh, ln, pr, gd, co, c, s) L n S hs len t) := by
  obtain ⟨x33, x0w, xC, ⟨xf, xg, xG⟩, ⟨xT, xTV⟩, ⟨xf2, xg2, xH⟩, ⟨xb, xB⟩, ⟨xq, xP⟩, xS, ⟨xk, xX⟩⟩ := id h
  have x0 : 0 < w.1 := by omega
  have xC : Cd w 2 3 4 v p sh ln pr gd co c s := xC
  obtain ⟨⟨x1, x1w⟩, -⟩ := id xC
  have x14 : 14 < w.1 := by omega
  have x14w := xP.1
  obtain ⟨hK, hS, hc, hpr⟩ := id hV
  have hK : KR v p sh ln := hK
  have hS : SR s := hS
  have hc : ∀ j : Nat, j < 48 → 0 ≤ c j ∧ c j ≤ 9 := hc
  have hpr : 0 ≤ pr ∧ pr ≤ 99999 := hpr
  obtain ⟨hv, hp, hsh, hln⟩ := id hK
  have haR : -2147483648 ≤ a ∧ a < 2147483648 := ha
  have hkR : -2147483648 ≤ k ∧ k < 2147483648 := hk
  have q5 := (clF_rg p s (ssF p sh ln) a 19 (Nat.le_refl _)).1
  show rn MX4_view 0 [some (.ref 0), some (.int (iN a)), some (.int (iN k))] [] w _
  refine r_aload_n (pc2 := 1) dX4_view_0 rfl rfl ?_
  refine r_getf (pc2 := 4) dX4_view_1 rfl fl_4_20 (by assumption) (by assumption) (by rfl) ?_
  refine r_iload_n (pc2 := 5) dX4_view_4 rfl rfl ?_
  refine r_callv_1 (pc2 := 8) dX4_view_5 rfl rs_4_55 rfl (by decide) rfl (Nat.le_of_ble_eq_true rfl) (Nat.le_of_ble_eq_true rfl) (by assumption) (by assumption) (c_hasView w 2 3 4 v p sh ln pr gd co c s xC hK a ha) (fun r_ w_ h_ => ?_)
  rw [h_.1, h_.2]
  clear h_ w_ r_
  refine ⟨rfl, ?_⟩
  refine r_ifb_ne (pc2 := 11) (tgt := 14) dX4_view_8 rfl (by decide)  (fun h8 => ?_) (fun h8 => ?_)
  · refine r_aload_n (pc2 := 15) dX4_view_14 rfl rfl ?_
    refine r_callv_0 (pc2 := 18) dX4_view_15 rfl rs_4_126 rfl (by decide) rfl (Nat.le_of_ble_eq_true rfl) (Nat.le_of_ble_eq_true rfl) (by assumption) (by assumption) (c_lookC _ v p sh ln pr gd co c s _ _ _ _ _ _ h hK) (fun r_ w_ h_ => ?_)
    obtain ⟨e_, qgr, qhl, qqf, qqg, qqG⟩ := h_
    rw [e_]
    clear e_
    obtain ⟨wq, rfl⟩ : ∃ wq, wq = w_ := ⟨_, rfl⟩
    obtain ⟨q33, q0w, qC, ⟨qf, qg, qG⟩, ⟨qT, qTV⟩, ⟨qf2, qg2, qH⟩, ⟨qb, qB⟩, ⟨qq, qP⟩, qS, ⟨qk, qX⟩⟩ := id qhl
    have q0 : 0 < wq.1 := by omega
    have qC : Cd wq 2 3 4 v p sh ln pr gd co c s := qC
    obtain ⟨⟨q1, q1w⟩, -⟩ := id qC
    have q14 : 14 < wq.1 := by omega
    have q14w := qP.1
    obtain ⟨⟨q4, q4w⟩, -⟩ := id qqG
    refine ⟨qgr.1, ?_⟩
    refine r_pop (pc2 := 19) dX4_view_18 rfl rfl ?_
    refine r_iload_n (pc2 := 20) dX4_view_19 rfl rfl ?_
    refine r_tab (len := 32) dX4_view_20 ⟨by omega, by omega⟩ (fun hD => ⟨103, by decide, ?_⟩) (fun hI => ?_)
    · refine r_bipush (pc2 := 105) dX4_view_103 rfl (by decide) ?_
      refine r_ret dX4_view_105 rfl ?_
      refine RC_of (x := -102) ?_ rfl (qgr.mono (by omega) (by omega)) qhl
      show (if ¬ (0 ≤ a ∧ a ≤ v - 1) then -101 else if k = 0 then cnS p s a else if k = 1 then asF p s (ssF p sh ln) (cnA p 19) a else if k = 2 then (clF p s (ssF p sh ln) a 19).1 else if k = 3 then rsF s (ssF p sh ln) (stZ p (clF p s (ssF p sh ln) a 19).1) a else -102) = _
      rw [if_neg (by omega), if_neg (by omega), if_neg (by omega), if_neg (by omega), if_neg (by omega)]
    · have hcase : k = 0 ∨ k = 1 ∨ k = 2 ∨ k = 3 := by omega
      rcases hcase with hX0 | hX1 | hX2 | hX3
      · refine ⟨32, 52, by rw [hX0]; rfl, by decide, ?_⟩
        refine r_aload_n (pc2 := 53) dX4_view_52 rfl rfl ?_
        refine r_getf (pc2 := 56) dX4_view_53 rfl fl_4_20 (by assumption) (by assumption) (by rfl) ?_
        refine r_iload_n (pc2 := 57) dX4_view_56 rfl rfl ?_
        refine r_callv_1 (pc2 := 60) dX4_view_57 rfl rs_4_216 rfl (by decide) rfl (Nat.le_of_ble_eq_true rfl) (Nat.le_of_ble_eq_true rfl) (by assumption) (by assumption) (c_slicesShowing _ 2 3 4 v p sh ln pr gd co c s qC hK hS a ha) (fun r_ w_ h_ => ?_)
        rw [h_.1, h_.2]
        clear h_ w_ r_
        refine ⟨rfl, ?_⟩
        refine r_ret dX4_view_60 rfl ?_
        refine RC_of (x := cnS p s a) ?_ rfl (qgr.mono (by omega) (by omega)) qhl
        show (if ¬ (0 ≤ a ∧ a ≤ v - 1) then -101 else if k = 0 then cnS p s a else if k = 1 then asF p s (ssF p sh ln) (cnA p 19) a else if k = 2 then (clF p s (ssF p sh ln) a 19).1 else if k = 3 then rsF s (ssF p sh ln) (stZ p (clF p s (ssF p sh ln) a 19).1) a else -102) = _
        rw [if_neg (by omega), if_pos (by omega)]
      · refine ⟨41, 61, by rw [hX1]; rfl, by decide, ?_⟩
        refine r_aload_n (pc2 := 62) dX4_view_61 rfl rfl ?_
        refine r_getf (pc2 := 65) dX4_view_62 rfl fl_4_10 (by assumption) (by assumption) (by rfl) ?_
        refine r_iload_n (pc2 := 66) dX4_view_65 rfl rfl ?_
        refine r_callv_1 (pc2 := 69) dX4_view_66 rfl rs_4_219 rfl (by decide) rfl (Nat.le_of_ble_eq_true rfl) (Nat.le_of_ble_eq_true rfl) (by assumption) (by assumption) (c_anglesWhole _ 2 3 4 v p sh ln pr gd co c s qC hK hS 1 5 6 _ _ qqG (ss5 hp _) a ha) (fun r_ w_ h_ => ?_)
        rw [h_.1, h_.2]
        clear h_ w_ r_
        refine ⟨rfl, ?_⟩
        rw [asF_fg hp ss_of cn_of]
        refine r_ret dX4_view_69 rfl ?_
        refine RC_of (x := asF p s (ssF p sh ln) (cnA p 19) a) ?_ rfl (qgr.mono (by omega) (by omega)) qhl
        show (if ¬ (0 ≤ a ∧ a ≤ v - 1) then -101 else if k = 0 then cnS p s a else if k = 1 then asF p s (ssF p sh ln) (cnA p 19) a else if k = 2 then (clF p s (ssF p sh ln) a 19).1 else if k = 3 then rsF s (ssF p sh ln) (stZ p (clF p s (ssF p sh ln) a 19).1) a else -102) = _
        rw [if_neg (by omega), if_neg (by omega), if_pos (by omega)]
      · refine ⟨50, 70, by rw [hX2]; rfl, by decide, ?_⟩
        refine r_aload_n (pc2 := 71) dX4_view_70 rfl rfl ?_
        refine r_getf (pc2 := 74) dX4_view_71 rfl fl_4_10 (by assumption) (by assumption) (by rfl) ?_
        refine r_iload_n (pc2 := 75) dX4_view_74 rfl rfl ?_
        refine r_callv_1 (pc2 := 78) dX4_view_75 rfl rs_4_222 rfl (by decide) rfl (Nat.le_of_ble_eq_true rfl) (Nat.le_of_ble_eq_true rfl) (by assumption) (by assumption) (c_clearest _ 2 3 4 v p sh ln pr gd co c s qC hK hS 1 5 6 _ _ qqG (ss5 hp _) a ha) (fun r_ w_ h_ => ?_)
        rw [h_.1, h_.2]
        clear h_ w_ r_
        refine ⟨rfl, ?_⟩
        rw [clF_fg hp ss_of 19 (Nat.le_refl _)]
        refine r_ret dX4_view_78 rfl ?_
        refine RC_of (x := (clF p s (ssF p sh ln) a 19).1) ?_ rfl (qgr.mono (by omega) (by omega)) qhl
        show (if ¬ (0 ≤ a ∧ a ≤ v - 1) then -101 else if k = 0 then cnS p s a else if k = 1 then asF p s (ssF p sh ln) (cnA p 19) a else if k = 2 then (clF p s (ssF p sh ln) a 19).1 else if k = 3 then rsF s (ssF p sh ln) (stZ p (clF p s (ssF p sh ln) a 19).1) a else -102) = _
        rw [if_neg (by omega), if_neg (by omega), if_neg (by omega), if_pos (by omega)]
      · refine ⟨59, 79, by rw [hX3]; rfl, by decide, ?_⟩
        refine r_aload_n (pc2 := 80) dX4_view_79 rfl rfl ?_
        refine r_getf (pc2 := 83) dX4_view_80 rfl fl_4_10 (by assumption) (by assumption) (by rfl) ?_
        refine r_aload_n (pc2 := 84) dX4_view_83 rfl rfl ?_
        refine r_getf (pc2 := 87) dX4_view_84 rfl fl_4_20 (by assumption) (by assumption) (by rfl) ?_
        refine r_aload_n (pc2 := 88) dX4_view_87 rfl rfl ?_
        refine r_getf (pc2 := 91) dX4_view_88 rfl fl_4_10 (by assumption) (by assumption) (by rfl) ?_
        refine r_iload_n (pc2 := 92) dX4_view_91 rfl rfl ?_
        refine r_callv_1 (pc2 := 95) dX4_view_92 rfl rs_4_222 rfl (by decide) rfl (Nat.le_of_ble_eq_true rfl) (Nat.le_of_ble_eq_true rfl) (by assumption) (by assumption) (c_clearest _ 2 3 4 v p sh ln pr gd co c s qC hK hS 1 5 6 _ _ qqG (ss5 hp _) a ha) (fun r_ w_ h_ => ?_)
        rw [h_.1, h_.2]
        clear h_ w_ r_
        refine ⟨rfl, ?_⟩
        rw [clF_fg hp ss_of 19 (Nat.le_refl _)]
        refine r_callv_1 (pc2 := 98) dX4_view_95 rfl rs_4_191 rfl (by decide) rfl (Nat.le_of_ble_eq_true rfl) (Nat.le_of_ble_eq_true rfl) (by assumption) (by assumption) (c_stepAt _ 2 3 4 v p sh ln pr gd co c s qC hK (clF p s (ssF p sh ln) a 19).1 (by omega)) (fun r_ w_ h_ => ?_)
        rw [h_.1, h_.2]
        clear h_ w_ r_
        refine ⟨rfl, ?_⟩
        have q3 := stZ_rg (p := p) (an := (clF p s (ssF p sh ln) a 19).1) hp (by omega)
        refine r_iload_n (pc2 := 99) dX4_view_98 rfl rfl ?_
        refine r_callv_2 (pc2 := 102) dX4_view_99 rfl rs_4_213 rfl (by decide) rfl (Nat.le_of_ble_eq_true rfl) (Nat.le_of_ble_eq_true rfl) (by assumption) (by assumption) (c_ridgesShowing _ 2 3 4 v p sh ln pr gd co c s qC hK hS 1 5 6 _ _ qqG (ss5 hp _) (stZ p (clF p s (ssF p sh ln) a 19).1) a (by omega) ha) (fun r_ w_ h_ => ?_)
        rw [h_.1, h_.2]
        clear h_ w_ r_
        refine ⟨rfl, ?_⟩
        rw [rsF_fg ss_of (show 0 ≤ stZ p (clF p s (ssF p sh ln) a 19).1 ∧ stZ p (clF p s (ssF p sh ln) a 19).1 < 6 by omega)]
        refine r_ret dX4_view_102 rfl ?_
        refine RC_of (x := rsF s (ssF p sh ln) (stZ p (clF p s (ssF p sh ln) a 19).1) a) ?_ rfl (qgr.mono (by omega) (by omega)) qhl
        show (if ¬ (0 ≤ a ∧ a ≤ v - 1) then -101 else if k = 0 then cnS p s a else if k = 1 then asF p s (ssF p sh ln) (cnA p 19) a else if k = 2 then (clF p s (ssF p sh ln) a 19).1 else if k = 3 then rsF s (ssF p sh ln) (stZ p (clF p s (ssF p sh ln) a 19).1) a else -102) = _
        rw [if_neg (by omega), if_neg (by omega), if_neg (by omega), if_neg (by omega), if_pos (by omega)]
  · refine r_bipush (pc2 := 13) dX4_view_11 rfl (by decide) ?_
    refine r_ret dX4_view_13 rfl ?_
    refine RC_of (x := -101) ?_ rfl agO.rf h
    show (if ¬ (0 ≤ a ∧ a ≤ v - 1) then -101 else if k = 0 then cnS p s a else if k = 1 then asF p s (ssF p sh ln) (cnA p 19) a else if k = 2 then (clF p s (ssF p sh ln) a 19).1 else if k = 3 then rsF s (ssF p sh ln) (stZ p (clF p s (ssF p sh ln) a 19).1) a else -102) = _
    rw [if_pos (by omega)]
