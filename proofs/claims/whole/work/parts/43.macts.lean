/-! the reference's acts: colour, slice, settles -/
def MA (w w' : av_W) (r' : Option Value) (o : Int × Option CV) (V : CV) (L : Nat → CV) (n : Int) (S : CV) (hs len : Int) (t : Nat → Int) : Prop := match o with
  | (x, none) => RM w w' r' x V L n S hs len t
  | (x, some V2) => RM w w' r' x V2 (recL L n V) (recN n) S hs len t
theorem MA_n {w w' : av_W} {r' : Option Value} {o : Int × Option CV} {x : Int} {V : CV} {L : Nat → CV} {n : Int} {S : CV} {hs len : Int} {t : Nat → Int} (e : o = (x, none)) (h1 : r' = some (.int (iN x))) (h2 : agO 33 42 w w') (h3 : REFS w' V L n S hs len t) : MA w w' r' o V L n S hs len t := by
  subst e
  exact ⟨h1, h2, h3⟩
theorem MA_s {w w' : av_W} {r' : Option Value} {o : Int × Option CV} {x : Int} {V V2 : CV} {L : Nat → CV} {n : Int} {S : CV} {hs len : Int} {t : Nat → Int} (e : o = (x, some V2)) (h1 : RM w w' r' x V2 (recL L n V) (recN n) S hs len t) : MA w w' r' o V L n S hs len t := by
  subst e
  exact h1
theorem RM.tr {w w1 w' : av_W} {r' : Option Value} {x : Int} {V : CV} {L : Nat → CV} {n : Int} {S : CV} {hs len : Int} {t : Nat → Int} (g : agO 33 42 w w1) (h : RM w1 w' r' x V L n S hs len t) : RM w w' r' x V L n S hs len t := ⟨h.1, g.trans h.2.1, h.2.2⟩
theorem gV_col {v p sh ln pr gd co : Int} {c s g : Nat → Int} (q : gV (v, p, sh, ln, pr, gd, co, c, s) g) (hv : v ≤ 4) {a b : Int} (ha : 0 ≤ a ∧ a < v) (hb : 0 ≤ b ∧ b ≤ 11) : g (13 + 12 * a + b).toNat = colI c a b := by
  obtain ⟨-, -, -, b3, -⟩ := q
  rw [colI_in (by omega) hb, show (13 + 12 * a + b).toNat = 13 + (a * 12 + b).toNat by omega]
  exact b3 _ (by omega)
theorem gV_slc {v p sh ln pr gd co : Int} {c s g : Nat → Int} (q : gV (v, p, sh, ln, pr, gd, co, c, s) g) (hp : p ≤ 6) {a : Int} (ha : 0 ≤ a ∧ a < p) : g (7 + a).toNat = sD s a := by
  obtain ⟨-, b1, -⟩ := q
  unfold sD
  rw [if_pos (by omega), show (7 + a).toNat = 7 + a.toNat by omega]
  exact b1 _ (by omega)
theorem gV_paint {v p sh ln pr gd co : Int} {c s g : Nat → Int} (q : gV (v, p, sh, ln, pr, gd, co, c, s) g) (hv : v ≤ 4) (hp6 : p ≤ 6) {a b : Int} (k : Int) (ha : 0 ≤ a ∧ a < v) (hb : 0 ≤ b ∧ b ≤ 11) : gV (v, p, sh, ln, pr, gd, co, updZ c (a * 12 + b).toNat k, s) (updZ g (13 + 12 * a + b).toNat k) := by
  obtain ⟨⟨a0, a1, a2, a3, a4, a5, a6⟩, b1, b2, b3, b4⟩ := q
  have ne : ∀ j : Nat, j < 13 → updZ g (13 + 12 * a + b).toNat k j = g j := fun j hj => if_neg (by omega)
  refine ⟨⟨(ne 0 (by omega)).trans a0, (ne 1 (by omega)).trans a1, (ne 2 (by omega)).trans a2, (ne 3 (by omega)).trans a3, (ne 4 (by omega)).trans a4, (ne 5 (by omega)).trans a5, (ne 6 (by omega)).trans a6⟩, fun j hj => ?_, fun j hj hj2 => (ne (7 + j) (by omega)).trans (b2 j hj hj2), fun j hj => ?_, fun j hj hj2 => ?_⟩
  · exact (ne (7 + j) (by omega)).trans (b1 j hj)
  · show (if 13 + j = (13 + 12 * a + b).toNat then k else g (13 + j)) = (if j = (a * 12 + b).toNat then k else c j)
    by_cases h : j = (a * 12 + b).toNat
    · rw [if_pos h, if_pos (by omega)]
    · rw [if_neg h, if_neg (by omega)]
      exact b3 j hj
  · show (if 13 + j = (13 + 12 * a + b).toNat then k else g (13 + j)) = 0
    rw [if_neg (by omega)]
    exact b4 j hj hj2

set_option maxHeartbeats 4000000 in
theorem m_colour (w : av_W) (v p sh ln pr gd co : Int) (c s : Nat → Int) (L : Nat → CV) (n : Int) (S : CV) (hs len : Int) (t : Nat → Int) (g ke : Nat → Int) (h : REFG w g ke (v, p, sh, ln, pr, gd, co, c, s) L n S hs len t) (hV : KV (v, p, sh, ln, pr, gd, co, c, s)) (hn : 0 ≤ n ∧ n ≤ 4) (hL : ∀ i : Nat, (i : Int) < n → (L i).1 ≤ 4 ∧ (L i).2.1 ≤ 6) (a : Int) (ha : RG a) (b : Int) (hb : RG b) (k : Int) (hk : RG k) : cl MX5_colour [.ref 33, .int (iN a), .int (iN b), .int (iN k)] w (fun r' w' => MA w w' r' (o_colour (v, p, sh, ln, pr, gd, co, c, s) a b k) (v, p, sh, ln, pr, gd, co, c, s) L n S hs len t) := by
  obtain ⟨x42, ⟨xsp, xrv, xrs, xoa, x33w⟩, ⟨x34w, xV⟩, x35w, -⟩ := id h
  have x33 : 33 < w.1 := by omega
  have x34 : 34 < w.1 := by omega
  obtain ⟨hK, hS, hc, hpr⟩ := id hV
  have hK : KR v p sh ln := hK
  have hS : SR s := hS
  have hc : ∀ j : Nat, j < 48 → 0 ≤ c j ∧ c j ≤ 9 := hc
  have hpr : 0 ≤ pr ∧ pr ≤ 99999 := hpr
  obtain ⟨hv, hp, hsh, hln⟩ := id hK
  have xV2 : gV (v, p, sh, ln, pr, gd, co, c, s) g := xV
  obtain ⟨⟨e0, e1, e2, e3, e4, e5, e6⟩, -⟩ := id xV2
  have hGR : GR g := ⟨by omega, by omega, by omega, by omega⟩
  have haR : -2147483648 ≤ a ∧ a < 2147483648 := ha
  have hbR : -2147483648 ≤ b ∧ b < 2147483648 := hb
  have hkR : -2147483648 ≤ k ∧ k < 2147483648 := hk
  have hcI := colI_rg hc a b
  show rn MX5_colour 0 [some (.ref 33), some (.int (iN a)), some (.int (iN b)), some (.int (iN k)), none] [] w _
  refine r_aload_n (pc2 := 1) dX5_colour_0 rfl rfl ?_
  refine r_iload_n (pc2 := 2) dX5_colour_1 rfl rfl ?_
  refine r_callv_1 (pc2 := 5) dX5_colour_2 rfl rs_5_84 rfl (by decide) rfl (Nat.le_of_ble_eq_true rfl) (Nat.le_of_ble_eq_true rfl) (by assumption) (by assumption) (m_isView w x42 _ _ _ _ _ _ _ x33w g x34w hGR a ha) (fun r_ w_ h_ => ?_)
  rw [h_.1, h_.2]
  clear h_ w_ r_
  refine ⟨rfl, ?_⟩
  refine r_ifb_eq (pc2 := 8) (tgt := 15) dX5_colour_5 rfl (by decide)  (fun h5 => ?_) (fun h5 => ?_)
  · refine r_bipush (pc2 := 17) dX5_colour_15 rfl (by decide) ?_
    refine r_ret dX5_colour_17 rfl ?_
    refine MA_n (x := -101) ?_ rfl agO.rf ⟨g, ke, h⟩
    show (if ¬ ((0 ≤ a ∧ a ≤ v - 1) ∧ (0 ≤ b ∧ b ≤ 11)) then (-101, none) else if ¬ (0 ≤ k ∧ k ≤ 9) then (-102, none) else if colI c a b = k then (-105, none) else (colI c a b, some (v, p, sh, ln, pr, gd, co, updZ c (a * 12 + b).toNat k, s))) = _
    rw [if_pos (by omega)]
  · refine r_iload_n (pc2 := 9) dX5_colour_8 rfl rfl ?_
    refine r_calls_1 (pc2 := 12) dX5_colour_9 rfl rs_5_88 rfl (by decide) rfl (Nat.le_of_ble_eq_true rfl) (Nat.le_of_ble_eq_true rfl) (m_isRidge w b hb) (fun r_ w_ h_ => ?_)
    rw [h_.1, h_.2]
    clear h_ w_ r_
    refine ⟨rfl, ?_⟩
    refine r_ifb_ne (pc2 := 15) (tgt := 18) dX5_colour_12 rfl (by decide)  (fun h12 => ?_) (fun h12 => ?_)
    · refine r_iload_n (pc2 := 19) dX5_colour_18 rfl rfl ?_
      refine r_i2l (pc2 := 20) dX5_colour_19 rfl (by omega) ?_
      refine r_lconst (z := 0) (pc2 := 21) dX5_colour_20 rfl (by decide) ?_
      refine r_ldl (pc2 := 24) dX5_colour_21 rfl kl_5_49 ?_
      refine r_calls_3 (pc2 := 27) dX5_colour_24 rfl rs_5_41 rfl (by decide) rfl (Nat.le_of_ble_eq_true rfl) (Nat.le_of_ble_eq_true rfl) (m_in w k 0 9 ⟨by omega, by omega⟩ ⟨by omega, by omega⟩ ⟨by omega, by omega⟩) (fun r_ w_ h_ => ?_)
      rw [h_.1, h_.2]
      clear h_ w_ r_
      refine ⟨rfl, ?_⟩
      refine r_ifb_ne (pc2 := 30) (tgt := 33) dX5_colour_27 rfl (by decide)  (fun h27 => ?_) (fun h27 => ?_)
      · refine r_aload_n (pc2 := 34) dX5_colour_33 rfl rfl ?_
        refine r_iload_n (pc2 := 35) dX5_colour_34 rfl rfl ?_
        refine r_iload_n (pc2 := 36) dX5_colour_35 rfl rfl ?_
        refine r_callv_2 (pc2 := 39) dX5_colour_36 rfl rs_5_91 rfl (by decide) rfl (Nat.le_of_ble_eq_true rfl) (Nat.le_of_ble_eq_true rfl) (by assumption) (by assumption) (m_colourAt w x42 _ _ _ _ _ _ _ x33w g x34w hGR a b (by omega) (by omega)) (fun r_ w_ h_ => ?_)
        rw [h_.1, h_.2]
        clear h_ w_ r_
        refine ⟨rfl, ?_⟩
        rw [gV_col xV2 hv.2 (by omega) (by omega)]
        refine r_ist_4 (pc2 := 41) dX5_colour_39 rfl rfl ?_
        refine r_iload (pc2 := 43) dX5_colour_41 rfl rfl ?_
        refine r_iload_n (pc2 := 44) dX5_colour_43 rfl rfl ?_
        refine r_icmp_ne (pc2 := 47) (tgt := 50) dX5_colour_44 rfl (by decide) (by omega) (by omega) (fun h44 => ?_) (fun h44 => ?_)
        · refine r_aload_n (pc2 := 51) dX5_colour_50 rfl rfl ?_
          refine r_callv_0 (pc2 := 54) dX5_colour_51 rfl rs_5_94 rfl (by decide) rfl (Nat.le_of_ble_eq_true rfl) (Nat.le_of_ble_eq_true rfl) (by assumption) (by assumption) (m_remC _ _ _ (v, p, sh, ln, pr, gd, co, c, s) _ _ _ _ _ _ h ⟨hv.2, hp.2⟩) (fun r_ w_ h_ => ?_)
          obtain ⟨e_, gr, ke2, hr, hke⟩ := h_
          rw [e_]
          clear e_
          obtain ⟨wr, rfl⟩ : ∃ wr, wr = w_ := ⟨_, rfl⟩
          obtain ⟨y42, ⟨ysp, yrv, yrs, yoa, y33w⟩, ⟨y34w, yV⟩, y35w, -⟩ := id hr
          have y33 : 33 < wr.1 := by omega
          have y34 : 34 < wr.1 := by omega
          refine ⟨gr.1, ?_⟩
          refine r_aload_n (pc2 := 55) dX5_colour_54 rfl rfl ?_
          refine r_getf (pc2 := 58) dX5_colour_55 rfl fl_5_7 (by assumption) (by assumption) (by rfl) ?_
          refine r_bipush (pc2 := 60) dX5_colour_58 rfl (by decide) ?_
          refine r_bipush (pc2 := 62) dX5_colour_60 rfl (by decide) ?_
          refine r_iload_n (pc2 := 63) dX5_colour_62 rfl rfl ?_
          refine r_imul (pc2 := 64) dX5_colour_63 rfl ?_
          refine r_iadd (pc2 := 65) dX5_colour_64 rfl ?_
          refine r_iload_n (pc2 := 66) dX5_colour_65 rfl rfl ?_
          refine r_iadd (pc2 := 67) dX5_colour_66 rfl ?_
          refine r_iload_n (pc2 := 68) dX5_colour_67 rfl rfl ?_
          refine r_iast (pc2 := 69) dX5_colour_68 rfl (by assumption) (by assumption) (by omega) (by omega) (by omega) ?_
          have z33 : 33 < (wst wr 34 (arO 61 (updZ g (13 + 12 * a + b).toNat k))).1 := y33
          have z33w := (wst_ne (w := wr) (a := 34) (b := 33) (e := arO 61 (updZ g (13 + 12 * a + b).toNat k)) (by decide)).trans y33w
          refine r_aload_n (pc2 := 70) dX5_colour_69 rfl rfl ?_
          refine r_iload (pc2 := 72) dX5_colour_70 rfl rfl ?_
          refine r_callv_1 (pc2 := 75) dX5_colour_72 rfl rs_5_97 rfl (by decide) rfl (Nat.le_of_ble_eq_true rfl) (Nat.le_of_ble_eq_true rfl) (by assumption) (by assumption) (m_actC _ _ ke2 (v, p, sh, ln, pr, gd, co, updZ c (a * 12 + b).toNat k, s) (v, p, sh, ln, pr, gd, co, c, s) L n S hs len t (REFG_34 hr (gV_paint xV2 hv.2 hp.2 k (by omega) (by omega))) ⟨hv.2, hp.2⟩ hke hL hn (colI c a b)) (fun r_ w_ h_ => ?_)
          rw [h_.1]
          refine ⟨h_.2.1.1, ?_⟩
          refine r_ret dX5_colour_75 rfl ?_
          refine MA_s (x := colI c a b) (V2 := (v, p, sh, ln, pr, gd, co, updZ c (a * 12 + b).toNat k, s)) ?_ ⟨rfl, agO.trans ?_ h_.2.1, h_.2.2⟩
          · show (if ¬ ((0 ≤ a ∧ a ≤ v - 1) ∧ (0 ≤ b ∧ b ≤ 11)) then (-101, none) else if ¬ (0 ≤ k ∧ k ≤ 9) then (-102, none) else if colI c a b = k then (-105, none) else (colI c a b, some (v, p, sh, ln, pr, gd, co, updZ c (a * 12 + b).toNat k, s))) = _
            rw [if_neg (by omega), if_neg (by omega), if_neg (by omega)]
          · exact gr.trans (agO.wst _ (by omega))
        · refine r_bipush (pc2 := 49) dX5_colour_47 rfl (by decide) ?_
          refine r_ret dX5_colour_49 rfl ?_
          refine MA_n (x := -105) ?_ rfl agO.rf ⟨g, ke, h⟩
          show (if ¬ ((0 ≤ a ∧ a ≤ v - 1) ∧ (0 ≤ b ∧ b ≤ 11)) then (-101, none) else if ¬ (0 ≤ k ∧ k ≤ 9) then (-102, none) else if colI c a b = k then (-105, none) else (colI c a b, some (v, p, sh, ln, pr, gd, co, updZ c (a * 12 + b).toNat k, s))) = _
          rw [if_neg (by omega), if_neg (by omega), if_pos (by omega)]
      · refine r_bipush (pc2 := 32) dX5_colour_30 rfl (by decide) ?_
        refine r_ret dX5_colour_32 rfl ?_
        refine MA_n (x := -102) ?_ rfl agO.rf ⟨g, ke, h⟩
        show (if ¬ ((0 ≤ a ∧ a ≤ v - 1) ∧ (0 ≤ b ∧ b ≤ 11)) then (-101, none) else if ¬ (0 ≤ k ∧ k ≤ 9) then (-102, none) else if colI c a b = k then (-105, none) else (colI c a b, some (v, p, sh, ln, pr, gd, co, updZ c (a * 12 + b).toNat k, s))) = _
        rw [if_neg (by omega), if_pos (by omega)]
    · refine r_bipush (pc2 := 17) dX5_colour_15 rfl (by decide) ?_
      refine r_ret dX5_colour_17 rfl ?_
      refine MA_n (x := -101) ?_ rfl agO.rf ⟨g, ke, h⟩
      show (if ¬ ((0 ≤ a ∧ a ≤ v - 1) ∧ (0 ≤ b ∧ b ≤ 11)) then (-101, none) else if ¬ (0 ≤ k ∧ k ≤ 9) then (-102, none) else if colI c a b = k then (-105, none) else (colI c a b, some (v, p, sh, ln, pr, gd, co, updZ c (a * 12 + b).toNat k, s))) = _
      rw [if_pos (by omega)]

theorem gV_put {v p sh ln pr gd co : Int} {c s g : Nat → Int} (q : gV (v, p, sh, ln, pr, gd, co, c, s) g) (hp6 : p ≤ 6) {a : Int} (k : Int) (ha : 0 ≤ a ∧ a < p) : gV (v, p, sh, ln, pr, gd, co, c, updZ s a.toNat k) (updZ g (7 + a).toNat k) := by
  obtain ⟨⟨a0, a1, a2, a3, a4, a5, a6⟩, b1, b2, b3, b4⟩ := q
  have ne : ∀ j : Nat, (j < 7 ∨ 13 ≤ j) → updZ g (7 + a).toNat k j = g j := fun j hj => if_neg (by omega)
  refine ⟨⟨(ne 0 (by omega)).trans a0, (ne 1 (by omega)).trans a1, (ne 2 (by omega)).trans a2, (ne 3 (by omega)).trans a3, (ne 4 (by omega)).trans a4, (ne 5 (by omega)).trans a5, (ne 6 (by omega)).trans a6⟩, fun j hj => ?_, fun j hj hj2 => ?_, fun j hj => (ne (13 + j) (by omega)).trans (b3 j hj), fun j hj hj2 => (ne (13 + j) (by omega)).trans (b4 j hj hj2)⟩
  · show (if 7 + j = (7 + a).toNat then k else g (7 + j)) = (if j = a.toNat then k else s j)
    by_cases h : j = a.toNat
    · rw [if_pos h, if_pos (by omega)]
    · rw [if_neg h, if_neg (by omega)]
      exact b1 j hj
  · show (if 7 + j = (7 + a).toNat then k else g (7 + j)) = 0
    rw [if_neg (by omega)]
    exact b2 j hj hj2

set_option maxHeartbeats 4000000 in
theorem m_slice (w : av_W) (v p sh ln pr gd co : Int) (c s : Nat → Int) (L : Nat → CV) (n : Int) (S : CV) (hs len : Int) (t : Nat → Int) (g ke : Nat → Int) (h : REFG w g ke (v, p, sh, ln, pr, gd, co, c, s) L n S hs len t) (hV : KV (v, p, sh, ln, pr, gd, co, c, s)) (hn : 0 ≤ n ∧ n ≤ 4) (hL : ∀ i : Nat, (i : Int) < n → (L i).1 ≤ 4 ∧ (L i).2.1 ≤ 6) (a : Int) (ha : RG a) (b : Int) (hb : RG b) : cl MX5_slice [.ref 33, .int (iN a), .int (iN b)] w (fun r' w' => MA w w' r' (o_slice (v, p, sh, ln, pr, gd, co, c, s) a b) (v, p, sh, ln, pr, gd, co, c, s) L n S hs len t) := by
  obtain ⟨x42, ⟨xsp, xrv, xrs, xoa, x33w⟩, ⟨x34w, xV⟩, x35w, -⟩ := id h
  have x33 : 33 < w.1 := by omega
  have x34 : 34 < w.1 := by omega
  obtain ⟨hK, hS, hc, hpr⟩ := id hV
  have hK : KR v p sh ln := hK
  have hS : SR s := hS
  have hc : ∀ j : Nat, j < 48 → 0 ≤ c j ∧ c j ≤ 9 := hc
  have hpr : 0 ≤ pr ∧ pr ≤ 99999 := hpr
  obtain ⟨hv, hp, hsh, hln⟩ := id hK
  have xV2 : gV (v, p, sh, ln, pr, gd, co, c, s) g := xV
  obtain ⟨⟨e0, e1, e2, e3, e4, e5, e6⟩, -⟩ := id xV2
  have hGR : GR g := ⟨by omega, by omega, by omega, by omega⟩
  have haR : -2147483648 ≤ a ∧ a < 2147483648 := ha
  have hbR : -2147483648 ≤ b ∧ b < 2147483648 := hb
  have hsI := sDs_rg hS a
  show rn MX5_slice 0 [some (.ref 33), some (.int (iN a)), some (.int (iN b)), none] [] w _
  refine r_aload_n (pc2 := 1) dX5_slice_0 rfl rfl ?_
  refine r_iload_n (pc2 := 2) dX5_slice_1 rfl rfl ?_
  refine r_callv_1 (pc2 := 5) dX5_slice_2 rfl rs_5_112 rfl (by decide) rfl (Nat.le_of_ble_eq_true rfl) (Nat.le_of_ble_eq_true rfl) (by assumption) (by assumption) (m_isSlice w x42 _ _ _ _ _ _ _ x33w g x34w hGR a ha) (fun r_ w_ h_ => ?_)
  rw [h_.1, h_.2]
  clear h_ w_ r_
  refine ⟨rfl, ?_⟩
  refine r_ifb_eq (pc2 := 8) (tgt := 16) dX5_slice_5 rfl (by decide)  (fun h5 => ?_) (fun h5 => ?_)
  · refine r_bipush (pc2 := 18) dX5_slice_16 rfl (by decide) ?_
    refine r_ret dX5_slice_18 rfl ?_
    refine MA_n (x := -101) ?_ rfl agO.rf ⟨g, ke, h⟩
    show (if ¬ ((0 ≤ a ∧ a ≤ p - 1) ∧ (0 ≤ b ∧ b ≤ v - 1)) then (-101, none) else if sD s a = b then (-105, none) else (sD s a, some (v, p, sh, ln, pr, gd, co, c, updZ s a.toNat b))) = _
    rw [if_pos (by omega)]
  · refine r_aload_n (pc2 := 9) dX5_slice_8 rfl rfl ?_
    refine r_iload_n (pc2 := 10) dX5_slice_9 rfl rfl ?_
    refine r_callv_1 (pc2 := 13) dX5_slice_10 rfl rs_5_84 rfl (by decide) rfl (Nat.le_of_ble_eq_true rfl) (Nat.le_of_ble_eq_true rfl) (by assumption) (by assumption) (m_isView w x42 _ _ _ _ _ _ _ x33w g x34w hGR b hb) (fun r_ w_ h_ => ?_)
    rw [h_.1, h_.2]
    clear h_ w_ r_
    refine ⟨rfl, ?_⟩
    refine r_ifb_ne (pc2 := 16) (tgt := 19) dX5_slice_13 rfl (by decide)  (fun h13 => ?_) (fun h13 => ?_)
    · refine r_aload_n (pc2 := 20) dX5_slice_19 rfl rfl ?_
      refine r_getf (pc2 := 23) dX5_slice_20 rfl fl_5_7 (by assumption) (by assumption) (by rfl) ?_
      refine r_bipush (pc2 := 25) dX5_slice_23 rfl (by decide) ?_
      refine r_iload_n (pc2 := 26) dX5_slice_25 rfl rfl ?_
      refine r_iadd (pc2 := 27) dX5_slice_26 rfl ?_
      refine r_iald (pc2 := 28) dX5_slice_27 rfl (by decide) (by assumption) (by assumption) (by omega) (by omega) (by omega) ?_
      rw [gV_slc xV2 hp.2 (by omega)]
      refine r_ist_3 (pc2 := 29) dX5_slice_28 rfl rfl ?_
      refine r_iload_n (pc2 := 30) dX5_slice_29 rfl rfl ?_
      refine r_iload_n (pc2 := 31) dX5_slice_30 rfl rfl ?_
      refine r_icmp_ne (pc2 := 34) (tgt := 37) dX5_slice_31 rfl (by decide) (by omega) (by omega) (fun h31 => ?_) (fun h31 => ?_)
      · refine r_aload_n (pc2 := 38) dX5_slice_37 rfl rfl ?_
        refine r_callv_0 (pc2 := 41) dX5_slice_38 rfl rs_5_94 rfl (by decide) rfl (Nat.le_of_ble_eq_true rfl) (Nat.le_of_ble_eq_true rfl) (by assumption) (by assumption) (m_remC _ _ _ (v, p, sh, ln, pr, gd, co, c, s) _ _ _ _ _ _ h ⟨hv.2, hp.2⟩) (fun r_ w_ h_ => ?_)
        obtain ⟨e_, gr, ke2, hr, hke⟩ := h_
        rw [e_]
        clear e_
        obtain ⟨wr, rfl⟩ : ∃ wr, wr = w_ := ⟨_, rfl⟩
        obtain ⟨y42, ⟨ysp, yrv, yrs, yoa, y33w⟩, ⟨y34w, yV⟩, y35w, -⟩ := id hr
        have y33 : 33 < wr.1 := by omega
        have y34 : 34 < wr.1 := by omega
        refine ⟨gr.1, ?_⟩
        refine r_aload_n (pc2 := 42) dX5_slice_41 rfl rfl ?_
        refine r_getf (pc2 := 45) dX5_slice_42 rfl fl_5_7 (by assumption) (by assumption) (by rfl) ?_
        refine r_bipush (pc2 := 47) dX5_slice_45 rfl (by decide) ?_
        refine r_iload_n (pc2 := 48) dX5_slice_47 rfl rfl ?_
        refine r_iadd (pc2 := 49) dX5_slice_48 rfl ?_
        refine r_iload_n (pc2 := 50) dX5_slice_49 rfl rfl ?_
        refine r_iast (pc2 := 51) dX5_slice_50 rfl (by assumption) (by assumption) (by omega) (by omega) (by omega) ?_
        have z33 : 33 < (wst wr 34 (arO 61 (updZ g (7 + a).toNat b))).1 := y33
        have z33w := (wst_ne (w := wr) (a := 34) (b := 33) (e := arO 61 (updZ g (7 + a).toNat b)) (by decide)).trans y33w
        refine r_aload_n (pc2 := 52) dX5_slice_51 rfl rfl ?_
        refine r_iload_n (pc2 := 53) dX5_slice_52 rfl rfl ?_
        refine r_callv_1 (pc2 := 56) dX5_slice_53 rfl rs_5_97 rfl (by decide) rfl (Nat.le_of_ble_eq_true rfl) (Nat.le_of_ble_eq_true rfl) (by assumption) (by assumption) (m_actC _ _ ke2 (v, p, sh, ln, pr, gd, co, c, updZ s a.toNat b) (v, p, sh, ln, pr, gd, co, c, s) L n S hs len t (REFG_34 hr (gV_put xV2 hp.2 b (by omega))) ⟨hv.2, hp.2⟩ hke hL hn (sD s a)) (fun r_ w_ h_ => ?_)
        rw [h_.1]
        refine ⟨h_.2.1.1, ?_⟩
        refine r_ret dX5_slice_56 rfl ?_
        refine MA_s (x := sD s a) (V2 := (v, p, sh, ln, pr, gd, co, c, updZ s a.toNat b)) ?_ ⟨rfl, agO.trans ?_ h_.2.1, h_.2.2⟩
        · show (if ¬ ((0 ≤ a ∧ a ≤ p - 1) ∧ (0 ≤ b ∧ b ≤ v - 1)) then (-101, none) else if sD s a = b then (-105, none) else (sD s a, some (v, p, sh, ln, pr, gd, co, c, updZ s a.toNat b))) = _
          rw [if_neg (by omega), if_neg (by omega)]
        · exact gr.trans (agO.wst _ (by omega))
      · refine r_bipush (pc2 := 36) dX5_slice_34 rfl (by decide) ?_
        refine r_ret dX5_slice_36 rfl ?_
        refine MA_n (x := -105) ?_ rfl agO.rf ⟨g, ke, h⟩
        show (if ¬ ((0 ≤ a ∧ a ≤ p - 1) ∧ (0 ≤ b ∧ b ≤ v - 1)) then (-101, none) else if sD s a = b then (-105, none) else (sD s a, some (v, p, sh, ln, pr, gd, co, c, updZ s a.toNat b))) = _
        rw [if_neg (by omega), if_pos (by omega)]
    · refine r_bipush (pc2 := 18) dX5_slice_16 rfl (by decide) ?_
      refine r_ret dX5_slice_18 rfl ?_
      refine MA_n (x := -101) ?_ rfl agO.rf ⟨g, ke, h⟩
      show (if ¬ ((0 ≤ a ∧ a ≤ p - 1) ∧ (0 ≤ b ∧ b ≤ v - 1)) then (-101, none) else if sD s a = b then (-105, none) else (sD s a, some (v, p, sh, ln, pr, gd, co, c, updZ s a.toNat b))) = _
      rw [if_pos (by omega)]
