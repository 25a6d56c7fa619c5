/-! the reference: tellings -/
theorem msH_no {p sh ln : Int} {s g so : Nat → Int} (h : GL p sh ln s g so) {an : Int} (ha : -9 ≤ an ∧ an ≤ 9) : msH g so an (-105) = rsF s (ssF p sh ln) (stZ p an) (-1) := by
  have q := msH_rs h ha (x := -1) (by omega)
  have e : nn (-1) = -105 := if_pos rfl
  rw [e] at q
  exact q

set_option maxHeartbeats 4000000 in
theorem m_colourOf (w : av_W) (v p sh ln pr gd co : Int) (c s : Nat → Int) (L : Nat → CV) (n : Int) (S : CV) (hs len : Int) (t : Nat → Int) (g ke : Nat → Int) (h : REFG w g ke (v, p, sh, ln, pr, gd, co, c, s) L n S hs len t) (hW : KW (v, p, sh, ln, pr, gd, co, c, s)) (a : Int) (ha : RG a) (b : Int) (hb : RG b) : cl MX5_colourOf [.ref 33, .int (iN a), .int (iN b)] w (fun r' w' => RM w w' r' (o_colourOf (v, p, sh, ln, pr, gd, co, c, s) a b) (v, p, sh, ln, pr, gd, co, c, s) L n S hs len t) := by
  obtain ⟨x42, ⟨xsp, xrv, xrs, xoa, x33w⟩, ⟨x34w, xV⟩, x35w, -⟩ := id h
  have x33 : 33 < w.1 := by omega
  have x34 : 34 < w.1 := by omega
  have hV : KV (v, p, sh, ln, pr, gd, co, c, s) := hW.1
  have hSV : ∀ j : Nat, (j : Int) < p → s j < v := hW.2
  obtain ⟨hK, hS, hc, hpr⟩ := id hV
  have hK : KR v p sh ln := hK
  have hS : SR s := hS
  have hc : ∀ j : Nat, j < 48 → 0 ≤ c j ∧ c j ≤ 9 := hc
  have hpr : 0 ≤ pr ∧ pr ≤ 99999 := hpr
  obtain ⟨hv, hp, hsh, hln⟩ := id hK
  have xV2 : gV (v, p, sh, ln, pr, gd, co, c, s) g := xV
  obtain ⟨⟨e0, e1, e2, e3, e4, e5, e6⟩, -⟩ := id xV2
  have hGR : GR g := ⟨by omega, by omega, by omega, by omega⟩
  have hGS : GS g := gV_GS xV2 hS
  have haR : -2147483648 ≤ a ∧ a < 2147483648 := ha
  have hbR : -2147483648 ≤ b ∧ b < 2147483648 := hb
  show rn MX5_colourOf 0 [some (.ref 33), some (.int (iN a)), some (.int (iN b))] [] w _
  refine r_aload_n (pc2 := 1) dX5_colourOf_0 rfl rfl ?_
  refine r_iload_n (pc2 := 2) dX5_colourOf_1 rfl rfl ?_
  refine r_callv_1 (pc2 := 5) dX5_colourOf_2 rfl rs_5_84 rfl (by decide) rfl (Nat.le_of_ble_eq_true rfl) (Nat.le_of_ble_eq_true rfl) (by assumption) (by assumption) (m_isView w x42 _ _ _ _ _ _ _ x33w g x34w hGR a ha) (fun r_ w_ h_ => ?_)
  rw [h_.1, h_.2]
  clear h_ w_ r_
  refine ⟨rfl, ?_⟩
  refine r_ifb_eq (pc2 := 8) (tgt := 24) dX5_colourOf_5 rfl (by decide)  (fun h5 => ?_) (fun h5 => ?_)
  · refine r_bipush (pc2 := 26) dX5_colourOf_24 rfl (by decide) ?_
    refine r_ret dX5_colourOf_26 rfl ?_
    refine RM_of (x := -101) ?_ rfl agO.rf h
    show (if ¬ ((0 ≤ a ∧ a ≤ v - 1) ∧ (0 ≤ b ∧ b ≤ 11)) then -101 else colI c a b) = _
    rw [if_pos (by omega)]
  · refine r_iload_n (pc2 := 9) dX5_colourOf_8 rfl rfl ?_
    refine r_calls_1 (pc2 := 12) dX5_colourOf_9 rfl rs_5_88 rfl (by decide) rfl (Nat.le_of_ble_eq_true rfl) (Nat.le_of_ble_eq_true rfl) (m_isRidge w b hb) (fun r_ w_ h_ => ?_)
    rw [h_.1, h_.2]
    clear h_ w_ r_
    refine ⟨rfl, ?_⟩
    refine r_ifb_eq (pc2 := 15) (tgt := 24) dX5_colourOf_12 rfl (by decide)  (fun h12 => ?_) (fun h12 => ?_)
    · refine r_bipush (pc2 := 26) dX5_colourOf_24 rfl (by decide) ?_
      refine r_ret dX5_colourOf_26 rfl ?_
      refine RM_of (x := -101) ?_ rfl agO.rf h
      show (if ¬ ((0 ≤ a ∧ a ≤ v - 1) ∧ (0 ≤ b ∧ b ≤ 11)) then -101 else colI c a b) = _
      rw [if_pos (by omega)]
    · refine r_aload_n (pc2 := 16) dX5_colourOf_15 rfl rfl ?_
      refine r_iload_n (pc2 := 17) dX5_colourOf_16 rfl rfl ?_
      refine r_iload_n (pc2 := 18) dX5_colourOf_17 rfl rfl ?_
      refine r_callv_2 (pc2 := 21) dX5_colourOf_18 rfl rs_5_91 rfl (by decide) rfl (Nat.le_of_ble_eq_true rfl) (Nat.le_of_ble_eq_true rfl) (by assumption) (by assumption) (m_colourAt w x42 _ _ _ _ _ _ _ x33w g x34w hGR a b (by omega) (by omega)) (fun r_ w_ h_ => ?_)
      rw [h_.1, h_.2]
      clear h_ w_ r_
      refine ⟨rfl, ?_⟩
      rw [gV_col xV2 hv.2 (by omega) (by omega)]
      refine r_goto (tgt := 26) dX5_colourOf_21 (by decide) ?_
      refine r_ret dX5_colourOf_26 rfl ?_
      refine RM_of (x := colI c a b) ?_ rfl agO.rf h
      show (if ¬ ((0 ≤ a ∧ a ≤ v - 1) ∧ (0 ≤ b ∧ b ≤ 11)) then -101 else colI c a b) = _
      rw [if_neg (by omega)]

set_option maxHeartbeats 4000000 in
theorem m_viewOf (w : av_W) (v p sh ln pr gd co : Int) (c s : Nat → Int) (L : Nat → CV) (n : Int) (S : CV) (hs len : Int) (t : Nat → Int) (g ke : Nat → Int) (h : REFG w g ke (v, p, sh, ln, pr, gd, co, c, s) L n S hs len t) (hW : KW (v, p, sh, ln, pr, gd, co, c, s)) (a : Int) (ha : RG a) : cl MX5_viewOf [.ref 33, .int (iN a)] w (fun r' w' => RM w w' r' (o_viewOf (v, p, sh, ln, pr, gd, co, c, s) a) (v, p, sh, ln, pr, gd, co, c, s) L n S hs len t) := by
  obtain ⟨x42, ⟨xsp, xrv, xrs, xoa, x33w⟩, ⟨x34w, xV⟩, x35w, -⟩ := id h
  have x33 : 33 < w.1 := by omega
  have x34 : 34 < w.1 := by omega
  have hV : KV (v, p, sh, ln, pr, gd, co, c, s) := hW.1
  have hSV : ∀ j : Nat, (j : Int) < p → s j < v := hW.2
  obtain ⟨hK, hS, hc, hpr⟩ := id hV
  have hK : KR v p sh ln := hK
  have hS : SR s := hS
  have hc : ∀ j : Nat, j < 48 → 0 ≤ c j ∧ c j ≤ 9 := hc
  have hpr : 0 ≤ pr ∧ pr ≤ 99999 := hpr
  obtain ⟨hv, hp, hsh, hln⟩ := id hK
  have xV2 : gV (v, p, sh, ln, pr, gd, co, c, s) g := xV
  obtain ⟨⟨e0, e1, e2, e3, e4, e5, e6⟩, -⟩ := id xV2
  have hGR : GR g := ⟨by omega, by omega, by omega, by omega⟩
  have hGS : GS g := gV_GS xV2 hS
  have haR : -2147483648 ≤ a ∧ a < 2147483648 := ha
  show rn MX5_viewOf 0 [some (.ref 33), some (.int (iN a))] [] w _
  refine r_aload_n (pc2 := 1) dX5_viewOf_0 rfl rfl ?_
  refine r_iload_n (pc2 := 2) dX5_viewOf_1 rfl rfl ?_
  refine r_callv_1 (pc2 := 5) dX5_viewOf_2 rfl rs_5_112 rfl (by decide) rfl (Nat.le_of_ble_eq_true rfl) (Nat.le_of_ble_eq_true rfl) (by assumption) (by assumption) (m_isSlice w x42 _ _ _ _ _ _ _ x33w g x34w hGR a ha) (fun r_ w_ h_ => ?_)
  rw [h_.1, h_.2]
  clear h_ w_ r_
  refine ⟨rfl, ?_⟩
  refine r_ifb_eq (pc2 := 8) (tgt := 20) dX5_viewOf_5 rfl (by decide)  (fun h5 => ?_) (fun h5 => ?_)
  · refine r_bipush (pc2 := 22) dX5_viewOf_20 rfl (by decide) ?_
    refine r_ret dX5_viewOf_22 rfl ?_
    refine RM_of (x := -101) ?_ rfl agO.rf h
    show (if ¬ (0 ≤ a ∧ a ≤ p - 1) then -101 else sD s a) = _
    rw [if_pos (by omega)]
  · refine r_aload_n (pc2 := 9) dX5_viewOf_8 rfl rfl ?_
    refine r_getf (pc2 := 12) dX5_viewOf_9 rfl fl_5_7 (by assumption) (by assumption) (by rfl) ?_
    refine r_bipush (pc2 := 14) dX5_viewOf_12 rfl (by decide) ?_
    refine r_iload_n (pc2 := 15) dX5_viewOf_14 rfl rfl ?_
    refine r_iadd (pc2 := 16) dX5_viewOf_15 rfl ?_
    refine r_iald (pc2 := 17) dX5_viewOf_16 rfl (by decide) (by assumption) (by assumption) (by omega) (by omega) (by omega) ?_
    rw [gV_slc xV2 hp.2 (by omega)]
    refine r_goto (tgt := 22) dX5_viewOf_17 (by decide) ?_
    refine r_ret dX5_viewOf_22 rfl ?_
    refine RM_of (x := sD s a) ?_ rfl agO.rf h
    show (if ¬ (0 ≤ a ∧ a ≤ p - 1) then -101 else sD s a) = _
    rw [if_neg (by omega)]

set_option maxHeartbeats 4000000 in
theorem m_behind (w : av_W) (v p sh ln pr gd co : Int) (c s : Nat → Int) (L : Nat → CV) (n : Int) (S : CV) (hs len : Int) (t : Nat → Int) (g ke : Nat → Int) (h : REFG w g ke (v, p, sh, ln, pr, gd, co, c, s) L n S hs len t) (hW : KW (v, p, sh, ln, pr, gd, co, c, s)) (a : Int) (ha : RG a) (b : Int) (hb : RG b) (k : Int) (hk : RG k) : cl MX5_behind [.ref 33, .int (iN a), .int (iN b), .int (iN k)] w (fun r' w' => RM w w' r' (o_behind (v, p, sh, ln, pr, gd, co, c, s) a b k) (v, p, sh, ln, pr, gd, co, c, s) L n S hs len t) := by
  obtain ⟨x42, ⟨xsp, xrv, xrs, xoa, x33w⟩, ⟨x34w, xV⟩, x35w, -⟩ := id h
  have x33 : 33 < w.1 := by omega
  have x34 : 34 < w.1 := by omega
  have hV : KV (v, p, sh, ln, pr, gd, co, c, s) := hW.1
  have hSV : ∀ j : Nat, (j : Int) < p → s j < v := hW.2
  obtain ⟨hK, hS, hc, hpr⟩ := id hV
  have hK : KR v p sh ln := hK
  have hS : SR s := hS
  have hc : ∀ j : Nat, j < 48 → 0 ≤ c j ∧ c j ≤ 9 := hc
  have hpr : 0 ≤ pr ∧ pr ≤ 99999 := hpr
  obtain ⟨hv, hp, hsh, hln⟩ := id hK
  have xV2 : gV (v, p, sh, ln, pr, gd, co, c, s) g := xV
  obtain ⟨⟨e0, e1, e2, e3, e4, e5, e6⟩, -⟩ := id xV2
  have hGR : GR g := ⟨by omega, by omega, by omega, by omega⟩
  have hGS : GS g := gV_GS xV2 hS
  have haR : -2147483648 ≤ a ∧ a < 2147483648 := ha
  have hbR : -2147483648 ≤ b ∧ b < 2147483648 := hb
  have hkR : -2147483648 ≤ k ∧ k < 2147483648 := hk
  show rn MX5_behind 0 [some (.ref 33), some (.int (iN a)), some (.int (iN b)), some (.int (iN k))] [] w _
  refine r_iload_n (pc2 := 1) dX5_behind_0 rfl rfl ?_
  refine r_calls_1 (pc2 := 4) dX5_behind_1 rfl rs_5_88 rfl (by decide) rfl (Nat.le_of_ble_eq_true rfl) (Nat.le_of_ble_eq_true rfl) (m_isRidge w a ha) (fun r_ w_ h_ => ?_)
  rw [h_.1, h_.2]
  clear h_ w_ r_
  refine ⟨rfl, ?_⟩
  refine r_ifb_eq (pc2 := 7) (tgt := 15) dX5_behind_4 rfl (by decide)  (fun h4 => ?_) (fun h4 => ?_)
  · refine r_bipush (pc2 := 17) dX5_behind_15 rfl (by decide) ?_
    refine r_ret dX5_behind_17 rfl ?_
    refine RM_of (x := -101) ?_ rfl agO.rf h
    show (if ¬ ((0 ≤ a ∧ a ≤ 11) ∧ (0 ≤ b ∧ b ≤ p - 1)) then -101 else if k = 0 then nn (sD s (slZ p sh a b)) else if k = 1 then nn (colI c (sD s (slZ p sh a b)) (rdZ p sh a b)) else if k = 2 then nn (rdZ p sh a b) else -102) = _
    rw [if_pos (by omega)]
  · refine r_aload_n (pc2 := 8) dX5_behind_7 rfl rfl ?_
    refine r_iload_n (pc2 := 9) dX5_behind_8 rfl rfl ?_
    refine r_callv_1 (pc2 := 12) dX5_behind_9 rfl rs_5_112 rfl (by decide) rfl (Nat.le_of_ble_eq_true rfl) (Nat.le_of_ble_eq_true rfl) (by assumption) (by assumption) (m_isSlice w x42 _ _ _ _ _ _ _ x33w g x34w hGR b hb) (fun r_ w_ h_ => ?_)
    rw [h_.1, h_.2]
    clear h_ w_ r_
    refine ⟨rfl, ?_⟩
    refine r_ifb_ne (pc2 := 15) (tgt := 18) dX5_behind_12 rfl (by decide)  (fun h12 => ?_) (fun h12 => ?_)
    · refine r_iload_n (pc2 := 19) dX5_behind_18 rfl rfl ?_
      refine r_i2l (pc2 := 20) dX5_behind_19 rfl (by omega) ?_
      refine r_lconst (z := 0) (pc2 := 21) dX5_behind_20 rfl (by decide) ?_
      refine r_ldl (pc2 := 24) dX5_behind_21 rfl kl_5_100 ?_
      refine r_calls_3 (pc2 := 27) dX5_behind_24 rfl rs_5_41 rfl (by decide) rfl (Nat.le_of_ble_eq_true rfl) (Nat.le_of_ble_eq_true rfl) (m_in w k 0 2 ⟨by omega, by omega⟩ ⟨by omega, by omega⟩ ⟨by omega, by omega⟩) (fun r_ w_ h_ => ?_)
      rw [h_.1, h_.2]
      clear h_ w_ r_
      refine ⟨rfl, ?_⟩
      refine r_ifb_eq (pc2 := 30) (tgt := 44) dX5_behind_27 rfl (by decide)  (fun h27 => ?_) (fun h27 => ?_)
      · refine r_bipush (pc2 := 46) dX5_behind_44 rfl (by decide) ?_
        refine r_ret dX5_behind_46 rfl ?_
        refine RM_of (x := -102) ?_ rfl agO.rf h
        show (if ¬ ((0 ≤ a ∧ a ≤ 11) ∧ (0 ≤ b ∧ b ≤ p - 1)) then -101 else if k = 0 then nn (sD s (slZ p sh a b)) else if k = 1 then nn (colI c (sD s (slZ p sh a b)) (rdZ p sh a b)) else if k = 2 then nn (rdZ p sh a b) else -102) = _
        rw [if_neg (by omega), if_neg (by omega), if_neg (by omega), if_neg (by omega)]
      · refine r_aload_n (pc2 := 31) dX5_behind_30 rfl rfl ?_
        refine r_aload_n (pc2 := 32) dX5_behind_31 rfl rfl ?_
        refine r_iload_n (pc2 := 33) dX5_behind_32 rfl rfl ?_
        refine r_iload_n (pc2 := 34) dX5_behind_33 rfl rfl ?_
        refine r_callv_2 (pc2 := 37) dX5_behind_34 rfl rs_5_57 rfl (by decide) rfl (Nat.le_of_ble_eq_true rfl) (Nat.le_of_ble_eq_true rfl) (by assumption) (by assumption) (m_dueAt w x42 _ _ _ _ _ _ _ x33w g x34w hGR a b (by omega) (by omega)) (fun r_ w_ h_ => ?_)
        rw [h_.1, h_.2]
        clear h_ w_ r_
        refine ⟨rfl, ?_⟩
        rw [e1, e2]
        have hdu : duZ p sh a b = -105 ∨ (0 ≤ duZ p sh a b ∧ duZ p sh a b ≤ 12 * g 1 - 1) := by
          have z := spZ_rg (sh := sh) (r := a) (pl := b) hp
          unfold duZ
          split
          · exact Or.inl rfl
          · exact Or.inr (by omega)
        refine r_iload_n (pc2 := 38) dX5_behind_37 rfl rfl ?_
        refine r_callv_2 (pc2 := 41) dX5_behind_38 rfl rs_5_161 rfl (by decide) rfl (Nat.le_of_ble_eq_true rfl) (Nat.le_of_ble_eq_true rfl) (by assumption) (by assumption) (m_dueOf w x42 _ _ _ _ _ _ _ x33w g x34w hGR hGS (duZ p sh a b) k hdu hk) (fun r_ w_ h_ => ?_)
        rw [h_.1, h_.2]
        clear h_ w_ r_
        refine ⟨rfl, ?_⟩
        rw [e1, due_of xV2 hv hp hS hSV hc a b k]
        refine r_goto (tgt := 46) dX5_behind_41 (by decide) ?_
        refine r_ret dX5_behind_46 rfl ?_
        refine RM_of (x := (if k = 0 then nn (sD s (slZ p sh a b)) else if k = 1 then nn (colI c (sD s (slZ p sh a b)) (rdZ p sh a b)) else nn (rdZ p sh a b))) ?_ rfl agO.rf h
        show (if ¬ ((0 ≤ a ∧ a ≤ 11) ∧ (0 ≤ b ∧ b ≤ p - 1)) then -101 else if k = 0 then nn (sD s (slZ p sh a b)) else if k = 1 then nn (colI c (sD s (slZ p sh a b)) (rdZ p sh a b)) else if k = 2 then nn (rdZ p sh a b) else -102) = _
        rw [if_neg (by omega)]
        by_cases k0 : k = 0
        · rw [if_pos k0, if_pos k0]
        · rw [if_neg k0, if_neg k0]
          by_cases k1 : k = 1
          · rw [if_pos k1, if_pos k1]
          · rw [if_neg k1, if_neg k1, if_pos (by omega)]
    · refine r_bipush (pc2 := 17) dX5_behind_15 rfl (by decide) ?_
      refine r_ret dX5_behind_17 rfl ?_
      refine RM_of (x := -101) ?_ rfl agO.rf h
      show (if ¬ ((0 ≤ a ∧ a ≤ 11) ∧ (0 ≤ b ∧ b ≤ p - 1)) then -101 else if k = 0 then nn (sD s (slZ p sh a b)) else if k = 1 then nn (colI c (sD s (slZ p sh a b)) (rdZ p sh a b)) else if k = 2 then nn (rdZ p sh a b) else -102) = _
      rw [if_pos (by omega)]

set_option maxHeartbeats 4000000 in
theorem m_seen (w : av_W) (v p sh ln pr gd co : Int) (c s : Nat → Int) (L : Nat → CV) (n : Int) (S : CV) (hs len : Int) (t : Nat → Int) (g ke : Nat → Int) (h : REFG w g ke (v, p, sh, ln, pr, gd, co, c, s) L n S hs len t) (hW : KW (v, p, sh, ln, pr, gd, co, c, s)) (a : Int) (ha : RG a) (b : Int) (hb : RG b) (k : Int) (hk : RG k) : cl MX5_seen [.ref 33, .int (iN a), .int (iN b), .int (iN k)] w (fun r' w' => RM w w' r' (o_seen (v, p, sh, ln, pr, gd, co, c, s) a b k) (v, p, sh, ln, pr, gd, co, c, s) L n S hs len t) := by
  obtain ⟨x42, ⟨xsp, xrv, xrs, xoa, x33w⟩, ⟨x34w, xV⟩, x35w, -⟩ := id h
  have x33 : 33 < w.1 := by omega
  have x34 : 34 < w.1 := by omega
  have hV : KV (v, p, sh, ln, pr, gd, co, c, s) := hW.1
  have hSV : ∀ j : Nat, (j : Int) < p → s j < v := hW.2
  obtain ⟨hK, hS, hc, hpr⟩ := id hV
  have hK : KR v p sh ln := hK
  have hS : SR s := hS
  have hc : ∀ j : Nat, j < 48 → 0 ≤ c j ∧ c j ≤ 9 := hc
  have hpr : 0 ≤ pr ∧ pr ≤ 99999 := hpr
  obtain ⟨hv, hp, hsh, hln⟩ := id hK
  have xV2 : gV (v, p, sh, ln, pr, gd, co, c, s) g := xV
  obtain ⟨⟨e0, e1, e2, e3, e4, e5, e6⟩, -⟩ := id xV2
  have hGR : GR g := ⟨by omega, by omega, by omega, by omega⟩
  have hGS : GS g := gV_GS xV2 hS
  have haR : -2147483648 ≤ a ∧ a < 2147483648 := ha
  have hbR : -2147483648 ≤ b ∧ b < 2147483648 := hb
  have hkR : -2147483648 ≤ k ∧ k < 2147483648 := hk
  show rn MX5_seen 0 [some (.ref 33), some (.int (iN a)), some (.int (iN b)), some (.int (iN k)), none] [] w _
  refine r_iload_n (pc2 := 1) dX5_seen_0 rfl rfl ?_
  refine r_calls_1 (pc2 := 4) dX5_seen_1 rfl rs_5_164 rfl (by decide) rfl (Nat.le_of_ble_eq_true rfl) (Nat.le_of_ble_eq_true rfl) (m_isAngle w a ha) (fun r_ w_ h_ => ?_)
  rw [h_.1, h_.2]
  clear h_ w_ r_
  refine ⟨rfl, ?_⟩
  refine r_ifb_eq (pc2 := 7) (tgt := 14) dX5_seen_4 rfl (by decide)  (fun h4 => ?_) (fun h4 => ?_)
  · refine r_bipush (pc2 := 16) dX5_seen_14 rfl (by decide) ?_
    refine r_ret dX5_seen_16 rfl ?_
    refine RM_of (x := -101) ?_ rfl agO.rf h
    show (if ¬ ((-9 ≤ a ∧ a ≤ 9) ∧ (0 ≤ b ∧ b ≤ 11)) then -101 else if k = 0 then nn (sD s (slZ p sh b (plZ p ln (stZ p a) b))) else if k = 1 then nn (colI c (sD s (slZ p sh b (plZ p ln (stZ p a) b))) (rdZ p sh b (plZ p ln (stZ p a) b))) else if k = 2 then (plZ p ln (stZ p a) b) else if k = 3 then (bz (ghC s (ssF p sh ln) (stZ p a) b)) else -102) = _
    rw [if_pos (by omega)]
  · refine r_iload_n (pc2 := 8) dX5_seen_7 rfl rfl ?_
    refine r_calls_1 (pc2 := 11) dX5_seen_8 rfl rs_5_88 rfl (by decide) rfl (Nat.le_of_ble_eq_true rfl) (Nat.le_of_ble_eq_true rfl) (m_isRidge w b hb) (fun r_ w_ h_ => ?_)
    rw [h_.1, h_.2]
    clear h_ w_ r_
    refine ⟨rfl, ?_⟩
    refine r_ifb_ne (pc2 := 14) (tgt := 17) dX5_seen_11 rfl (by decide)  (fun h11 => ?_) (fun h11 => ?_)
    · refine r_aload_n (pc2 := 18) dX5_seen_17 rfl rfl ?_
      refine r_callv_0 (pc2 := 21) dX5_seen_18 rfl rs_5_71 rfl (by decide) rfl (Nat.le_of_ble_eq_true rfl) (Nat.le_of_ble_eq_true rfl) (by assumption) (by assumption) (m_layC _ v p sh ln pr gd co c s L n S hs len t g ke h hV) (fun r_ w_ h_ => ?_)
      obtain ⟨e_, gr, hr, so, hso, hSo, hGL⟩ := h_
      rw [e_]
      clear e_
      obtain ⟨wr, rfl⟩ : ∃ wr, wr = w_ := ⟨_, rfl⟩
      obtain ⟨y42, ⟨ysp, yrv, yrs, yoa, y33w⟩, ⟨y34w, yV⟩, y35w, -⟩ := id hr
      have y33 : 33 < wr.1 := by omega
      have y34 : 34 < wr.1 := by omega
      refine ⟨gr.1, ?_⟩
      refine r_aload_n (pc2 := 22) dX5_seen_21 rfl rfl ?_
      refine r_iload_n (pc2 := 23) dX5_seen_22 rfl rfl ?_
      refine r_iload_n (pc2 := 24) dX5_seen_23 rfl rfl ?_
      refine r_callv_2 (pc2 := 27) dX5_seen_24 rfl rs_5_53 rfl (by decide) rfl (Nat.le_of_ble_eq_true rfl) (Nat.le_of_ble_eq_true rfl) (by assumption) (by assumption) (m_placeSeen wr y42 _ _ _ _ _ _ _ y33w g y34w hGR a b (by omega) (by omega)) (fun r_ w_ h_ => ?_)
      rw [h_.1, h_.2]
      clear h_ w_ r_
      refine ⟨rfl, ?_⟩
      rw [e1, e3]
      have q4 := plZ_rg (p := p) (ln := ln) (st := stZ p a) (r := b) hp
      refine r_ist_4 (pc2 := 29) dX5_seen_27 rfl rfl ?_
      refine r_iload_n (pc2 := 30) dX5_seen_29 rfl rfl ?_
      refine r_tab (len := 30) dX5_seen_30 ⟨by omega, by omega⟩ (fun hD => ⟨91, by decide, ?_⟩) (fun hI => ?_)
      · refine r_bipush (pc2 := 93) dX5_seen_91 rfl (by decide) ?_
        refine r_ret dX5_seen_93 rfl ?_
        refine RM_of (x := -102) ?_ rfl gr hr
        show (if ¬ ((-9 ≤ a ∧ a ≤ 9) ∧ (0 ≤ b ∧ b ≤ 11)) then -101 else if k = 0 then nn (sD s (slZ p sh b (plZ p ln (stZ p a) b))) else if k = 1 then nn (colI c (sD s (slZ p sh b (plZ p ln (stZ p a) b))) (rdZ p sh b (plZ p ln (stZ p a) b))) else if k = 2 then (plZ p ln (stZ p a) b) else if k = 3 then (bz (ghC s (ssF p sh ln) (stZ p a) b)) else -102) = _
        rw [if_neg (by omega), if_neg (by omega), if_neg (by omega), if_neg (by omega), if_neg (by omega)]
      · have hcase : k = 0 ∨ k = 1 ∨ k = 2 ∨ k = 3 := by omega
        rcases hcase with hX0 | hX1 | hX2 | hX3
        · refine ⟨30, 60, by rw [hX0]; rfl, by decide, ?_⟩
          refine r_aload_n (pc2 := 61) dX5_seen_60 rfl rfl ?_
          refine r_aload_n (pc2 := 62) dX5_seen_61 rfl rfl ?_
          refine r_iload_n (pc2 := 63) dX5_seen_62 rfl rfl ?_
          refine r_iload (pc2 := 65) dX5_seen_63 rfl rfl ?_
          refine r_callv_2 (pc2 := 68) dX5_seen_65 rfl rs_5_57 rfl (by decide) rfl (Nat.le_of_ble_eq_true rfl) (Nat.le_of_ble_eq_true rfl) (by assumption) (by assumption) (m_dueAt wr y42 _ _ _ _ _ _ _ y33w g y34w hGR b (plZ p ln (stZ p a) b) (by omega) (by omega)) (fun r_ w_ h_ => ?_)
          rw [h_.1, h_.2]
          clear h_ w_ r_
          refine ⟨rfl, ?_⟩
          rw [e1, e2]
          have hdu : duZ p sh b (plZ p ln (stZ p a) b) = -105 ∨ (0 ≤ duZ p sh b (plZ p ln (stZ p a) b) ∧ duZ p sh b (plZ p ln (stZ p a) b) ≤ 12 * g 1 - 1) := by
            have z := spZ_rg (sh := sh) (r := b) (pl := (plZ p ln (stZ p a) b)) hp
            unfold duZ
            split
            · exact Or.inl rfl
            · exact Or.inr (by omega)
          refine r_iload_n (pc2 := 69) dX5_seen_68 rfl rfl ?_
          refine r_callv_2 (pc2 := 72) dX5_seen_69 rfl rs_5_161 rfl (by decide) rfl (Nat.le_of_ble_eq_true rfl) (Nat.le_of_ble_eq_true rfl) (by assumption) (by assumption) (m_dueOf wr y42 _ _ _ _ _ _ _ y33w g y34w hGR hGS (duZ p sh b (plZ p ln (stZ p a) b)) k hdu hk) (fun r_ w_ h_ => ?_)
          rw [h_.1, h_.2]
          clear h_ w_ r_
          refine ⟨rfl, ?_⟩
          rw [e1, due_of xV2 hv hp hS hSV hc b (plZ p ln (stZ p a) b) k]
          refine r_ret dX5_seen_72 rfl ?_
          refine RM_of (x := (if k = 0 then nn (sD s (slZ p sh b (plZ p ln (stZ p a) b))) else if k = 1 then nn (colI c (sD s (slZ p sh b (plZ p ln (stZ p a) b))) (rdZ p sh b (plZ p ln (stZ p a) b))) else nn (rdZ p sh b (plZ p ln (stZ p a) b)))) ?_ rfl gr hr
          show (if ¬ ((-9 ≤ a ∧ a ≤ 9) ∧ (0 ≤ b ∧ b ≤ 11)) then -101 else if k = 0 then nn (sD s (slZ p sh b (plZ p ln (stZ p a) b))) else if k = 1 then nn (colI c (sD s (slZ p sh b (plZ p ln (stZ p a) b))) (rdZ p sh b (plZ p ln (stZ p a) b))) else if k = 2 then (plZ p ln (stZ p a) b) else if k = 3 then (bz (ghC s (ssF p sh ln) (stZ p a) b)) else -102) = _
          rw [if_neg (by omega), if_pos (by omega)]
          rw [if_pos hX0]
        · refine ⟨30, 60, by rw [hX1]; rfl, by decide, ?_⟩
          refine r_aload_n (pc2 := 61) dX5_seen_60 rfl rfl ?_
          refine r_aload_n (pc2 := 62) dX5_seen_61 rfl rfl ?_
          refine r_iload_n (pc2 := 63) dX5_seen_62 rfl rfl ?_
          refine r_iload (pc2 := 65) dX5_seen_63 rfl rfl ?_
          refine r_callv_2 (pc2 := 68) dX5_seen_65 rfl rs_5_57 rfl (by decide) rfl (Nat.le_of_ble_eq_true rfl) (Nat.le_of_ble_eq_true rfl) (by assumption) (by assumption) (m_dueAt wr y42 _ _ _ _ _ _ _ y33w g y34w hGR b (plZ p ln (stZ p a) b) (by omega) (by omega)) (fun r_ w_ h_ => ?_)
          rw [h_.1, h_.2]
          clear h_ w_ r_
          refine ⟨rfl, ?_⟩
          rw [e1, e2]
          have hdu : duZ p sh b (plZ p ln (stZ p a) b) = -105 ∨ (0 ≤ duZ p sh b (plZ p ln (stZ p a) b) ∧ duZ p sh b (plZ p ln (stZ p a) b) ≤ 12 * g 1 - 1) := by
            have z := spZ_rg (sh := sh) (r := b) (pl := (plZ p ln (stZ p a) b)) hp
            unfold duZ
            split
            · exact Or.inl rfl
            · exact Or.inr (by omega)
          refine r_iload_n (pc2 := 69) dX5_seen_68 rfl rfl ?_
          refine r_callv_2 (pc2 := 72) dX5_seen_69 rfl rs_5_161 rfl (by decide) rfl (Nat.le_of_ble_eq_true rfl) (Nat.le_of_ble_eq_true rfl) (by assumption) (by assumption) (m_dueOf wr y42 _ _ _ _ _ _ _ y33w g y34w hGR hGS (duZ p sh b (plZ p ln (stZ p a) b)) k hdu hk) (fun r_ w_ h_ => ?_)
          rw [h_.1, h_.2]
          clear h_ w_ r_
          refine ⟨rfl, ?_⟩
          rw [e1, due_of xV2 hv hp hS hSV hc b (plZ p ln (stZ p a) b) k]
          refine r_ret dX5_seen_72 rfl ?_
          refine RM_of (x := (if k = 0 then nn (sD s (slZ p sh b (plZ p ln (stZ p a) b))) else if k = 1 then nn (colI c (sD s (slZ p sh b (plZ p ln (stZ p a) b))) (rdZ p sh b (plZ p ln (stZ p a) b))) else nn (rdZ p sh b (plZ p ln (stZ p a) b)))) ?_ rfl gr hr
          show (if ¬ ((-9 ≤ a ∧ a ≤ 9) ∧ (0 ≤ b ∧ b ≤ 11)) then -101 else if k = 0 then nn (sD s (slZ p sh b (plZ p ln (stZ p a) b))) else if k = 1 then nn (colI c (sD s (slZ p sh b (plZ p ln (stZ p a) b))) (rdZ p sh b (plZ p ln (stZ p a) b))) else if k = 2 then (plZ p ln (stZ p a) b) else if k = 3 then (bz (ghC s (ssF p sh ln) (stZ p a) b)) else -102) = _
          rw [if_neg (by omega), if_neg (by omega), if_pos (by omega)]
          rw [if_neg (show ¬ k = 0 by omega), if_pos hX1]
        · refine ⟨43, 73, by rw [hX2]; rfl, by decide, ?_⟩
          refine r_iload (pc2 := 75) dX5_seen_73 rfl rfl ?_
          refine r_ret dX5_seen_75 rfl ?_
          refine RM_of (x := (plZ p ln (stZ p a) b)) ?_ rfl gr hr
          show (if ¬ ((-9 ≤ a ∧ a ≤ 9) ∧ (0 ≤ b ∧ b ≤ 11)) then -101 else if k = 0 then nn (sD s (slZ p sh b (plZ p ln (stZ p a) b))) else if k = 1 then nn (colI c (sD s (slZ p sh b (plZ p ln (stZ p a) b))) (rdZ p sh b (plZ p ln (stZ p a) b))) else if k = 2 then (plZ p ln (stZ p a) b) else if k = 3 then (bz (ghC s (ssF p sh ln) (stZ p a) b)) else -102) = _
          rw [if_neg (by omega), if_neg (by omega), if_neg (by omega), if_pos (by omega)]
        · refine ⟨46, 76, by rw [hX3]; rfl, by decide, ?_⟩
          refine r_aload_n (pc2 := 77) dX5_seen_76 rfl rfl ?_
          refine r_iload_n (pc2 := 78) dX5_seen_77 rfl rfl ?_
          refine r_iload_n (pc2 := 79) dX5_seen_78 rfl rfl ?_
          refine r_callv_2 (pc2 := 82) dX5_seen_79 rfl rs_5_63 rfl (by decide) rfl (Nat.le_of_ble_eq_true rfl) (Nat.le_of_ble_eq_true rfl) (by assumption) (by assumption) (m_isGhost wr y42 _ _ _ _ _ _ _ y33w g y34w hGR hGS so hso hSo a b (by omega) (by omega)) (fun r_ w_ h_ => ?_)
          rw [h_.1, h_.2]
          clear h_ w_ r_
          refine ⟨rfl, ?_⟩
          rw [bz_iff (mgC_gh hGL (show -9 ≤ a ∧ a ≤ 9 by omega) (show 0 ≤ b ∧ b ≤ 11 by omega))]
          refine r_ifb_eq (pc2 := 85) (tgt := 89) dX5_seen_82 rfl (by decide)  (fun h82 => ?_) (fun h82 => ?_)
          · refine r_iconst (pc2 := 90) dX5_seen_89 rfl ?_
            refine r_ret dX5_seen_90 rfl ?_
            refine RM_of (x := _) ?_ rfl gr hr
            show (if ¬ ((-9 ≤ a ∧ a ≤ 9) ∧ (0 ≤ b ∧ b ≤ 11)) then -101 else if k = 0 then nn (sD s (slZ p sh b (plZ p ln (stZ p a) b))) else if k = 1 then nn (colI c (sD s (slZ p sh b (plZ p ln (stZ p a) b))) (rdZ p sh b (plZ p ln (stZ p a) b))) else if k = 2 then (plZ p ln (stZ p a) b) else if k = 3 then (bz (ghC s (ssF p sh ln) (stZ p a) b)) else -102) = _
            rw [if_neg (by omega), if_neg (by omega), if_neg (by omega), if_neg (by omega), if_pos (by omega)]
            first
              | exact bz_t h82
              | exact bz_f h82
              | exact bz_t (by omega)
              | exact bz_f (by omega)
          · refine r_iconst (pc2 := 86) dX5_seen_85 rfl ?_
            refine r_goto (tgt := 90) dX5_seen_86 (by decide) ?_
            refine r_ret dX5_seen_90 rfl ?_
            refine RM_of (x := _) ?_ rfl gr hr
            show (if ¬ ((-9 ≤ a ∧ a ≤ 9) ∧ (0 ≤ b ∧ b ≤ 11)) then -101 else if k = 0 then nn (sD s (slZ p sh b (plZ p ln (stZ p a) b))) else if k = 1 then nn (colI c (sD s (slZ p sh b (plZ p ln (stZ p a) b))) (rdZ p sh b (plZ p ln (stZ p a) b))) else if k = 2 then (plZ p ln (stZ p a) b) else if k = 3 then (bz (ghC s (ssF p sh ln) (stZ p a) b)) else -102) = _
            rw [if_neg (by omega), if_neg (by omega), if_neg (by omega), if_neg (by omega), if_pos (by omega)]
            first
              | exact bz_t h82
              | exact bz_f h82
              | exact bz_t (by omega)
              | exact bz_f (by omega)
    · refine r_bipush (pc2 := 16) dX5_seen_14 rfl (by decide) ?_
      refine r_ret dX5_seen_16 rfl ?_
      refine RM_of (x := -101) ?_ rfl agO.rf h
      show (if ¬ ((-9 ≤ a ∧ a ≤ 9) ∧ (0 ≤ b ∧ b ≤ 11)) then -101 else if k = 0 then nn (sD s (slZ p sh b (plZ p ln (stZ p a) b))) else if k = 1 then nn (colI c (sD s (slZ p sh b (plZ p ln (stZ p a) b))) (rdZ p sh b (plZ p ln (stZ p a) b))) else if k = 2 then (plZ p ln (stZ p a) b) else if k = 3 then (bz (ghC s (ssF p sh ln) (stZ p a) b)) else -102) = _
      rw [if_pos (by omega)]

set_option maxHeartbeats 4000000 in
theorem m_at (w : av_W) (v p sh ln pr gd co : Int) (c s : Nat → Int) (L : Nat → CV) (n : Int) (S : CV) (hs len : Int) (t : Nat → Int) (g ke : Nat → Int) (h : REFG w g ke (v, p, sh, ln, pr, gd, co, c, s) L n S hs len t) (hW : KW (v, p, sh, ln, pr, gd, co, c, s)) (a : Int) (ha : RG a) (k : Int) (hk : RG k) : cl MX5_at [.ref 33, .int (iN a), .int (iN k)] w (fun r' w' => RM w w' r' (o_at (v, p, sh, ln, pr, gd, co, c, s) a k) (v, p, sh, ln, pr, gd, co, c, s) L n S hs len t) := by
  obtain ⟨x42, ⟨xsp, xrv, xrs, xoa, x33w⟩, ⟨x34w, xV⟩, x35w, -⟩ := id h
  have x33 : 33 < w.1 := by omega
  have x34 : 34 < w.1 := by omega
  have hV : KV (v, p, sh, ln, pr, gd, co, c, s) := hW.1
  have hSV : ∀ j : Nat, (j : Int) < p → s j < v := hW.2
  obtain ⟨hK, hS, hc, hpr⟩ := id hV
  have hK : KR v p sh ln := hK
  have hS : SR s := hS
  have hc : ∀ j : Nat, j < 48 → 0 ≤ c j ∧ c j ≤ 9 := hc
  have hpr : 0 ≤ pr ∧ pr ≤ 99999 := hpr
  obtain ⟨hv, hp, hsh, hln⟩ := id hK
  have xV2 : gV (v, p, sh, ln, pr, gd, co, c, s) g := xV
  obtain ⟨⟨e0, e1, e2, e3, e4, e5, e6⟩, -⟩ := id xV2
  have hGR : GR g := ⟨by omega, by omega, by omega, by omega⟩
  have hGS : GS g := gV_GS xV2 hS
  have haR : -2147483648 ≤ a ∧ a < 2147483648 := ha
  have hkR : -2147483648 ≤ k ∧ k < 2147483648 := hk
  show rn MX5_at 0 [some (.ref 33), some (.int (iN a)), some (.int (iN k)), none] [] w _
  refine r_iload_n (pc2 := 1) dX5_at_0 rfl rfl ?_
  refine r_calls_1 (pc2 := 4) dX5_at_1 rfl rs_5_164 rfl (by decide) rfl (Nat.le_of_ble_eq_true rfl) (Nat.le_of_ble_eq_true rfl) (m_isAngle w a ha) (fun r_ w_ h_ => ?_)
  rw [h_.1, h_.2]
  clear h_ w_ r_
  refine ⟨rfl, ?_⟩
  refine r_ifb_ne (pc2 := 7) (tgt := 10) dX5_at_4 rfl (by decide)  (fun h4 => ?_) (fun h4 => ?_)
  · refine r_aload_n (pc2 := 11) dX5_at_10 rfl rfl ?_
    refine r_callv_0 (pc2 := 14) dX5_at_11 rfl rs_5_71 rfl (by decide) rfl (Nat.le_of_ble_eq_true rfl) (Nat.le_of_ble_eq_true rfl) (by assumption) (by assumption) (m_layC _ v p sh ln pr gd co c s L n S hs len t g ke h hV) (fun r_ w_ h_ => ?_)
    obtain ⟨e_, gr, hr, so, hso, hSo, hGL⟩ := h_
    rw [e_]
    clear e_
    obtain ⟨wr, rfl⟩ : ∃ wr, wr = w_ := ⟨_, rfl⟩
    obtain ⟨y42, ⟨ysp, yrv, yrs, yoa, y33w⟩, ⟨y34w, yV⟩, y35w, -⟩ := id hr
    have y33 : 33 < wr.1 := by omega
    have y34 : 34 < wr.1 := by omega
    refine ⟨gr.1, ?_⟩
    refine r_iload_n (pc2 := 15) dX5_at_14 rfl rfl ?_
    refine r_tab (len := 33) dX5_at_15 ⟨by omega, by omega⟩ (fun hD => ⟨97, by decide, ?_⟩) (fun hI => ?_)
    · refine r_bipush (pc2 := 99) dX5_at_97 rfl (by decide) ?_
      refine r_ret dX5_at_99 rfl ?_
      refine RM_of (x := -102) ?_ rfl gr hr
      show (if ¬ (-9 ≤ a ∧ a ≤ 9) then -101 else if k = 0 then ghF s (ssF p sh ln) (stZ p a) else if k = 1 then nn (whF s (ssF p sh ln) (stZ p a)) else if k = 2 then nn (mvF s (ssF p sh ln) (stZ p a) v.toNat).2 else if k = 3 then (if (mvF s (ssF p sh ln) (stZ p a) v.toNat).2 = -1 then 0 else rsF s (ssF p sh ln) (stZ p a) (mvF s (ssF p sh ln) (stZ p a) v.toNat).2) else if k = 4 then rsF s (ssF p sh ln) (stZ p a) (-1) else -102) = _
      rw [if_neg (by omega), if_neg (by omega), if_neg (by omega), if_neg (by omega), if_neg (by omega), if_neg (by omega)]
    · have hcase : k = 0 ∨ k = 1 ∨ k = 2 ∨ k = 3 ∨ k = 4 := by omega
      rcases hcase with hX0 | hX1 | hX2 | hX3 | hX4
      · refine ⟨33, 48, by rw [hX0]; rfl, by decide, ?_⟩
        refine r_aload_n (pc2 := 49) dX5_at_48 rfl rfl ?_
        refine r_iload_n (pc2 := 50) dX5_at_49 rfl rfl ?_
        refine r_callv_1 (pc2 := 53) dX5_at_50 rfl rs_5_67 rfl (by decide) rfl (Nat.le_of_ble_eq_true rfl) (Nat.le_of_ble_eq_true rfl) (by assumption) (by assumption) (m_ghostsAt wr y42 _ _ _ _ _ _ _ y33w g y34w hGR hGS so hso hSo a (by omega)) (fun r_ w_ h_ => ?_)
        rw [h_.1, h_.2]
        clear h_ w_ r_
        refine ⟨rfl, ?_⟩
        rw [mgA_gh hGL (show -9 ≤ a ∧ a ≤ 9 by omega)]
        refine r_ret dX5_at_53 rfl ?_
        refine RM_of (x := ghF s (ssF p sh ln) (stZ p a)) ?_ rfl gr hr
        show (if ¬ (-9 ≤ a ∧ a ≤ 9) then -101 else if k = 0 then ghF s (ssF p sh ln) (stZ p a) else if k = 1 then nn (whF s (ssF p sh ln) (stZ p a)) else if k = 2 then nn (mvF s (ssF p sh ln) (stZ p a) v.toNat).2 else if k = 3 then (if (mvF s (ssF p sh ln) (stZ p a) v.toNat).2 = -1 then 0 else rsF s (ssF p sh ln) (stZ p a) (mvF s (ssF p sh ln) (stZ p a) v.toNat).2) else if k = 4 then rsF s (ssF p sh ln) (stZ p a) (-1) else -102) = _
        rw [if_neg (by omega), if_pos (by omega)]
      · refine ⟨39, 54, by rw [hX1]; rfl, by decide, ?_⟩
        refine r_aload_n (pc2 := 55) dX5_at_54 rfl rfl ?_
        refine r_iload_n (pc2 := 56) dX5_at_55 rfl rfl ?_
        refine r_callv_1 (pc2 := 59) dX5_at_56 rfl rs_5_167 rfl (by decide) rfl (Nat.le_of_ble_eq_true rfl) (Nat.le_of_ble_eq_true rfl) (by assumption) (by assumption) (m_wholeAt wr y42 _ _ _ _ _ _ _ y33w g y34w hGR hGS so hso hSo a (by omega)) (fun r_ w_ h_ => ?_)
        rw [h_.1, h_.2]
        clear h_ w_ r_
        refine ⟨rfl, ?_⟩
        have hst := stZ_rg (an := a) hp (by omega)
        rw [e0, mwT_nn hGL (show -9 ≤ a ∧ a ≤ 9 by omega) (whF_lt hp (by omega) hSV _ (by omega))]
        refine r_ret dX5_at_59 rfl ?_
        refine RM_of (x := nn (whF s (ssF p sh ln) (stZ p a))) ?_ rfl gr hr
        show (if ¬ (-9 ≤ a ∧ a ≤ 9) then -101 else if k = 0 then ghF s (ssF p sh ln) (stZ p a) else if k = 1 then nn (whF s (ssF p sh ln) (stZ p a)) else if k = 2 then nn (mvF s (ssF p sh ln) (stZ p a) v.toNat).2 else if k = 3 then (if (mvF s (ssF p sh ln) (stZ p a) v.toNat).2 = -1 then 0 else rsF s (ssF p sh ln) (stZ p a) (mvF s (ssF p sh ln) (stZ p a) v.toNat).2) else if k = 4 then rsF s (ssF p sh ln) (stZ p a) (-1) else -102) = _
        rw [if_neg (by omega), if_neg (by omega), if_pos (by omega)]
      · refine ⟨45, 60, by rw [hX2]; rfl, by decide, ?_⟩
        refine r_aload_n (pc2 := 61) dX5_at_60 rfl rfl ?_
        refine r_iload_n (pc2 := 62) dX5_at_61 rfl rfl ?_
        refine r_callv_1 (pc2 := 65) dX5_at_62 rfl rs_5_170 rfl (by decide) rfl (Nat.le_of_ble_eq_true rfl) (Nat.le_of_ble_eq_true rfl) (by assumption) (by assumption) (m_mostAt wr y42 _ _ _ _ _ _ _ y33w g y34w hGR hGS so hso hSo a (by omega)) (fun r_ w_ h_ => ?_)
        rw [h_.1, h_.2]
        clear h_ w_ r_
        refine ⟨rfl, ?_⟩
        rw [e0, (mmF_mv hGL (show -9 ≤ a ∧ a ≤ 9 by omega) _).1]
        have q6 := (mvF_rg s (ssF p sh ln) (stZ p a) v.toNat).2
        have q7 : (nn (mvF s (ssF p sh ln) (stZ p a) v.toNat).2 = -105 ↔ (mvF s (ssF p sh ln) (stZ p a) v.toNat).2 = -1) ∧ (-105 ≤ nn (mvF s (ssF p sh ln) (stZ p a) v.toNat).2 ∧ nn (mvF s (ssF p sh ln) (stZ p a) v.toNat).2 ≤ 4) := by unfold nn; split <;> omega
        refine r_ret dX5_at_65 rfl ?_
        refine RM_of (x := nn (mvF s (ssF p sh ln) (stZ p a) v.toNat).2) ?_ rfl gr hr
        show (if ¬ (-9 ≤ a ∧ a ≤ 9) then -101 else if k = 0 then ghF s (ssF p sh ln) (stZ p a) else if k = 1 then nn (whF s (ssF p sh ln) (stZ p a)) else if k = 2 then nn (mvF s (ssF p sh ln) (stZ p a) v.toNat).2 else if k = 3 then (if (mvF s (ssF p sh ln) (stZ p a) v.toNat).2 = -1 then 0 else rsF s (ssF p sh ln) (stZ p a) (mvF s (ssF p sh ln) (stZ p a) v.toNat).2) else if k = 4 then rsF s (ssF p sh ln) (stZ p a) (-1) else -102) = _
        rw [if_neg (by omega), if_neg (by omega), if_neg (by omega), if_pos (by omega)]
      · refine ⟨51, 66, by rw [hX3]; rfl, by decide, ?_⟩
        refine r_aload_n (pc2 := 67) dX5_at_66 rfl rfl ?_
        refine r_iload_n (pc2 := 68) dX5_at_67 rfl rfl ?_
        refine r_callv_1 (pc2 := 71) dX5_at_68 rfl rs_5_170 rfl (by decide) rfl (Nat.le_of_ble_eq_true rfl) (Nat.le_of_ble_eq_true rfl) (by assumption) (by assumption) (m_mostAt wr y42 _ _ _ _ _ _ _ y33w g y34w hGR hGS so hso hSo a (by omega)) (fun r_ w_ h_ => ?_)
        rw [h_.1, h_.2]
        clear h_ w_ r_
        refine ⟨rfl, ?_⟩
        rw [e0, (mmF_mv hGL (show -9 ≤ a ∧ a ≤ 9 by omega) _).1]
        have q6 := (mvF_rg s (ssF p sh ln) (stZ p a) v.toNat).2
        have q7 : (nn (mvF s (ssF p sh ln) (stZ p a) v.toNat).2 = -105 ↔ (mvF s (ssF p sh ln) (stZ p a) v.toNat).2 = -1) ∧ (-105 ≤ nn (mvF s (ssF p sh ln) (stZ p a) v.toNat).2 ∧ nn (mvF s (ssF p sh ln) (stZ p a) v.toNat).2 ≤ 4) := by unfold nn; split <;> omega
        refine r_ist_3 (pc2 := 72) dX5_at_71 rfl rfl ?_
        refine r_iload_n (pc2 := 73) dX5_at_72 rfl rfl ?_
        refine r_bipush (pc2 := 75) dX5_at_73 rfl (by decide) ?_
        refine r_icmp_ne (pc2 := 78) (tgt := 82) dX5_at_75 rfl (by decide) (by omega) (by omega) (fun h75 => ?_) (fun h75 => ?_)
        · refine r_aload_n (pc2 := 83) dX5_at_82 rfl rfl ?_
          refine r_iload_n (pc2 := 84) dX5_at_83 rfl rfl ?_
          refine r_iload_n (pc2 := 85) dX5_at_84 rfl rfl ?_
          refine r_callv_2 (pc2 := 88) dX5_at_85 rfl rs_5_78 rfl (by decide) rfl (Nat.le_of_ble_eq_true rfl) (Nat.le_of_ble_eq_true rfl) (by assumption) (by assumption) (m_showing wr y42 _ _ _ _ _ _ _ y33w g y34w hGR hGS so hso hSo a (nn (mvF s (ssF p sh ln) (stZ p a) v.toNat).2) (by omega) ⟨by omega, by omega⟩) (fun r_ w_ h_ => ?_)
          rw [h_.1, h_.2]
          clear h_ w_ r_
          refine ⟨rfl, ?_⟩
          rw [msH_rs hGL (show -9 ≤ a ∧ a ≤ 9 by omega) q6.1]
          refine r_ret dX5_at_88 rfl ?_
          refine RM_of (x := _) ?_ rfl gr hr
          show (if ¬ (-9 ≤ a ∧ a ≤ 9) then -101 else if k = 0 then ghF s (ssF p sh ln) (stZ p a) else if k = 1 then nn (whF s (ssF p sh ln) (stZ p a)) else if k = 2 then nn (mvF s (ssF p sh ln) (stZ p a) v.toNat).2 else if k = 3 then (if (mvF s (ssF p sh ln) (stZ p a) v.toNat).2 = -1 then 0 else rsF s (ssF p sh ln) (stZ p a) (mvF s (ssF p sh ln) (stZ p a) v.toNat).2) else if k = 4 then rsF s (ssF p sh ln) (stZ p a) (-1) else -102) = _
          rw [if_neg (by omega), if_neg (by omega), if_neg (by omega), if_neg (by omega), if_pos (by omega)]
          rw [if_neg (by omega)]
        · refine r_iconst (pc2 := 79) dX5_at_78 rfl ?_
          refine r_goto (tgt := 88) dX5_at_79 (by decide) ?_
          refine r_ret dX5_at_88 rfl ?_
          refine RM_of (x := _) ?_ rfl gr hr
          show (if ¬ (-9 ≤ a ∧ a ≤ 9) then -101 else if k = 0 then ghF s (ssF p sh ln) (stZ p a) else if k = 1 then nn (whF s (ssF p sh ln) (stZ p a)) else if k = 2 then nn (mvF s (ssF p sh ln) (stZ p a) v.toNat).2 else if k = 3 then (if (mvF s (ssF p sh ln) (stZ p a) v.toNat).2 = -1 then 0 else rsF s (ssF p sh ln) (stZ p a) (mvF s (ssF p sh ln) (stZ p a) v.toNat).2) else if k = 4 then rsF s (ssF p sh ln) (stZ p a) (-1) else -102) = _
          rw [if_neg (by omega), if_neg (by omega), if_neg (by omega), if_neg (by omega), if_pos (by omega)]
          rw [if_pos (by omega)]
      · refine ⟨74, 89, by rw [hX4]; rfl, by decide, ?_⟩
        refine r_aload_n (pc2 := 90) dX5_at_89 rfl rfl ?_
        refine r_iload_n (pc2 := 91) dX5_at_90 rfl rfl ?_
        refine r_bipush (pc2 := 93) dX5_at_91 rfl (by decide) ?_
        refine r_callv_2 (pc2 := 96) dX5_at_93 rfl rs_5_78 rfl (by decide) rfl (Nat.le_of_ble_eq_true rfl) (Nat.le_of_ble_eq_true rfl) (by assumption) (by assumption) (m_showing wr y42 _ _ _ _ _ _ _ y33w g y34w hGR hGS so hso hSo a (-105) (by omega) ⟨by omega, by omega⟩) (fun r_ w_ h_ => ?_)
        rw [h_.1, h_.2]
        clear h_ w_ r_
        refine ⟨rfl, ?_⟩
        rw [msH_no hGL (show -9 ≤ a ∧ a ≤ 9 by omega)]
        refine r_ret dX5_at_96 rfl ?_
        refine RM_of (x := rsF s (ssF p sh ln) (stZ p a) (-1)) ?_ rfl gr hr
        show (if ¬ (-9 ≤ a ∧ a ≤ 9) then -101 else if k = 0 then ghF s (ssF p sh ln) (stZ p a) else if k = 1 then nn (whF s (ssF p sh ln) (stZ p a)) else if k = 2 then nn (mvF s (ssF p sh ln) (stZ p a) v.toNat).2 else if k = 3 then (if (mvF s (ssF p sh ln) (stZ p a) v.toNat).2 = -1 then 0 else rsF s (ssF p sh ln) (stZ p a) (mvF s (ssF p sh ln) (stZ p a) v.toNat).2) else if k = 4 then rsF s (ssF p sh ln) (stZ p a) (-1) else -102) = _
        rw [if_neg (by omega), if_neg (by omega), if_neg (by omega), if_neg (by omega), if_neg (by omega), if_pos (by omega)]
  · refine r_bipush (pc2 := 9) dX5_at_7 rfl (by decide) ?_
    refine r_ret dX5_at_9 rfl ?_
    refine RM_of (x := -101) ?_ rfl agO.rf h
    show (if ¬ (-9 ≤ a ∧ a ≤ 9) then -101 else if k = 0 then ghF s (ssF p sh ln) (stZ p a) else if k = 1 then nn (whF s (ssF p sh ln) (stZ p a)) else if k = 2 then nn (mvF s (ssF p sh ln) (stZ p a) v.toNat).2 else if k = 3 then (if (mvF s (ssF p sh ln) (stZ p a) v.toNat).2 = -1 then 0 else rsF s (ssF p sh ln) (stZ p a) (mvF s (ssF p sh ln) (stZ p a) v.toNat).2) else if k = 4 then rsF s (ssF p sh ln) (stZ p a) (-1) else -102) = _
    rw [if_pos (by omega)]

set_option maxHeartbeats 4000000 in
theorem m_view (w : av_W) (v p sh ln pr gd co : Int) (c s : Nat → Int) (L : Nat → CV) (n : Int) (S : CV) (hs len : Int) (t : Nat → Int) (g ke : Nat → Int) (h : REFG w g ke (v, p, sh, ln, pr, gd, co, c, s) L n S hs len t) (hW : KW (v, p, sh, ln, pr, gd, co, c, s)) (a : Int) (ha : RG a) (k : Int) (hk : RG k) : cl MX5_view [.ref 33, .int (iN a), .int (iN k)] w (fun r' w' => RM w w' r' (o_view (v, p, sh, ln, pr, gd, co, c, s) a k) (v, p, sh, ln, pr, gd, co, c, s) L n S hs len t) := by
  obtain ⟨x42, ⟨xsp, xrv, xrs, xoa, x33w⟩, ⟨x34w, xV⟩, x35w, -⟩ := id h
  have x33 : 33 < w.1 := by omega
  have x34 : 34 < w.1 := by omega
  have hV : KV (v, p, sh, ln, pr, gd, co, c, s) := hW.1
  have hSV : ∀ j : Nat, (j : Int) < p → s j < v := hW.2
  obtain ⟨hK, hS, hc, hpr⟩ := id hV
  have hK : KR v p sh ln := hK
  have hS : SR s := hS
  have hc : ∀ j : Nat, j < 48 → 0 ≤ c j ∧ c j ≤ 9 := hc
  have hpr : 0 ≤ pr ∧ pr ≤ 99999 := hpr
  obtain ⟨hv, hp, hsh, hln⟩ := id hK
  have xV2 : gV (v, p, sh, ln, pr, gd, co, c, s) g := xV
  obtain ⟨⟨e0, e1, e2, e3, e4, e5, e6⟩, -⟩ := id xV2
  have hGR : GR g := ⟨by omega, by omega, by omega, by omega⟩
  have hGS : GS g := gV_GS xV2 hS
  have haR : -2147483648 ≤ a ∧ a < 2147483648 := ha
  have hkR : -2147483648 ≤ k ∧ k < 2147483648 := hk
  have q5 := (clF_rg p s (ssF p sh ln) a 19 (Nat.le_refl _)).1
  show rn MX5_view 0 [some (.ref 33), some (.int (iN a)), some (.int (iN k))] [] w _
  refine r_aload_n (pc2 := 1) dX5_view_0 rfl rfl ?_
  refine r_iload_n (pc2 := 2) dX5_view_1 rfl rfl ?_
  refine r_callv_1 (pc2 := 5) dX5_view_2 rfl rs_5_84 rfl (by decide) rfl (Nat.le_of_ble_eq_true rfl) (Nat.le_of_ble_eq_true rfl) (by assumption) (by assumption) (m_isView w x42 _ _ _ _ _ _ _ x33w g x34w hGR a ha) (fun r_ w_ h_ => ?_)
  rw [h_.1, h_.2]
  clear h_ w_ r_
  refine ⟨rfl, ?_⟩
  refine r_ifb_ne (pc2 := 8) (tgt := 11) dX5_view_5 rfl (by decide)  (fun h5 => ?_) (fun h5 => ?_)
  · refine r_aload_n (pc2 := 12) dX5_view_11 rfl rfl ?_
    refine r_callv_0 (pc2 := 15) dX5_view_12 rfl rs_5_71 rfl (by decide) rfl (Nat.le_of_ble_eq_true rfl) (Nat.le_of_ble_eq_true rfl) (by assumption) (by assumption) (m_layC _ v p sh ln pr gd co c s L n S hs len t g ke h hV) (fun r_ w_ h_ => ?_)
    obtain ⟨e_, gr, hr, so, hso, hSo, hGL⟩ := h_
    rw [e_]
    clear e_
    obtain ⟨wr, rfl⟩ : ∃ wr, wr = w_ := ⟨_, rfl⟩
    obtain ⟨y42, ⟨ysp, yrv, yrs, yoa, y33w⟩, ⟨y34w, yV⟩, y35w, -⟩ := id hr
    have y33 : 33 < wr.1 := by omega
    have y34 : 34 < wr.1 := by omega
    refine ⟨gr.1, ?_⟩
    refine r_iload_n (pc2 := 16) dX5_view_15 rfl rfl ?_
    refine r_tab (len := 32) dX5_view_16 ⟨by omega, by omega⟩ (fun hD => ⟨77, by decide, ?_⟩) (fun hI => ?_)
    · refine r_bipush (pc2 := 79) dX5_view_77 rfl (by decide) ?_
      refine r_ret dX5_view_79 rfl ?_
      refine RM_of (x := -102) ?_ rfl gr hr
      show (if ¬ (0 ≤ a ∧ a ≤ v - 1) then -101 else if k = 0 then cnS p s a else if k = 1 then asF p s (ssF p sh ln) (cnA p 19) a else if k = 2 then (clF p s (ssF p sh ln) a 19).1 else if k = 3 then rsF s (ssF p sh ln) (stZ p (clF p s (ssF p sh ln) a 19).1) a else -102) = _
      rw [if_neg (by omega), if_neg (by omega), if_neg (by omega), if_neg (by omega), if_neg (by omega)]
    · have hcase : k = 0 ∨ k = 1 ∨ k = 2 ∨ k = 3 := by omega
      rcases hcase with hX0 | hX1 | hX2 | hX3
      · refine ⟨32, 48, by rw [hX0]; rfl, by decide, ?_⟩
        refine r_aload_n (pc2 := 49) dX5_view_48 rfl rfl ?_
        refine r_iload_n (pc2 := 50) dX5_view_49 rfl rfl ?_
        refine r_callv_1 (pc2 := 53) dX5_view_50 rfl rs_5_173 rfl (by decide) rfl (Nat.le_of_ble_eq_true rfl) (Nat.le_of_ble_eq_true rfl) (by assumption) (by assumption) (m_slicesOf wr y42 _ _ _ _ _ _ _ y33w g y34w hGR hGS a ha) (fun r_ w_ h_ => ?_)
        rw [h_.1, h_.2]
        clear h_ w_ r_
        refine ⟨rfl, ?_⟩
        rw [show sm (g 1).toNat (fun j => bz (g (7 + j) = a)) = cnS p s a from by rw [e1]; exact sm_congr (fun j hj => bz_iff (by rw [xV2.2.1 j (by omega)]))]
        refine r_ret dX5_view_53 rfl ?_
        refine RM_of (x := cnS p s a) ?_ rfl gr hr
        show (if ¬ (0 ≤ a ∧ a ≤ v - 1) then -101 else if k = 0 then cnS p s a else if k = 1 then asF p s (ssF p sh ln) (cnA p 19) a else if k = 2 then (clF p s (ssF p sh ln) a 19).1 else if k = 3 then rsF s (ssF p sh ln) (stZ p (clF p s (ssF p sh ln) a 19).1) a else -102) = _
        rw [if_neg (by omega), if_pos (by omega)]
      · refine ⟨38, 54, by rw [hX1]; rfl, by decide, ?_⟩
        refine r_aload_n (pc2 := 55) dX5_view_54 rfl rfl ?_
        refine r_iload_n (pc2 := 56) dX5_view_55 rfl rfl ?_
        refine r_callv_1 (pc2 := 59) dX5_view_56 rfl rs_5_81 rfl (by decide) rfl (Nat.le_of_ble_eq_true rfl) (Nat.le_of_ble_eq_true rfl) (by assumption) (by assumption) (m_wholeAngles wr y42 _ _ _ _ _ _ _ y33w g y34w hGR hGS so hso hSo a ha) (fun r_ w_ h_ => ?_)
        rw [h_.1, h_.2]
        clear h_ w_ r_
        refine ⟨rfl, ?_⟩
        rw [mwA_as hGL (by omega)]
        refine r_ret dX5_view_59 rfl ?_
        refine RM_of (x := asF p s (ssF p sh ln) (cnA p 19) a) ?_ rfl gr hr
        show (if ¬ (0 ≤ a ∧ a ≤ v - 1) then -101 else if k = 0 then cnS p s a else if k = 1 then asF p s (ssF p sh ln) (cnA p 19) a else if k = 2 then (clF p s (ssF p sh ln) a 19).1 else if k = 3 then rsF s (ssF p sh ln) (stZ p (clF p s (ssF p sh ln) a 19).1) a else -102) = _
        rw [if_neg (by omega), if_neg (by omega), if_pos (by omega)]
      · refine ⟨44, 60, by rw [hX2]; rfl, by decide, ?_⟩
        refine r_aload_n (pc2 := 61) dX5_view_60 rfl rfl ?_
        refine r_iload_n (pc2 := 62) dX5_view_61 rfl rfl ?_
        refine r_callv_1 (pc2 := 65) dX5_view_62 rfl rs_5_176 rfl (by decide) rfl (Nat.le_of_ble_eq_true rfl) (Nat.le_of_ble_eq_true rfl) (by assumption) (by assumption) (m_clearest wr y42 _ _ _ _ _ _ _ y33w g y34w hGR hGS so hso hSo a ha) (fun r_ w_ h_ => ?_)
        rw [h_.1, h_.2]
        clear h_ w_ r_
        refine ⟨rfl, ?_⟩
        rw [show mcF g so a 18 = (clF p s (ssF p sh ln) a 19).1 from by rw [mcF_cl hGL (by omega) 18 (Nat.le_refl _)]]
        refine r_ret dX5_view_65 rfl ?_
        refine RM_of (x := (clF p s (ssF p sh ln) a 19).1) ?_ rfl gr hr
        show (if ¬ (0 ≤ a ∧ a ≤ v - 1) then -101 else if k = 0 then cnS p s a else if k = 1 then asF p s (ssF p sh ln) (cnA p 19) a else if k = 2 then (clF p s (ssF p sh ln) a 19).1 else if k = 3 then rsF s (ssF p sh ln) (stZ p (clF p s (ssF p sh ln) a 19).1) a else -102) = _
        rw [if_neg (by omega), if_neg (by omega), if_neg (by omega), if_pos (by omega)]
      · refine ⟨50, 66, by rw [hX3]; rfl, by decide, ?_⟩
        refine r_aload_n (pc2 := 67) dX5_view_66 rfl rfl ?_
        refine r_aload_n (pc2 := 68) dX5_view_67 rfl rfl ?_
        refine r_iload_n (pc2 := 69) dX5_view_68 rfl rfl ?_
        refine r_callv_1 (pc2 := 72) dX5_view_69 rfl rs_5_176 rfl (by decide) rfl (Nat.le_of_ble_eq_true rfl) (Nat.le_of_ble_eq_true rfl) (by assumption) (by assumption) (m_clearest wr y42 _ _ _ _ _ _ _ y33w g y34w hGR hGS so hso hSo a ha) (fun r_ w_ h_ => ?_)
        rw [h_.1, h_.2]
        clear h_ w_ r_
        refine ⟨rfl, ?_⟩
        rw [show mcF g so a 18 = (clF p s (ssF p sh ln) a 19).1 from by rw [mcF_cl hGL (by omega) 18 (Nat.le_refl _)]]
        refine r_iload_n (pc2 := 73) dX5_view_72 rfl rfl ?_
        refine r_callv_2 (pc2 := 76) dX5_view_73 rfl rs_5_78 rfl (by decide) rfl (Nat.le_of_ble_eq_true rfl) (Nat.le_of_ble_eq_true rfl) (by assumption) (by assumption) (m_showing wr y42 _ _ _ _ _ _ _ y33w g y34w hGR hGS so hso hSo (clF p s (ssF p sh ln) a 19).1 a (by omega) ha) (fun r_ w_ h_ => ?_)
        rw [h_.1, h_.2]
        clear h_ w_ r_
        refine ⟨rfl, ?_⟩
        rw [msH_rv hGL (show -9 ≤ (clF p s (ssF p sh ln) a 19).1 ∧ (clF p s (ssF p sh ln) a 19).1 ≤ 9 by omega) (by omega)]
        refine r_ret dX5_view_76 rfl ?_
        refine RM_of (x := rsF s (ssF p sh ln) (stZ p (clF p s (ssF p sh ln) a 19).1) a) ?_ rfl gr hr
        show (if ¬ (0 ≤ a ∧ a ≤ v - 1) then -101 else if k = 0 then cnS p s a else if k = 1 then asF p s (ssF p sh ln) (cnA p 19) a else if k = 2 then (clF p s (ssF p sh ln) a 19).1 else if k = 3 then rsF s (ssF p sh ln) (stZ p (clF p s (ssF p sh ln) a 19).1) a else -102) = _
        rw [if_neg (by omega), if_neg (by omega), if_neg (by omega), if_neg (by omega), if_pos (by omega)]
  · refine r_bipush (pc2 := 10) dX5_view_8 rfl (by decide) ?_
    refine r_ret dX5_view_10 rfl ?_
    refine RM_of (x := -101) ?_ rfl agO.rf h
    show (if ¬ (0 ≤ a ∧ a ≤ v - 1) then -101 else if k = 0 then cnS p s a else if k = 1 then asF p s (ssF p sh ln) (cnA p 19) a else if k = 2 then (clF p s (ssF p sh ln) a 19).1 else if k = 3 then rsF s (ssF p sh ln) (stZ p (clF p s (ssF p sh ln) a 19).1) a else -102) = _
    rw [if_pos (by omega)]
