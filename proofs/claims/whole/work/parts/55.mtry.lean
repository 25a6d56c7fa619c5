/-! the reference: count, trials -/
theorem updZ_back (g : Nat → Int) (i : Nat) (x : Int) : updZ (updZ g i x) i (g i) = g := by
  funext j
  show (if j = i then g i else (if j = i then x else g j)) = g j
  by_cases h : j = i
  · rw [if_pos h, h]
  · rw [if_neg h, if_neg h]

set_option maxHeartbeats 4000000 in
theorem m_count (w : av_W) (v p sh ln pr gd co : Int) (c s : Nat → Int) (L : Nat → CV) (n : Int) (S : CV) (hs len : Int) (t : Nat → Int) (g ke : Nat → Int) (h : REFG w g ke (v, p, sh, ln, pr, gd, co, c, s) L n S hs len t) (hW : KW (v, p, sh, ln, pr, gd, co, c, s)) (k : Int) (hk : RG k) : cl MX5_count [.ref 33, .int (iN k)] w (fun r' w' => RM w w' r' (o_count (v, p, sh, ln, pr, gd, co, c, s) n len k) (v, p, sh, ln, pr, gd, co, c, s) L n S hs len t) := by
  obtain ⟨x42, ⟨xsp, xrv, xrs, xoa, x33w⟩, ⟨x34w, xV⟩, x35w, -⟩ := id h
  have x33 : 33 < w.1 := by omega
  have x34 : 34 < w.1 := by omega
  have hV : KV (v, p, sh, ln, pr, gd, co, c, s) := hW.1
  have hSV : ∀ j : Nat, (j : Int) < p → s j < v := hW.2
  obtain ⟨hK, hS, hc, hpr⟩ := id hV
  have hK : KR v p sh ln := hK
  have hS : SR s := hS
  have hc : ∀ j : Nat, j < 48 → 0 ≤ c j ∧ c j ≤ 9 := hc
  have hpr : 0 ≤ pr ∧ pr ≤ 99999 := hpr
  obtain ⟨hv, hp, hsh, hln⟩ := id hK
  have xV2 : gV (v, p, sh, ln, pr, gd, co, c, s) g := xV
  obtain ⟨⟨e0, e1, e2, e3, e4, e5, e6⟩, -⟩ := id xV2
  have hGR : GR g := ⟨by omega, by omega, by omega, by omega⟩
  have hGS : GS g := gV_GS xV2 hS
  have hkR : -2147483648 ≤ k ∧ k < 2147483648 := hk
  show rn MX5_count 0 [some (.ref 33), some (.int (iN k))] [] w _
  refine r_iload_n (pc2 := 1) dX5_count_0 rfl rfl ?_
  refine r_tab (len := 67) dX5_count_1 ⟨by omega, by omega⟩ (fun hD => ⟨137, by decide, ?_⟩) (fun hI => ?_)
  · refine r_bipush (pc2 := 139) dX5_count_137 rfl (by decide) ?_
    refine r_ret dX5_count_139 rfl ?_
    refine RM_of (x := -102) ?_ rfl agO.rf h
    show (if k = 0 then v else if k = 1 then p else if k = 2 then sh else if k = 3 then ln else if k = 4 then GA p sh ln s else if k = 5 then 19 - asF p s (ssF p sh ln) (cnA p 19) (-1) else if k = 6 then wvF p v s (ssF p sh ln) (cnA p 19) else if k = 7 then pr else if k = 8 then gd else if k = 9 then pr - gd else if k = 10 then co else if k = 11 then n else if k = 12 then len else -102) = _
    rw [if_neg (by omega), if_neg (by omega), if_neg (by omega), if_neg (by omega), if_neg (by omega), if_neg (by omega), if_neg (by omega), if_neg (by omega), if_neg (by omega), if_neg (by omega), if_neg (by omega), if_neg (by omega), if_neg (by omega)]
  · have hcase : k = 0 ∨ k = 1 ∨ k = 2 ∨ k = 3 ∨ k = 4 ∨ k = 5 ∨ k = 6 ∨ k = 7 ∨ k = 8 ∨ k = 9 ∨ k = 10 ∨ k = 11 ∨ k = 12 := by omega
    rcases hcase with hX0 | hX1 | hX2 | hX3 | hX4 | hX5 | hX6 | hX7 | hX8 | hX9 | hX10 | hX11 | hX12
    · refine ⟨67, 68, by rw [hX0]; rfl, by decide, ?_⟩
      refine r_aload_n (pc2 := 69) dX5_count_68 rfl rfl ?_
      refine r_getf (pc2 := 72) dX5_count_69 rfl fl_5_7 (by assumption) (by assumption) (by rfl) ?_
      refine r_iload_n (pc2 := 73) dX5_count_72 rfl rfl ?_
      refine r_iald (pc2 := 74) dX5_count_73 rfl (by decide) (by assumption) (by assumption) (by omega) (by omega) (by omega) ?_
      refine r_ret dX5_count_74 rfl ?_
      have hgk : g k.toNat = v := by rw [hX0]; exact e0
      rw [hgk]
      refine RM_of (x := v) ?_ rfl agO.rf h
      show (if k = 0 then v else if k = 1 then p else if k = 2 then sh else if k = 3 then ln else if k = 4 then GA p sh ln s else if k = 5 then 19 - asF p s (ssF p sh ln) (cnA p 19) (-1) else if k = 6 then wvF p v s (ssF p sh ln) (cnA p 19) else if k = 7 then pr else if k = 8 then gd else if k = 9 then pr - gd else if k = 10 then co else if k = 11 then n else if k = 12 then len else -102) = _
      rw [if_pos (by omega)]
    · refine ⟨67, 68, by rw [hX1]; rfl, by decide, ?_⟩
      refine r_aload_n (pc2 := 69) dX5_count_68 rfl rfl ?_
      refine r_getf (pc2 := 72) dX5_count_69 rfl fl_5_7 (by assumption) (by assumption) (by rfl) ?_
      refine r_iload_n (pc2 := 73) dX5_count_72 rfl rfl ?_
      refine r_iald (pc2 := 74) dX5_count_73 rfl (by decide) (by assumption) (by assumption) (by omega) (by omega) (by omega) ?_
      refine r_ret dX5_count_74 rfl ?_
      have hgk : g k.toNat = p := by rw [hX1]; exact e1
      rw [hgk]
      refine RM_of (x := p) ?_ rfl agO.rf h
      show (if k = 0 then v else if k = 1 then p else if k = 2 then sh else if k = 3 then ln else if k = 4 then GA p sh ln s else if k = 5 then 19 - asF p s (ssF p sh ln) (cnA p 19) (-1) else if k = 6 then wvF p v s (ssF p sh ln) (cnA p 19) else if k = 7 then pr else if k = 8 then gd else if k = 9 then pr - gd else if k = 10 then co else if k = 11 then n else if k = 12 then len else -102) = _
      rw [if_neg (by omega), if_pos (by omega)]
    · refine ⟨67, 68, by rw [hX2]; rfl, by decide, ?_⟩
      refine r_aload_n (pc2 := 69) dX5_count_68 rfl rfl ?_
      refine r_getf (pc2 := 72) dX5_count_69 rfl fl_5_7 (by assumption) (by assumption) (by rfl) ?_
      refine r_iload_n (pc2 := 73) dX5_count_72 rfl rfl ?_
      refine r_iald (pc2 := 74) dX5_count_73 rfl (by decide) (by assumption) (by assumption) (by omega) (by omega) (by omega) ?_
      refine r_ret dX5_count_74 rfl ?_
      have hgk : g k.toNat = sh := by rw [hX2]; exact e2
      rw [hgk]
      refine RM_of (x := sh) ?_ rfl agO.rf h
      show (if k = 0 then v else if k = 1 then p else if k = 2 then sh else if k = 3 then ln else if k = 4 then GA p sh ln s else if k = 5 then 19 - asF p s (ssF p sh ln) (cnA p 19) (-1) else if k = 6 then wvF p v s (ssF p sh ln) (cnA p 19) else if k = 7 then pr else if k = 8 then gd else if k = 9 then pr - gd else if k = 10 then co else if k = 11 then n else if k = 12 then len else -102) = _
      rw [if_neg (by omega), if_neg (by omega), if_pos (by omega)]
    · refine ⟨67, 68, by rw [hX3]; rfl, by decide, ?_⟩
      refine r_aload_n (pc2 := 69) dX5_count_68 rfl rfl ?_
      refine r_getf (pc2 := 72) dX5_count_69 rfl fl_5_7 (by assumption) (by assumption) (by rfl) ?_
      refine r_iload_n (pc2 := 73) dX5_count_72 rfl rfl ?_
      refine r_iald (pc2 := 74) dX5_count_73 rfl (by decide) (by assumption) (by assumption) (by omega) (by omega) (by omega) ?_
      refine r_ret dX5_count_74 rfl ?_
      have hgk : g k.toNat = ln := by rw [hX3]; exact e3
      rw [hgk]
      refine RM_of (x := ln) ?_ rfl agO.rf h
      show (if k = 0 then v else if k = 1 then p else if k = 2 then sh else if k = 3 then ln else if k = 4 then GA p sh ln s else if k = 5 then 19 - asF p s (ssF p sh ln) (cnA p 19) (-1) else if k = 6 then wvF p v s (ssF p sh ln) (cnA p 19) else if k = 7 then pr else if k = 8 then gd else if k = 9 then pr - gd else if k = 10 then co else if k = 11 then n else if k = 12 then len else -102) = _
      rw [if_neg (by omega), if_neg (by omega), if_neg (by omega), if_pos (by omega)]
    · refine ⟨74, 75, by rw [hX4]; rfl, by decide, ?_⟩
      refine r_aload_n (pc2 := 76) dX5_count_75 rfl rfl ?_
      refine r_callv_0 (pc2 := 79) dX5_count_76 rfl rs_5_121 rfl (by decide) rfl (Nat.le_of_ble_eq_true rfl) (Nat.le_of_ble_eq_true rfl) (by assumption) (by assumption) (m_ghostsNowC w v p sh ln pr gd co c s L n S hs len t g ke h hV) (fun r_ w_ h_ => ?_)
      obtain ⟨e_, gr, hr⟩ := h_
      rw [e_]
      clear e_
      obtain ⟨wr, rfl⟩ : ∃ wr, wr = w_ := ⟨_, rfl⟩
      refine ⟨gr.1, ?_⟩
      refine r_ret dX5_count_79 rfl ?_
      refine RM_of (x := GA p sh ln s) ?_ rfl gr hr
      show (if k = 0 then v else if k = 1 then p else if k = 2 then sh else if k = 3 then ln else if k = 4 then GA p sh ln s else if k = 5 then 19 - asF p s (ssF p sh ln) (cnA p 19) (-1) else if k = 6 then wvF p v s (ssF p sh ln) (cnA p 19) else if k = 7 then pr else if k = 8 then gd else if k = 9 then pr - gd else if k = 10 then co else if k = 11 then n else if k = 12 then len else -102) = _
      rw [if_neg (by omega), if_neg (by omega), if_neg (by omega), if_neg (by omega), if_pos (by omega)]
    · refine ⟨79, 80, by rw [hX5]; rfl, by decide, ?_⟩
      refine r_aload_n (pc2 := 81) dX5_count_80 rfl rfl ?_
      refine r_iload_n (pc2 := 82) dX5_count_81 rfl rfl ?_
      refine r_bipush (pc2 := 84) dX5_count_82 rfl (by decide) ?_
      refine r_icmp_ne (pc2 := 87) (tgt := 91) dX5_count_84 rfl (by decide) (by omega) (by omega) (fun h84 => ?_) (fun h84 => ?_)
      · refine r_iconst (pc2 := 92) dX5_count_91 rfl ?_
        refine r_callv_1 (pc2 := 95) dX5_count_92 rfl rs_5_127 rfl (by decide) rfl (Nat.le_of_ble_eq_true rfl) (Nat.le_of_ble_eq_true rfl) (by assumption) (by assumption) (m_wholeC w v p sh ln pr gd co c s L n S hs len t g ke h hW _ (by first | exact Or.inl rfl | exact Or.inr rfl)) (fun r_ w_ h_ => ?_)
        obtain ⟨e_, gr, hr⟩ := h_
        rw [e_]
        clear e_
        obtain ⟨wr, rfl⟩ : ∃ wr, wr = w_ := ⟨_, rfl⟩
        refine ⟨gr.1, ?_⟩
        refine r_ret dX5_count_95 rfl ?_
        refine RM_of (x := _) ?_ rfl gr hr
        show (if k = 0 then v else if k = 1 then p else if k = 2 then sh else if k = 3 then ln else if k = 4 then GA p sh ln s else if k = 5 then 19 - asF p s (ssF p sh ln) (cnA p 19) (-1) else if k = 6 then wvF p v s (ssF p sh ln) (cnA p 19) else if k = 7 then pr else if k = 8 then gd else if k = 9 then pr - gd else if k = 10 then co else if k = 11 then n else if k = 12 then len else -102) = _
        rw [if_neg (by omega), if_neg (by omega), if_neg (by omega), if_neg (by omega), if_neg (by omega), if_pos (by omega)]
        exact (if_neg (by decide)).symm
      · exfalso
        omega
    · refine ⟨79, 80, by rw [hX6]; rfl, by decide, ?_⟩
      refine r_aload_n (pc2 := 81) dX5_count_80 rfl rfl ?_
      refine r_iload_n (pc2 := 82) dX5_count_81 rfl rfl ?_
      refine r_bipush (pc2 := 84) dX5_count_82 rfl (by decide) ?_
      refine r_icmp_ne (pc2 := 87) (tgt := 91) dX5_count_84 rfl (by decide) (by omega) (by omega) (fun h84 => ?_) (fun h84 => ?_)
      · exfalso
        omega
      · refine r_iconst (pc2 := 88) dX5_count_87 rfl ?_
        refine r_goto (tgt := 92) dX5_count_88 (by decide) ?_
        refine r_callv_1 (pc2 := 95) dX5_count_92 rfl rs_5_127 rfl (by decide) rfl (Nat.le_of_ble_eq_true rfl) (Nat.le_of_ble_eq_true rfl) (by assumption) (by assumption) (m_wholeC w v p sh ln pr gd co c s L n S hs len t g ke h hW _ (by first | exact Or.inl rfl | exact Or.inr rfl)) (fun r_ w_ h_ => ?_)
        obtain ⟨e_, gr, hr⟩ := h_
        rw [e_]
        clear e_
        obtain ⟨wr, rfl⟩ : ∃ wr, wr = w_ := ⟨_, rfl⟩
        refine ⟨gr.1, ?_⟩
        refine r_ret dX5_count_95 rfl ?_
        refine RM_of (x := _) ?_ rfl gr hr
        show (if k = 0 then v else if k = 1 then p else if k = 2 then sh else if k = 3 then ln else if k = 4 then GA p sh ln s else if k = 5 then 19 - asF p s (ssF p sh ln) (cnA p 19) (-1) else if k = 6 then wvF p v s (ssF p sh ln) (cnA p 19) else if k = 7 then pr else if k = 8 then gd else if k = 9 then pr - gd else if k = 10 then co else if k = 11 then n else if k = 12 then len else -102) = _
        rw [if_neg (by omega), if_neg (by omega), if_neg (by omega), if_neg (by omega), if_neg (by omega), if_neg (by omega), if_pos (by omega)]
        exact (if_pos rfl).symm
    · refine ⟨95, 96, by rw [hX7]; rfl, by decide, ?_⟩
      refine r_aload_n (pc2 := 97) dX5_count_96 rfl rfl ?_
      refine r_getf (pc2 := 100) dX5_count_97 rfl fl_5_7 (by assumption) (by assumption) (by rfl) ?_
      refine r_iload_n (pc2 := 101) dX5_count_100 rfl rfl ?_
      refine r_iconst (pc2 := 102) dX5_count_101 rfl ?_
      refine r_isub (pc2 := 103) dX5_count_102 rfl ?_
      refine r_iald (pc2 := 104) dX5_count_103 rfl (by decide) (by assumption) (by assumption) (by omega) (by omega) (by omega) ?_
      refine r_ret dX5_count_104 rfl ?_
      have hgk : g (k - 3).toNat = pr := by rw [hX7]; exact e4
      rw [hgk]
      refine RM_of (x := pr) ?_ rfl agO.rf h
      show (if k = 0 then v else if k = 1 then p else if k = 2 then sh else if k = 3 then ln else if k = 4 then GA p sh ln s else if k = 5 then 19 - asF p s (ssF p sh ln) (cnA p 19) (-1) else if k = 6 then wvF p v s (ssF p sh ln) (cnA p 19) else if k = 7 then pr else if k = 8 then gd else if k = 9 then pr - gd else if k = 10 then co else if k = 11 then n else if k = 12 then len else -102) = _
      rw [if_neg (by omega), if_neg (by omega), if_neg (by omega), if_neg (by omega), if_neg (by omega), if_neg (by omega), if_neg (by omega), if_pos (by omega)]
    · refine ⟨95, 96, by rw [hX8]; rfl, by decide, ?_⟩
      refine r_aload_n (pc2 := 97) dX5_count_96 rfl rfl ?_
      refine r_getf (pc2 := 100) dX5_count_97 rfl fl_5_7 (by assumption) (by assumption) (by rfl) ?_
      refine r_iload_n (pc2 := 101) dX5_count_100 rfl rfl ?_
      refine r_iconst (pc2 := 102) dX5_count_101 rfl ?_
      refine r_isub (pc2 := 103) dX5_count_102 rfl ?_
      refine r_iald (pc2 := 104) dX5_count_103 rfl (by decide) (by assumption) (by assumption) (by omega) (by omega) (by omega) ?_
      refine r_ret dX5_count_104 rfl ?_
      have hgk : g (k - 3).toNat = gd := by rw [hX8]; exact e5
      rw [hgk]
      refine RM_of (x := gd) ?_ rfl agO.rf h
      show (if k = 0 then v else if k = 1 then p else if k = 2 then sh else if k = 3 then ln else if k = 4 then GA p sh ln s else if k = 5 then 19 - asF p s (ssF p sh ln) (cnA p 19) (-1) else if k = 6 then wvF p v s (ssF p sh ln) (cnA p 19) else if k = 7 then pr else if k = 8 then gd else if k = 9 then pr - gd else if k = 10 then co else if k = 11 then n else if k = 12 then len else -102) = _
      rw [if_neg (by omega), if_neg (by omega), if_neg (by omega), if_neg (by omega), if_neg (by omega), if_neg (by omega), if_neg (by omega), if_neg (by omega), if_pos (by omega)]
    · refine ⟨104, 105, by rw [hX9]; rfl, by decide, ?_⟩
      refine r_aload_n (pc2 := 106) dX5_count_105 rfl rfl ?_
      refine r_getf (pc2 := 109) dX5_count_106 rfl fl_5_7 (by assumption) (by assumption) (by rfl) ?_
      refine r_iconst (pc2 := 110) dX5_count_109 rfl ?_
      refine r_ialk (k := 4) (pc2 := 111) dX5_count_110 rfl (by decide) (by assumption) (by assumption) (by omega) (by omega) (by omega) (by decide) ?_
      refine r_aload_n (pc2 := 112) dX5_count_111 rfl rfl ?_
      refine r_getf (pc2 := 115) dX5_count_112 rfl fl_5_7 (by assumption) (by assumption) (by rfl) ?_
      refine r_iconst (pc2 := 116) dX5_count_115 rfl ?_
      refine r_ialk (k := 5) (pc2 := 117) dX5_count_116 rfl (by decide) (by assumption) (by assumption) (by omega) (by omega) (by omega) (by decide) ?_
      refine r_isub (pc2 := 118) dX5_count_117 rfl ?_
      refine r_ret dX5_count_118 rfl ?_
      rw [show g 4 = pr from e4, show g 5 = gd from e5]
      refine RM_of (x := pr - gd) ?_ rfl agO.rf h
      show (if k = 0 then v else if k = 1 then p else if k = 2 then sh else if k = 3 then ln else if k = 4 then GA p sh ln s else if k = 5 then 19 - asF p s (ssF p sh ln) (cnA p 19) (-1) else if k = 6 then wvF p v s (ssF p sh ln) (cnA p 19) else if k = 7 then pr else if k = 8 then gd else if k = 9 then pr - gd else if k = 10 then co else if k = 11 then n else if k = 12 then len else -102) = _
      rw [if_neg (by omega), if_neg (by omega), if_neg (by omega), if_neg (by omega), if_neg (by omega), if_neg (by omega), if_neg (by omega), if_neg (by omega), if_neg (by omega), if_pos (by omega)]
    · refine ⟨118, 119, by rw [hX10]; rfl, by decide, ?_⟩
      refine r_aload_n (pc2 := 120) dX5_count_119 rfl rfl ?_
      refine r_getf (pc2 := 123) dX5_count_120 rfl fl_5_7 (by assumption) (by assumption) (by rfl) ?_
      refine r_bipush (pc2 := 125) dX5_count_123 rfl (by decide) ?_
      refine r_iald (pc2 := 126) dX5_count_125 rfl (by decide) (by assumption) (by assumption) (by omega) (by omega) (by omega) ?_
      refine r_ret dX5_count_126 rfl ?_
      rw [show g (6 : Int).toNat = co from e6]
      refine RM_of (x := co) ?_ rfl agO.rf h
      show (if k = 0 then v else if k = 1 then p else if k = 2 then sh else if k = 3 then ln else if k = 4 then GA p sh ln s else if k = 5 then 19 - asF p s (ssF p sh ln) (cnA p 19) (-1) else if k = 6 then wvF p v s (ssF p sh ln) (cnA p 19) else if k = 7 then pr else if k = 8 then gd else if k = 9 then pr - gd else if k = 10 then co else if k = 11 then n else if k = 12 then len else -102) = _
      rw [if_neg (by omega), if_neg (by omega), if_neg (by omega), if_neg (by omega), if_neg (by omega), if_neg (by omega), if_neg (by omega), if_neg (by omega), if_neg (by omega), if_neg (by omega), if_pos (by omega)]
    · refine ⟨126, 127, by rw [hX11]; rfl, by decide, ?_⟩
      refine r_aload_n (pc2 := 128) dX5_count_127 rfl rfl ?_
      refine r_getf (pc2 := 131) dX5_count_128 rfl fl_5_37 (by assumption) (by assumption) (by rfl) ?_
      refine r_ret dX5_count_131 rfl ?_
      refine RM_of (x := n) ?_ rfl agO.rf h
      show (if k = 0 then v else if k = 1 then p else if k = 2 then sh else if k = 3 then ln else if k = 4 then GA p sh ln s else if k = 5 then 19 - asF p s (ssF p sh ln) (cnA p 19) (-1) else if k = 6 then wvF p v s (ssF p sh ln) (cnA p 19) else if k = 7 then pr else if k = 8 then gd else if k = 9 then pr - gd else if k = 10 then co else if k = 11 then n else if k = 12 then len else -102) = _
      rw [if_neg (by omega), if_neg (by omega), if_neg (by omega), if_neg (by omega), if_neg (by omega), if_neg (by omega), if_neg (by omega), if_neg (by omega), if_neg (by omega), if_neg (by omega), if_neg (by omega), if_pos (by omega)]
    · refine ⟨131, 132, by rw [hX12]; rfl, by decide, ?_⟩
      refine r_aload_n (pc2 := 133) dX5_count_132 rfl rfl ?_
      refine r_getf (pc2 := 136) dX5_count_133 rfl fl_5_131 (by assumption) (by assumption) (by rfl) ?_
      refine r_ret dX5_count_136 rfl ?_
      refine RM_of (x := len) ?_ rfl agO.rf h
      show (if k = 0 then v else if k = 1 then p else if k = 2 then sh else if k = 3 then ln else if k = 4 then GA p sh ln s else if k = 5 then 19 - asF p s (ssF p sh ln) (cnA p 19) (-1) else if k = 6 then wvF p v s (ssF p sh ln) (cnA p 19) else if k = 7 then pr else if k = 8 then gd else if k = 9 then pr - gd else if k = 10 then co else if k = 11 then n else if k = 12 then len else -102) = _
      rw [if_neg (by omega), if_neg (by omega), if_neg (by omega), if_neg (by omega), if_neg (by omega), if_neg (by omega), if_neg (by omega), if_neg (by omega), if_neg (by omega), if_neg (by omega), if_neg (by omega), if_neg (by omega), if_pos (by omega)]

set_option maxHeartbeats 4000000 in
theorem m_ifSlice (w : av_W) (v p sh ln pr gd co : Int) (c s : Nat → Int) (L : Nat → CV) (n : Int) (S : CV) (hs len : Int) (t : Nat → Int) (g ke : Nat → Int) (h : REFG w g ke (v, p, sh, ln, pr, gd, co, c, s) L n S hs len t) (hW : KW (v, p, sh, ln, pr, gd, co, c, s)) (a b : Int) (ha : RG a) (hb : RG b) : cl MX5_ifSlice [.ref 33, .int (iN a), .int (iN b)] w (fun r' w' => RM w w' r' (o_ifSlice (v, p, sh, ln, pr, gd, co, c, s) a b) (v, p, sh, ln, pr, gd, co, c, s) L n S hs len t) := by
  obtain ⟨x42, ⟨xsp, xrv, xrs, xoa, x33w⟩, ⟨x34w, xV⟩, x35w, -⟩ := id h
  have x33 : 33 < w.1 := by omega
  have x34 : 34 < w.1 := by omega
  have hV : KV (v, p, sh, ln, pr, gd, co, c, s) := hW.1
  have hSV : ∀ j : Nat, (j : Int) < p → s j < v := hW.2
  obtain ⟨hK, hS, hc, hpr⟩ := id hV
  have hK : KR v p sh ln := hK
  have hS : SR s := hS
  have hc : ∀ j : Nat, j < 48 → 0 ≤ c j ∧ c j ≤ 9 := hc
  have hpr : 0 ≤ pr ∧ pr ≤ 99999 := hpr
  obtain ⟨hv, hp, hsh, hln⟩ := id hK
  have xV2 : gV (v, p, sh, ln, pr, gd, co, c, s) g := xV
  obtain ⟨⟨e0, e1, e2, e3, e4, e5, e6⟩, -⟩ := id xV2
  have hGR : GR g := ⟨by omega, by omega, by omega, by omega⟩
  have hGS : GS g := gV_GS xV2 hS
  have haR : -2147483648 ≤ a ∧ a < 2147483648 := ha
  have hbR : -2147483648 ≤ b ∧ b < 2147483648 := hb
  show rn MX5_ifSlice 0 [some (.ref 33), some (.int (iN a)), some (.int (iN b)), none, none] [] w _
  refine r_aload_n (pc2 := 1) dX5_ifSlice_0 rfl rfl ?_
  refine r_iload_n (pc2 := 2) dX5_ifSlice_1 rfl rfl ?_
  refine r_callv_1 (pc2 := 5) dX5_ifSlice_2 rfl rs_5_112 rfl (by decide) rfl (Nat.le_of_ble_eq_true rfl) (Nat.le_of_ble_eq_true rfl) (by assumption) (by assumption) (m_isSlice w x42 _ _ _ _ _ _ _ x33w g x34w hGR a ha) (fun r_ w_ h_ => ?_)
  rw [h_.1, h_.2]
  clear h_ w_ r_
  refine ⟨rfl, ?_⟩
  refine r_ifb_eq (pc2 := 8) (tgt := 16) dX5_ifSlice_5 rfl (by decide)  (fun h5 => ?_) (fun h5 => ?_)
  · refine r_bipush (pc2 := 18) dX5_ifSlice_16 rfl (by decide) ?_
    refine r_ret dX5_ifSlice_18 rfl ?_
    refine RM_of (x := -101) ?_ rfl agO.rf h
    show (if ¬ ((0 ≤ a ∧ a ≤ p - 1) ∧ (0 ≤ b ∧ b ≤ v - 1)) then -101 else GA p sh ln (updZ s a.toNat b)) = _
    rw [if_pos (by omega)]
  · refine r_aload_n (pc2 := 9) dX5_ifSlice_8 rfl rfl ?_
    refine r_iload_n (pc2 := 10) dX5_ifSlice_9 rfl rfl ?_
    refine r_callv_1 (pc2 := 13) dX5_ifSlice_10 rfl rs_5_84 rfl (by decide) rfl (Nat.le_of_ble_eq_true rfl) (Nat.le_of_ble_eq_true rfl) (by assumption) (by assumption) (m_isView w x42 _ _ _ _ _ _ _ x33w g x34w hGR b hb) (fun r_ w_ h_ => ?_)
    rw [h_.1, h_.2]
    clear h_ w_ r_
    refine ⟨rfl, ?_⟩
    refine r_ifb_ne (pc2 := 16) (tgt := 19) dX5_ifSlice_13 rfl (by decide)  (fun h13 => ?_) (fun h13 => ?_)
    · refine r_aload_n (pc2 := 20) dX5_ifSlice_19 rfl rfl ?_
      refine r_getf (pc2 := 23) dX5_ifSlice_20 rfl fl_5_7 (by assumption) (by assumption) (by rfl) ?_
      refine r_bipush (pc2 := 25) dX5_ifSlice_23 rfl (by decide) ?_
      refine r_iload_n (pc2 := 26) dX5_ifSlice_25 rfl rfl ?_
      refine r_iadd (pc2 := 27) dX5_ifSlice_26 rfl ?_
      refine r_iald (pc2 := 28) dX5_ifSlice_27 rfl (by decide) (by assumption) (by assumption) (by omega) (by omega) (by omega) ?_
      refine r_ist_3 (pc2 := 29) dX5_ifSlice_28 rfl rfl ?_
      refine r_aload_n (pc2 := 30) dX5_ifSlice_29 rfl rfl ?_
      refine r_getf (pc2 := 33) dX5_ifSlice_30 rfl fl_5_7 (by assumption) (by assumption) (by rfl) ?_
      refine r_bipush (pc2 := 35) dX5_ifSlice_33 rfl (by decide) ?_
      refine r_iload_n (pc2 := 36) dX5_ifSlice_35 rfl rfl ?_
      refine r_iadd (pc2 := 37) dX5_ifSlice_36 rfl ?_
      refine r_iload_n (pc2 := 38) dX5_ifSlice_37 rfl rfl ?_
      refine r_iast (pc2 := 39) dX5_ifSlice_38 rfl (by assumption) (by assumption) (by omega) (by omega) (by omega) ?_
      have z33 : 33 < (wst w 34 (arO 61 (updZ g (7 + a).toNat b))).1 := x33
      have z33w := (wst_ne (w := w) (a := 34) (b := 33) (e := arO 61 (updZ g (7 + a).toNat b)) (by decide)).trans x33w
      have hV3 : KV (v, p, sh, ln, pr, gd, co, c, updZ s a.toNat b) := ⟨hK, fun j hj => by show 0 ≤ (if j = a.toNat then b else s j) ∧ (if j = a.toNat then b else s j) ≤ 3; split <;> first | omega | exact hS j hj, hc, hpr⟩
      refine r_aload_n (pc2 := 40) dX5_ifSlice_39 rfl rfl ?_
      refine r_callv_0 (pc2 := 43) dX5_ifSlice_40 rfl rs_5_121 rfl (by decide) rfl (Nat.le_of_ble_eq_true rfl) (Nat.le_of_ble_eq_true rfl) (by assumption) (by assumption) (m_ghostsNowC (wst w 34 (arO 61 (updZ g (7 + a).toNat b))) v p sh ln pr gd co c (updZ s a.toNat b) L n S hs len t (updZ g (7 + a).toNat b) ke (REFG_34 h (gV_put xV2 hp.2 b (by omega))) hV3) (fun r_ w_ h_ => ?_)
      obtain ⟨e_, gr, hr⟩ := h_
      rw [e_]
      clear e_
      obtain ⟨wr, rfl⟩ : ∃ wr, wr = w_ := ⟨_, rfl⟩
      obtain ⟨y42, ⟨ysp, yrv, yrs, yoa, y33w⟩, ⟨y34w, yV⟩, y35w, -⟩ := id hr
      have y33 : 33 < wr.1 := by omega
      have y34 : 34 < wr.1 := by omega
      refine ⟨gr.1, ?_⟩
      refine r_ist_4 (pc2 := 45) dX5_ifSlice_43 rfl rfl ?_
      refine r_aload_n (pc2 := 46) dX5_ifSlice_45 rfl rfl ?_
      refine r_getf (pc2 := 49) dX5_ifSlice_46 rfl fl_5_7 (by assumption) (by assumption) (by rfl) ?_
      refine r_bipush (pc2 := 51) dX5_ifSlice_49 rfl (by decide) ?_
      refine r_iload_n (pc2 := 52) dX5_ifSlice_51 rfl rfl ?_
      refine r_iadd (pc2 := 53) dX5_ifSlice_52 rfl ?_
      refine r_iload_n (pc2 := 54) dX5_ifSlice_53 rfl rfl ?_
      refine r_iast (pc2 := 55) dX5_ifSlice_54 rfl (by assumption) (by assumption) (by omega) (by omega) (by omega) ?_
      rw [updZ_back]
      refine r_iload (pc2 := 57) dX5_ifSlice_55 rfl rfl ?_
      refine r_ret dX5_ifSlice_57 rfl ?_
      refine RM_of (x := GA p sh ln (updZ s a.toNat b)) ?_ rfl (((agO.wst _ (by omega)).trans gr).trans (agO.wst _ (by omega))) (REFG_34 hr xV2)
      show (if ¬ ((0 ≤ a ∧ a ≤ p - 1) ∧ (0 ≤ b ∧ b ≤ v - 1)) then -101 else GA p sh ln (updZ s a.toNat b)) = _
      rw [if_neg (by omega)]
    · refine r_bipush (pc2 := 18) dX5_ifSlice_16 rfl (by decide) ?_
      refine r_ret dX5_ifSlice_18 rfl ?_
      refine RM_of (x := -101) ?_ rfl agO.rf h
      show (if ¬ ((0 ≤ a ∧ a ≤ p - 1) ∧ (0 ≤ b ∧ b ≤ v - 1)) then -101 else GA p sh ln (updZ s a.toNat b)) = _
      rw [if_pos (by omega)]

theorem REFG_mdW {w : av_W} {g ke A B H S : Nat → Int} {V : CV} {L : Nat → CV} {n : Int} {Sn : CV} {hs len : Int} {t : Nat → Int} {V2 : CV} (h : REFG w g ke V L n Sn hs len t) (h2 : gV V2 A) : REFG (mdW w A B H S) A ke V2 L n Sn hs len t := by
  obtain ⟨a0, ⟨sp, rv, rs, oa, a1⟩, -, a3, ⟨H2, a4, a5⟩, ⟨S2, a6, a7⟩, -, -, -, ⟨tm, b2, b3⟩⟩ := h
  exact ⟨a0, ⟨sp, rv, rs, oa, (mdW_out (by decide) (by decide) (by decide) (by decide)).trans a1⟩, ⟨mdW_at34, h2⟩, (mdW_out (by decide) (by decide) (by decide) (by decide)).trans a3, ⟨H2, (mdW_out (by decide) (by decide) (by decide) (by decide)).trans a4, a5⟩, ⟨S2, (mdW_out (by decide) (by decide) (by decide) (by decide)).trans a6, a7⟩, ⟨_, mdW_at38⟩, ⟨_, mdW_at39⟩, ⟨_, mdW_at40⟩, ⟨tm, (mdW_out (by decide) (by decide) (by decide) (by decide)).trans b2, b3⟩⟩
theorem mdW_ag (w : av_W) (A B H S : Nat → Int) : agO 33 42 w (mdW w A B H S) := (((agO.wst _ (by omega)).trans (agO.wst _ (by omega))).trans (agO.wst _ (by omega))).trans (agO.wst _ (by omega))

set_option maxHeartbeats 4000000 in
theorem m_bestOrder (w : av_W) (v p sh ln pr gd co : Int) (c s : Nat → Int) (L : Nat → CV) (n : Int) (S : CV) (hs len : Int) (t : Nat → Int) (g ke : Nat → Int) (h : REFG w g ke (v, p, sh, ln, pr, gd, co, c, s) L n S hs len t) (hW : KW (v, p, sh, ln, pr, gd, co, c, s)) (b : Nat → Int) (hbo : bestO v p sh ln b) (a : Int) (ha : RG a) : cl MX5_bestOrder [.ref 33, .int (iN a)] w (fun r' w' => RM w w' r' (if ¬ (0 ≤ a ∧ a ≤ p - 1) then -101 else b a.toNat) (v, p, sh, ln, pr, gd, co, c, s) L n S hs len t) := by
  obtain ⟨x42, ⟨xsp, xrv, xrs, xoa, x33w⟩, ⟨x34w, xV⟩, x35w, -⟩ := id h
  have x33 : 33 < w.1 := by omega
  have x34 : 34 < w.1 := by omega
  have hV : KV (v, p, sh, ln, pr, gd, co, c, s) := hW.1
  have hSV : ∀ j : Nat, (j : Int) < p → s j < v := hW.2
  obtain ⟨hK, hS, hc, hpr⟩ := id hV
  have hK : KR v p sh ln := hK
  have hS : SR s := hS
  have hc : ∀ j : Nat, j < 48 → 0 ≤ c j ∧ c j ≤ 9 := hc
  have hpr : 0 ≤ pr ∧ pr ≤ 99999 := hpr
  obtain ⟨hv, hp, hsh, hln⟩ := id hK
  have xV2 : gV (v, p, sh, ln, pr, gd, co, c, s) g := xV
  obtain ⟨⟨e0, e1, e2, e3, e4, e5, e6⟩, -⟩ := id xV2
  have hGR : GR g := ⟨by omega, by omega, by omega, by omega⟩
  have hGS : GS g := gV_GS xV2 hS
  have haR : -2147483648 ≤ a ∧ a < 2147483648 := ha
  obtain ⟨-, -, -, -, -, -, ⟨so, a8⟩, ⟨be, a9⟩, ⟨hd, b1⟩, -⟩ := id h
  have hBB : ∀ b, bestO v p sh ln b → ∀ j : Nat, j < p.toNat → bsB g be (bsR g (preF 228 (loF p sh ln) so) (mnR v p 6).toNat).2 j = b j := fun b hb => bsB_best e0 e1 hv hp hb
  show rn MX5_bestOrder 0 [some (.ref 33), some (.int (iN a))] [] w _
  refine r_aload_n (pc2 := 1) dX5_bestOrder_0 rfl rfl ?_
  refine r_iload_n (pc2 := 2) dX5_bestOrder_1 rfl rfl ?_
  refine r_callv_1 (pc2 := 5) dX5_bestOrder_2 rfl rs_5_112 rfl (by decide) rfl (Nat.le_of_ble_eq_true rfl) (Nat.le_of_ble_eq_true rfl) (by assumption) (by assumption) (m_isSlice w x42 _ _ _ _ _ _ _ x33w g x34w hGR a ha) (fun r_ w_ h_ => ?_)
  rw [h_.1, h_.2]
  clear h_ w_ r_
  refine ⟨rfl, ?_⟩
  refine r_ifb_ne (pc2 := 8) (tgt := 11) dX5_bestOrder_5 rfl (by decide)  (fun h5 => ?_) (fun h5 => ?_)
  · refine r_aload_n (pc2 := 12) dX5_bestOrder_11 rfl rfl ?_
    refine r_callv_0 (pc2 := 15) dX5_bestOrder_12 rfl rs_5_118 rfl (by decide) rfl (Nat.le_of_ble_eq_true rfl) (Nat.le_of_ble_eq_true rfl) (by assumption) (by assumption) (m_findsOrder w x42 _ _ _ _ _ _ _ x33w g x34w hGR hGS so a8 be hd a9 b1) (fun r_ w_ h_ => ?_)
    rw [h_.1, h_.2, e0, e1, e2, e3]
    clear h_ w_ r_
    have u33 : 33 < (mdW w g (bsB g be (bsR g (preF 228 (loF p sh ln) so) (mnR v p 6).toNat).2) (preF 6 (fun j => g (7 + j)) hd) (preF 228 (loF p sh ln) so)).1 := x33
    have u33w : (mdW w g (bsB g be (bsR g (preF 228 (loF p sh ln) so) (mnR v p 6).toNat).2) (preF 6 (fun j => g (7 + j)) hd) (preF 228 (loF p sh ln) so)).2.2 33 = _ := (mdW_out (by decide) (by decide) (by decide) (by decide)).trans x33w
    have u39 : 39 < (mdW w g (bsB g be (bsR g (preF 228 (loF p sh ln) so) (mnR v p 6).toNat).2) (preF 6 (fun j => g (7 + j)) hd) (preF 228 (loF p sh ln) so)).1 := by show 39 < w.1; omega
    have u39w : (mdW w g (bsB g be (bsR g (preF 228 (loF p sh ln) so) (mnR v p 6).toNat).2) (preF 6 (fun j => g (7 + j)) hd) (preF 228 (loF p sh ln) so)).2.2 39 = _ := mdW_at39
    have u34 : 34 < (mdW w g (bsB g be (bsR g (preF 228 (loF p sh ln) so) (mnR v p 6).toNat).2) (preF 6 (fun j => g (7 + j)) hd) (preF 228 (loF p sh ln) so)).1 := x34
    have u34w : (mdW w g (bsB g be (bsR g (preF 228 (loF p sh ln) so) (mnR v p 6).toNat).2) (preF 6 (fun j => g (7 + j)) hd) (preF 228 (loF p sh ln) so)).2.2 34 = _ := mdW_at34
    have hrB := REFG_mdW (A := g) (B := bsB g be (bsR g (preF 228 (loF p sh ln) so) (mnR v p 6).toNat).2) (H := preF 6 (fun j => g (7 + j)) hd) (S := preF 228 (loF p sh ln) so) h xV2
    refine ⟨rfl, ?_⟩
    refine r_aload_n (pc2 := 16) dX5_bestOrder_15 rfl rfl ?_
    refine r_getf (pc2 := 19) dX5_bestOrder_16 rfl fl_5_25 (by assumption) (by assumption) (by rfl) ?_
    refine r_iload_n (pc2 := 20) dX5_bestOrder_19 rfl rfl ?_
    refine r_iald (pc2 := 21) dX5_bestOrder_20 rfl (by decide) (by assumption) (by assumption) (by omega) (by omega) (by omega) ?_
    refine r_ret dX5_bestOrder_21 rfl ?_
    rw [hBB b hbo a.toNat (by omega)]
    refine RM_of (x := b a.toNat) ?_ rfl (mdW_ag _ _ _ _ _) hrB
    rw [if_neg (by omega)]
  · refine r_bipush (pc2 := 10) dX5_bestOrder_8 rfl (by decide) ?_
    refine r_ret dX5_bestOrder_10 rfl ?_
    refine RM_of (x := -101) ?_ rfl agO.rf h
    rw [if_pos (by omega)]

def shR (n : Nat) : Int := if (n : Int) % 2 = 1 then -(((n : Int) + 1) / 2) else (n : Int) / 2
theorem shR_o {k : Int} (h0 : 0 ≤ k) (h : k.tmod 2 = 1) : (-(k + 1)).tdiv 2 = shR k.toNat := by
  rw [Int.tmod_eq_emod_of_nonneg h0] at h
  unfold shR
  rw [tn h0, if_pos h, Int.neg_tdiv, Int.tdiv_eq_ediv_of_nonneg (by omega)]
theorem shR_e {k : Int} (h0 : 0 ≤ k) (h : k.tmod 2 ≠ 1) : k.tdiv 2 = shR k.toNat := by
  rw [Int.tmod_eq_emod_of_nonneg h0] at h
  unfold shR
  rw [tn h0, if_neg h, Int.tdiv_eq_ediv_of_nonneg h0]
theorem shR_rg {k : Nat} (h : k ≤ 6) : -3 ≤ shR k ∧ shR k ≤ 3 := by
  unfold shR
  split <;> omega
def mbS (G : Int → Int) (q : Int × Int) (x : Int) : Int × Int := if q.2 < 0 ∨ G x < q.2 then (x, G x) else q
def mbF (G : Int → Int) : Nat → Int × Int
  | 0 => (0, -1)
  | n + 1 => mbS G (mbF G n) (shR n)
theorem mbS_sb {G : Int → Int} {q : Int × Int} {x : Int} (h : 0 ≤ q.2) : mbS G q x = sbS G q x := by
  unfold mbS sbS
  by_cases u : G x < q.2
  · rw [if_pos u, if_pos (Or.inr u)]
  · rw [if_neg u, if_neg (by omega)]
theorem sbS_0 {G : Int → Int} (hG : ∀ x, 0 ≤ G x) {q : Int × Int} (h : 0 ≤ q.2) (x : Int) : 0 ≤ (sbS G q x).2 := by
  unfold sbS
  split
  · exact hG x
  · exact h
theorem mbS_t {G : Int → Int} {B F x y : Int} (e : G x = y) (h : F < 0 ∨ y < F) : mbS G (B, F) x = (x, y) := by
  unfold mbS
  rw [e]
  exact if_pos h
theorem mbS_f {G : Int → Int} {B F x y : Int} (e : G x = y) (h : ¬ (F < 0 ∨ y < F)) : mbS G (B, F) x = (B, F) := by
  unfold mbS
  rw [e]
  exact if_neg h
theorem mbF_7 {G : Int → Int} (hG : ∀ x, 0 ≤ G x) : mbF G 7 = sbF G 3 := by
  have e0 : shR 0 = 0 := by decide
  have h1 : mbF G 1 = (0, G 0) := by
    show mbS G (0, -1) (shR 0) = _
    rw [e0]
    exact if_pos (Or.inl (show (-1 : Int) < 0 by decide))
  have p1 : 0 ≤ (mbF G 1).2 := by rw [h1]; exact hG 0
  have st : ∀ n : Nat, 0 ≤ (mbF G n).2 → mbF G (n + 1) = sbS G (mbF G n) (shR n) ∧ 0 ≤ (mbF G (n + 1)).2 := by
    intro n hn
    have e : mbF G (n + 1) = sbS G (mbF G n) (shR n) := mbS_sb hn
    exact ⟨e, by rw [e]; exact sbS_0 hG hn _⟩
  have s1 := st 1 p1
  have s2 := st 2 s1.2
  have s3 := st 3 s2.2
  have s4 := st 4 s3.2
  have s5 := st 5 s4.2
  have s6 := st 6 s5.2
  rw [s6.1, s5.1, s4.1, s3.1, s2.1, s1.1, h1]
  rfl
theorem mbF_rg {G : Int → Int} (hG : ∀ x, 0 ≤ G x ∧ G x ≤ 1368) : ∀ n : Nat, -1 ≤ (mbF G n).2 ∧ (mbF G n).2 ≤ 1368 := by
  intro n
  induction n with
  | zero => exact ⟨show (-1 : Int) ≤ -1 by decide, show (-1 : Int) ≤ 1368 by decide⟩
  | succ n ih =>
    have := hG (shR n)
    show -1 ≤ (mbS G (mbF G n) (shR n)).2 ∧ (mbS G (mbF G n) (shR n)).2 ≤ 1368
    unfold mbS
    split
    · show -1 ≤ G (shR n) ∧ G (shR n) ≤ 1368
      omega
    · exact ih
theorem mbF_st {G : Int → Int} {k : Int} (h : 0 ≤ k) : mbF G (k + 1).toNat = mbS G (mbF G k.toNat) (shR k.toNat) := by
  rw [show (k + 1).toNat = k.toNat + 1 by omega]
  rfl
theorem gV_sh {v p sh ln pr gd co : Int} {c s g : Nat → Int} (q : gV (v, p, sh, ln, pr, gd, co, c, s) g) (x : Int) : gV (v, p, x, ln, pr, gd, co, c, s) (updZ g (2 : Int).toNat x) := by
  obtain ⟨e0, e1, e2, e3, e4, e5, e6⟩ := id q.1
  exact gV_num (g2 := updZ g (2 : Int).toNat x) q rfl rfl (fun j hj => if_neg (show ¬ j = (2 : Int).toNat by omega)) ⟨(if_neg (by decide)).trans e0, (if_neg (by decide)).trans e1, rfl, (if_neg (by decide)).trans e3, (if_neg (by decide)).trans e4, (if_neg (by decide)).trans e5, (if_neg (by decide)).trans e6⟩

theorem updZ_2 (g : Nat → Int) (i : Nat) (x y : Int) : updZ (updZ g i x) i y = updZ g i y := by
  funext j
  show (if j = i then y else (if j = i then x else g j)) = (if j = i then y else g j)
  by_cases h : j = i
  · rw [if_pos h, if_pos h]
  · rw [if_neg h, if_neg h, if_neg h]

set_option maxHeartbeats 4000000 in
theorem m_bestShift (w : av_W) (v p sh ln pr gd co : Int) (c s : Nat → Int) (L : Nat → CV) (n : Int) (S : CV) (hs len : Int) (t : Nat → Int) (g ke : Nat → Int) (h : REFG w g ke (v, p, sh, ln, pr, gd, co, c, s) L n S hs len t) (hW : KW (v, p, sh, ln, pr, gd, co, c, s)) : cl MX5_bestShift [.ref 33] w (fun r' w' => RM w w' r' (sbF (fun x => GA p x ln s) 3).1 (v, p, sh, ln, pr, gd, co, c, s) L n S hs len t) := by
  obtain ⟨x42, ⟨xsp, xrv, xrs, xoa, x33w⟩, ⟨x34w, xV⟩, x35w, -⟩ := id h
  have x33 : 33 < w.1 := by omega
  have x34 : 34 < w.1 := by omega
  have hV : KV (v, p, sh, ln, pr, gd, co, c, s) := hW.1
  have hSV : ∀ j : Nat, (j : Int) < p → s j < v := hW.2
  obtain ⟨hK, hS, hc, hpr⟩ := id hV
  have hK : KR v p sh ln := hK
  have hS : SR s := hS
  have hc : ∀ j : Nat, j < 48 → 0 ≤ c j ∧ c j ≤ 9 := hc
  have hpr : 0 ≤ pr ∧ pr ≤ 99999 := hpr
  obtain ⟨hv, hp, hsh, hln⟩ := id hK
  have xV2 : gV (v, p, sh, ln, pr, gd, co, c, s) g := xV
  obtain ⟨⟨e0, e1, e2, e3, e4, e5, e6⟩, -⟩ := id xV2
  have hGR : GR g := ⟨by omega, by omega, by omega, by omega⟩
  have hGS : GS g := gV_GS xV2 hS
  show rn MX5_bestShift 0 [some (.ref 33), none, none, none, none, none, none] [] w (fun r' w' => RM w w' r' (sbF (fun x => GA p x ln s) 3).1 (v, p, sh, ln, pr, gd, co, c, s) L n S hs len t)
  have lp : ∀ (m : Nat) (k : Int) (B : Int) (F : Int) (l5 : Option Value) (l6 : Option Value) (wA : av_W) (y : Int), ((0 ≤ k ∧ k ≤ 7) ∧ 8 ≤ k + m) → (mbF (fun x => GA p x ln s) k.toNat = (B, F)) → (agO 33 42 w wA) → (-3 ≤ y ∧ y ≤ 3) → (REFG wA (updZ g (2 : Int).toNat y) ke (v, p, y, ln, pr, gd, co, c, s) L n S hs len t) → rn MX5_bestShift 14 [some (.ref 33), some (.int (iN sh)), some (.int (iN B)), some (.int (iN F)), some (.int (iN k)), l5, l6] [] wA (fun r' w' => RM w w' r' (sbF (fun x => GA p x ln s) 3).1 (v, p, sh, ln, pr, gd, co, c, s) L n S hs len t) := by
    intro m
    induction m with
    | zero =>
      intro k B F l5 l6 wA y hk0 hk1 hk2 hk3 hk4
      exfalso
      omega
    | succ m ih =>
      intro k B F l5 l6 wA y hk0 hk1 hk2 hk3 hk4
      obtain ⟨a42, ⟨asp, arv, ars, aoa, a33w⟩, ⟨a34w, aV⟩, a35w, -⟩ := id hk4
      have a33 : 33 < wA.1 := by omega
      have a34 : 34 < wA.1 := by omega
      have rF := mbF_rg (G := (fun x => GA p x ln s)) (fun x => GA_rg hp s) k.toNat
      rw [hk1] at rF
      have rF : -1 ≤ F ∧ F ≤ 1368 := rF
      have hm2 : 0 ≤ k.tmod 2 ∧ k.tmod 2 < 2 := by rw [Int.tmod_eq_emod_of_nonneg hk0.1.1]; omega
      refine r_iload (pc2 := 16) dX5_bestShift_14 rfl rfl ?_
      refine r_bipush (pc2 := 18) dX5_bestShift_16 rfl (by decide) ?_
      refine r_icmp_gt (pc2 := 21) (tgt := 106) dX5_bestShift_18 rfl (by decide) (by omega) (by omega) (fun h18 => ?_) (fun h18 => ?_)
      · refine r_aload_n (pc2 := 107) dX5_bestShift_106 rfl rfl ?_
        refine r_getf (pc2 := 110) dX5_bestShift_107 rfl fl_5_7 (by assumption) (by assumption) (by rfl) ?_
        refine r_iconst (pc2 := 111) dX5_bestShift_110 rfl ?_
        refine r_iload_n (pc2 := 112) dX5_bestShift_111 rfl rfl ?_
        refine r_iast (pc2 := 113) dX5_bestShift_112 rfl (by assumption) (by assumption) (by omega) (by omega) (by omega) ?_
        refine r_iload_n (pc2 := 114) dX5_bestShift_113 rfl rfl ?_
        refine r_ret dX5_bestShift_114 rfl ?_
        have e4 : k = 7 := by omega
        subst e4
        have eu : updZ (updZ g (2 : Int).toNat y) (2 : Int).toNat sh = g := by
          have := updZ_back g (2 : Int).toNat y
          rw [show g (2 : Int).toNat = sh from e2] at this
          exact this
        rw [eu]
        refine RM_of (x := B) ?_ rfl (hk2.trans (agO.wst _ (by omega))) (REFG_34 hk4 xV2)
        have hb : mbF (fun x => GA p x ln s) 7 = (B, F) := hk1
        rw [mbF_7 (fun x => (GA_rg hp s).1)] at hb
        rw [hb]
      · refine r_aload_n (pc2 := 22) dX5_bestShift_21 rfl rfl ?_
        refine r_getf (pc2 := 25) dX5_bestShift_22 rfl fl_5_7 (by assumption) (by assumption) (by rfl) ?_
        refine r_iconst (pc2 := 26) dX5_bestShift_25 rfl ?_
        refine r_iload (pc2 := 28) dX5_bestShift_26 rfl rfl ?_
        refine r_iconst (pc2 := 29) dX5_bestShift_28 rfl ?_
        refine r_irem (pc2 := 30) dX5_bestShift_29 rfl (by omega) (by omega) (by omega) (by omega) ?_
        refine r_iconst (pc2 := 31) dX5_bestShift_30 rfl ?_
        refine r_icmp_ne (pc2 := 34) (tgt := 44) dX5_bestShift_31 rfl (by decide) (by omega) (by omega) (fun h31 => ?_) (fun h31 => ?_)
        · have hq : k.tdiv 2 = shR k.toNat := shR_e hk0.1.1 (by omega)
          refine r_iload (pc2 := 46) dX5_bestShift_44 rfl rfl ?_
          refine r_iconst (pc2 := 47) dX5_bestShift_46 rfl ?_
          refine r_idiv (pc2 := 48) dX5_bestShift_47 rfl (by omega) (by omega) (by omega) (by omega) ?_
          rw [hq]
          refine r_iast (pc2 := 49) dX5_bestShift_48 rfl (by assumption) (by assumption) (by omega) (by omega) (by omega) ?_
          have rK := shR_rg (k := k.toNat) (by omega)
          have z33 : 33 < (wst wA 34 (arO 61 (updZ (updZ g (2 : Int).toNat y) (2 : Int).toNat (shR k.toNat)))).1 := a33
          have z33w := (wst_ne (w := wA) (a := 34) (b := 33) (e := arO 61 (updZ (updZ g (2 : Int).toNat y) (2 : Int).toNat (shR k.toNat))) (by decide)).trans a33w
          have hRK : REFG (wst wA 34 (arO 61 (updZ (updZ g (2 : Int).toNat y) (2 : Int).toNat (shR k.toNat)))) (updZ (updZ g (2 : Int).toNat y) (2 : Int).toNat (shR k.toNat)) ke (v, p, (shR k.toNat), ln, pr, gd, co, c, s) L n S hs len t := REFG_34 hk4 (gV_sh aV (shR k.toNat))
          have rG := GA_rg (p := p) (sh := (shR k.toNat)) (ln := ln) hp s
          refine r_aload_n (pc2 := 50) dX5_bestShift_49 rfl rfl ?_
          refine r_callv_0 (pc2 := 53) dX5_bestShift_50 rfl rs_5_121 rfl (by decide) rfl (Nat.le_of_ble_eq_true rfl) (Nat.le_of_ble_eq_true rfl) (by assumption) (by assumption) (m_ghostsNowC (wst wA 34 (arO 61 (updZ (updZ g (2 : Int).toNat y) (2 : Int).toNat (shR k.toNat)))) v p (shR k.toNat) ln pr gd co c s L n S hs len t (updZ (updZ g (2 : Int).toNat y) (2 : Int).toNat (shR k.toNat)) ke hRK ⟨⟨hv, hp, rK, hln⟩, hS, hc, hpr⟩) (fun r_ w_ h_ => ?_)
          obtain ⟨e_, gr, hr⟩ := h_
          rw [e_]
          clear e_
          obtain ⟨wr, rfl⟩ : ∃ wr, wr = w_ := ⟨_, rfl⟩
          obtain ⟨y42, ⟨ysp, yrv, yrs, yoa, y33w⟩, ⟨y34w, yV⟩, y35w, -⟩ := id hr
          have y33 : 33 < wr.1 := by omega
          have y34 : 34 < wr.1 := by omega
          refine ⟨gr.1, ?_⟩
          refine r_ist_5 (pc2 := 55) dX5_bestShift_53 rfl rfl ?_
          refine r_iload_n (pc2 := 56) dX5_bestShift_55 rfl rfl ?_
          refine r_if_lt (pc2 := 59) (tgt := 65) dX5_bestShift_56 rfl (by decide) (by omega) (fun h56 => ?_) (fun h56 => ?_)
          · refine r_iconst (pc2 := 66) dX5_bestShift_65 rfl ?_
            refine r_goto (tgt := 70) dX5_bestShift_66 (by decide) ?_
            refine r_ist_6 (pc2 := 72) dX5_bestShift_70 rfl rfl ?_
            refine r_iload (pc2 := 74) dX5_bestShift_72 rfl rfl ?_
            refine r_if_eq (pc2 := 77) (tgt := 86) dX5_bestShift_74 rfl (by decide) (by omega) (fun h74 => ?_) (fun h74 => ?_)
            · exfalso
              omega
            · refine r_aload_n (pc2 := 78) dX5_bestShift_77 rfl rfl ?_
              refine r_getf (pc2 := 81) dX5_bestShift_78 rfl fl_5_7 (by assumption) (by assumption) (by rfl) ?_
              refine r_iconst (pc2 := 82) dX5_bestShift_81 rfl ?_
              refine r_ialk (k := 2) (pc2 := 83) dX5_bestShift_82 rfl (by decide) (by assumption) (by assumption) (by omega) (by omega) (by omega) (by decide) ?_
              rw [show (updZ (updZ g (2 : Int).toNat y) (2 : Int).toNat (shR k.toNat)) 2 = shR k.toNat from if_pos (by decide)]
              refine r_goto (tgt := 87) dX5_bestShift_83 (by decide) ?_
              refine r_ist_2 (pc2 := 88) dX5_bestShift_87 rfl rfl ?_
              refine r_iload (pc2 := 90) dX5_bestShift_88 rfl rfl ?_
              refine r_if_eq (pc2 := 93) (tgt := 98) dX5_bestShift_90 rfl (by decide) (by omega) (fun h90 => ?_) (fun h90 => ?_)
              · exfalso
                omega
              · refine r_iload (pc2 := 95) dX5_bestShift_93 rfl rfl ?_
                refine r_goto (tgt := 99) dX5_bestShift_95 (by decide) ?_
                refine r_ist_3 (pc2 := 100) dX5_bestShift_99 rfl rfl ?_
                refine r_iinc_4 (pc2 := 103) dX5_bestShift_100 rfl rfl ?_
                refine r_goto (tgt := 14) dX5_bestShift_103 (by decide) ?_
                have eu : updZ (updZ g (2 : Int).toNat y) (2 : Int).toNat (shR k.toNat) = updZ g (2 : Int).toNat (shR k.toNat) := updZ_2 _ _ _ _
                refine ih (k + 1) _ _ _ _ wr (shR k.toNat) (by omega) ?_ ((hk2.trans (agO.wst _ (by omega))).trans gr) rK (eu ▸ hr)
                rw [mbF_st hk0.1.1, hk1]
                first
                  | exact mbS_t (y := GA p (shR k.toNat) ln s) rfl (by omega)
                  | exact mbS_f (y := GA p (shR k.toNat) ln s) rfl (by omega)
          · refine r_iload (pc2 := 61) dX5_bestShift_59 rfl rfl ?_
            refine r_iload_n (pc2 := 62) dX5_bestShift_61 rfl rfl ?_
            refine r_icmp_ge (pc2 := 65) (tgt := 69) dX5_bestShift_62 rfl (by decide) (by omega) (by omega) (fun h62 => ?_) (fun h62 => ?_)
            · refine r_iconst (pc2 := 70) dX5_bestShift_69 rfl ?_
              refine r_ist_6 (pc2 := 72) dX5_bestShift_70 rfl rfl ?_
              refine r_iload (pc2 := 74) dX5_bestShift_72 rfl rfl ?_
              refine r_if_eq (pc2 := 77) (tgt := 86) dX5_bestShift_74 rfl (by decide) (by omega) (fun h74 => ?_) (fun h74 => ?_)
              · refine r_iload_n (pc2 := 87) dX5_bestShift_86 rfl rfl ?_
                refine r_ist_2 (pc2 := 88) dX5_bestShift_87 rfl rfl ?_
                refine r_iload (pc2 := 90) dX5_bestShift_88 rfl rfl ?_
                refine r_if_eq (pc2 := 93) (tgt := 98) dX5_bestShift_90 rfl (by decide) (by omega) (fun h90 => ?_) (fun h90 => ?_)
                · refine r_iload_n (pc2 := 99) dX5_bestShift_98 rfl rfl ?_
                  refine r_ist_3 (pc2 := 100) dX5_bestShift_99 rfl rfl ?_
                  refine r_iinc_4 (pc2 := 103) dX5_bestShift_100 rfl rfl ?_
                  refine r_goto (tgt := 14) dX5_bestShift_103 (by decide) ?_
                  have eu : updZ (updZ g (2 : Int).toNat y) (2 : Int).toNat (shR k.toNat) = updZ g (2 : Int).toNat (shR k.toNat) := updZ_2 _ _ _ _
                  refine ih (k + 1) _ _ _ _ wr (shR k.toNat) (by omega) ?_ ((hk2.trans (agO.wst _ (by omega))).trans gr) rK (eu ▸ hr)
                  rw [mbF_st hk0.1.1, hk1]
                  first
                    | exact mbS_t (y := GA p (shR k.toNat) ln s) rfl (by omega)
                    | exact mbS_f (y := GA p (shR k.toNat) ln s) rfl (by omega)
                · exfalso
                  omega
              · exfalso
                omega
            · refine r_iconst (pc2 := 66) dX5_bestShift_65 rfl ?_
              refine r_goto (tgt := 70) dX5_bestShift_66 (by decide) ?_
              refine r_ist_6 (pc2 := 72) dX5_bestShift_70 rfl rfl ?_
              refine r_iload (pc2 := 74) dX5_bestShift_72 rfl rfl ?_
              refine r_if_eq (pc2 := 77) (tgt := 86) dX5_bestShift_74 rfl (by decide) (by omega) (fun h74 => ?_) (fun h74 => ?_)
              · exfalso
                omega
              · refine r_aload_n (pc2 := 78) dX5_bestShift_77 rfl rfl ?_
                refine r_getf (pc2 := 81) dX5_bestShift_78 rfl fl_5_7 (by assumption) (by assumption) (by rfl) ?_
                refine r_iconst (pc2 := 82) dX5_bestShift_81 rfl ?_
                refine r_ialk (k := 2) (pc2 := 83) dX5_bestShift_82 rfl (by decide) (by assumption) (by assumption) (by omega) (by omega) (by omega) (by decide) ?_
                rw [show (updZ (updZ g (2 : Int).toNat y) (2 : Int).toNat (shR k.toNat)) 2 = shR k.toNat from if_pos (by decide)]
                refine r_goto (tgt := 87) dX5_bestShift_83 (by decide) ?_
                refine r_ist_2 (pc2 := 88) dX5_bestShift_87 rfl rfl ?_
                refine r_iload (pc2 := 90) dX5_bestShift_88 rfl rfl ?_
                refine r_if_eq (pc2 := 93) (tgt := 98) dX5_bestShift_90 rfl (by decide) (by omega) (fun h90 => ?_) (fun h90 => ?_)
                · exfalso
                  omega
                · refine r_iload (pc2 := 95) dX5_bestShift_93 rfl rfl ?_
                  refine r_goto (tgt := 99) dX5_bestShift_95 (by decide) ?_
                  refine r_ist_3 (pc2 := 100) dX5_bestShift_99 rfl rfl ?_
                  refine r_iinc_4 (pc2 := 103) dX5_bestShift_100 rfl rfl ?_
                  refine r_goto (tgt := 14) dX5_bestShift_103 (by decide) ?_
                  have eu : updZ (updZ g (2 : Int).toNat y) (2 : Int).toNat (shR k.toNat) = updZ g (2 : Int).toNat (shR k.toNat) := updZ_2 _ _ _ _
                  refine ih (k + 1) _ _ _ _ wr (shR k.toNat) (by omega) ?_ ((hk2.trans (agO.wst _ (by omega))).trans gr) rK (eu ▸ hr)
                  rw [mbF_st hk0.1.1, hk1]
                  first
                    | exact mbS_t (y := GA p (shR k.toNat) ln s) rfl (by omega)
                    | exact mbS_f (y := GA p (shR k.toNat) ln s) rfl (by omega)
        · have hq : (-(k + 1)).tdiv 2 = shR k.toNat := shR_o hk0.1.1 (by omega)
          refine r_iload (pc2 := 36) dX5_bestShift_34 rfl rfl ?_
          refine r_iconst (pc2 := 37) dX5_bestShift_36 rfl ?_
          refine r_iadd (pc2 := 38) dX5_bestShift_37 rfl ?_
          refine r_ineg (pc2 := 39) dX5_bestShift_38 rfl ?_
          refine r_iconst (pc2 := 40) dX5_bestShift_39 rfl ?_
          refine r_idiv (pc2 := 41) dX5_bestShift_40 rfl (by omega) (by omega) (by omega) (by omega) ?_
          refine r_goto (tgt := 48) dX5_bestShift_41 (by decide) ?_
          rw [hq]
          refine r_iast (pc2 := 49) dX5_bestShift_48 rfl (by assumption) (by assumption) (by omega) (by omega) (by omega) ?_
          have rK := shR_rg (k := k.toNat) (by omega)
          have z33 : 33 < (wst wA 34 (arO 61 (updZ (updZ g (2 : Int).toNat y) (2 : Int).toNat (shR k.toNat)))).1 := a33
          have z33w := (wst_ne (w := wA) (a := 34) (b := 33) (e := arO 61 (updZ (updZ g (2 : Int).toNat y) (2 : Int).toNat (shR k.toNat))) (by decide)).trans a33w
          have hRK : REFG (wst wA 34 (arO 61 (updZ (updZ g (2 : Int).toNat y) (2 : Int).toNat (shR k.toNat)))) (updZ (updZ g (2 : Int).toNat y) (2 : Int).toNat (shR k.toNat)) ke (v, p, (shR k.toNat), ln, pr, gd, co, c, s) L n S hs len t := REFG_34 hk4 (gV_sh aV (shR k.toNat))
          have rG := GA_rg (p := p) (sh := (shR k.toNat)) (ln := ln) hp s
          refine r_aload_n (pc2 := 50) dX5_bestShift_49 rfl rfl ?_
          refine r_callv_0 (pc2 := 53) dX5_bestShift_50 rfl rs_5_121 rfl (by decide) rfl (Nat.le_of_ble_eq_true rfl) (Nat.le_of_ble_eq_true rfl) (by assumption) (by assumption) (m_ghostsNowC (wst wA 34 (arO 61 (updZ (updZ g (2 : Int).toNat y) (2 : Int).toNat (shR k.toNat)))) v p (shR k.toNat) ln pr gd co c s L n S hs len t (updZ (updZ g (2 : Int).toNat y) (2 : Int).toNat (shR k.toNat)) ke hRK ⟨⟨hv, hp, rK, hln⟩, hS, hc, hpr⟩) (fun r_ w_ h_ => ?_)
          obtain ⟨e_, gr, hr⟩ := h_
          rw [e_]
          clear e_
          obtain ⟨wr, rfl⟩ : ∃ wr, wr = w_ := ⟨_, rfl⟩
          obtain ⟨y42, ⟨ysp, yrv, yrs, yoa, y33w⟩, ⟨y34w, yV⟩, y35w, -⟩ := id hr
          have y33 : 33 < wr.1 := by omega
          have y34 : 34 < wr.1 := by omega
          refine ⟨gr.1, ?_⟩
          refine r_ist_5 (pc2 := 55) dX5_bestShift_53 rfl rfl ?_
          refine r_iload_n (pc2 := 56) dX5_bestShift_55 rfl rfl ?_
          refine r_if_lt (pc2 := 59) (tgt := 65) dX5_bestShift_56 rfl (by decide) (by omega) (fun h56 => ?_) (fun h56 => ?_)
          · refine r_iconst (pc2 := 66) dX5_bestShift_65 rfl ?_
            refine r_goto (tgt := 70) dX5_bestShift_66 (by decide) ?_
            refine r_ist_6 (pc2 := 72) dX5_bestShift_70 rfl rfl ?_
            refine r_iload (pc2 := 74) dX5_bestShift_72 rfl rfl ?_
            refine r_if_eq (pc2 := 77) (tgt := 86) dX5_bestShift_74 rfl (by decide) (by omega) (fun h74 => ?_) (fun h74 => ?_)
            · exfalso
              omega
            · refine r_aload_n (pc2 := 78) dX5_bestShift_77 rfl rfl ?_
              refine r_getf (pc2 := 81) dX5_bestShift_78 rfl fl_5_7 (by assumption) (by assumption) (by rfl) ?_
              refine r_iconst (pc2 := 82) dX5_bestShift_81 rfl ?_
              refine r_ialk (k := 2) (pc2 := 83) dX5_bestShift_82 rfl (by decide) (by assumption) (by assumption) (by omega) (by omega) (by omega) (by decide) ?_
              rw [show (updZ (updZ g (2 : Int).toNat y) (2 : Int).toNat (shR k.toNat)) 2 = shR k.toNat from if_pos (by decide)]
              refine r_goto (tgt := 87) dX5_bestShift_83 (by decide) ?_
              refine r_ist_2 (pc2 := 88) dX5_bestShift_87 rfl rfl ?_
              refine r_iload (pc2 := 90) dX5_bestShift_88 rfl rfl ?_
              refine r_if_eq (pc2 := 93) (tgt := 98) dX5_bestShift_90 rfl (by decide) (by omega) (fun h90 => ?_) (fun h90 => ?_)
              · exfalso
                omega
              · refine r_iload (pc2 := 95) dX5_bestShift_93 rfl rfl ?_
                refine r_goto (tgt := 99) dX5_bestShift_95 (by decide) ?_
                refine r_ist_3 (pc2 := 100) dX5_bestShift_99 rfl rfl ?_
                refine r_iinc_4 (pc2 := 103) dX5_bestShift_100 rfl rfl ?_
                refine r_goto (tgt := 14) dX5_bestShift_103 (by decide) ?_
                have eu : updZ (updZ g (2 : Int).toNat y) (2 : Int).toNat (shR k.toNat) = updZ g (2 : Int).toNat (shR k.toNat) := updZ_2 _ _ _ _
                refine ih (k + 1) _ _ _ _ wr (shR k.toNat) (by omega) ?_ ((hk2.trans (agO.wst _ (by omega))).trans gr) rK (eu ▸ hr)
                rw [mbF_st hk0.1.1, hk1]
                first
                  | exact mbS_t (y := GA p (shR k.toNat) ln s) rfl (by omega)
                  | exact mbS_f (y := GA p (shR k.toNat) ln s) rfl (by omega)
          · refine r_iload (pc2 := 61) dX5_bestShift_59 rfl rfl ?_
            refine r_iload_n (pc2 := 62) dX5_bestShift_61 rfl rfl ?_
            refine r_icmp_ge (pc2 := 65) (tgt := 69) dX5_bestShift_62 rfl (by decide) (by omega) (by omega) (fun h62 => ?_) (fun h62 => ?_)
            · refine r_iconst (pc2 := 70) dX5_bestShift_69 rfl ?_
              refine r_ist_6 (pc2 := 72) dX5_bestShift_70 rfl rfl ?_
              refine r_iload (pc2 := 74) dX5_bestShift_72 rfl rfl ?_
              refine r_if_eq (pc2 := 77) (tgt := 86) dX5_bestShift_74 rfl (by decide) (by omega) (fun h74 => ?_) (fun h74 => ?_)
              · refine r_iload_n (pc2 := 87) dX5_bestShift_86 rfl rfl ?_
                refine r_ist_2 (pc2 := 88) dX5_bestShift_87 rfl rfl ?_
                refine r_iload (pc2 := 90) dX5_bestShift_88 rfl rfl ?_
                refine r_if_eq (pc2 := 93) (tgt := 98) dX5_bestShift_90 rfl (by decide) (by omega) (fun h90 => ?_) (fun h90 => ?_)
                · refine r_iload_n (pc2 := 99) dX5_bestShift_98 rfl rfl ?_
                  refine r_ist_3 (pc2 := 100) dX5_bestShift_99 rfl rfl ?_
                  refine r_iinc_4 (pc2 := 103) dX5_bestShift_100 rfl rfl ?_
                  refine r_goto (tgt := 14) dX5_bestShift_103 (by decide) ?_
                  have eu : updZ (updZ g (2 : Int).toNat y) (2 : Int).toNat (shR k.toNat) = updZ g (2 : Int).toNat (shR k.toNat) := updZ_2 _ _ _ _
                  refine ih (k + 1) _ _ _ _ wr (shR k.toNat) (by omega) ?_ ((hk2.trans (agO.wst _ (by omega))).trans gr) rK (eu ▸ hr)
                  rw [mbF_st hk0.1.1, hk1]
                  first
                    | exact mbS_t (y := GA p (shR k.toNat) ln s) rfl (by omega)
                    | exact mbS_f (y := GA p (shR k.toNat) ln s) rfl (by omega)
                · exfalso
                  omega
              · exfalso
                omega
            · refine r_iconst (pc2 := 66) dX5_bestShift_65 rfl ?_
              refine r_goto (tgt := 70) dX5_bestShift_66 (by decide) ?_
              refine r_ist_6 (pc2 := 72) dX5_bestShift_70 rfl rfl ?_
              refine r_iload (pc2 := 74) dX5_bestShift_72 rfl rfl ?_
              refine r_if_eq (pc2 := 77) (tgt := 86) dX5_bestShift_74 rfl (by decide) (by omega) (fun h74 => ?_) (fun h74 => ?_)
              · exfalso
                omega
              · refine r_aload_n (pc2 := 78) dX5_bestShift_77 rfl rfl ?_
                refine r_getf (pc2 := 81) dX5_bestShift_78 rfl fl_5_7 (by assumption) (by assumption) (by rfl) ?_
                refine r_iconst (pc2 := 82) dX5_bestShift_81 rfl ?_
                refine r_ialk (k := 2) (pc2 := 83) dX5_bestShift_82 rfl (by decide) (by assumption) (by assumption) (by omega) (by omega) (by omega) (by decide) ?_
                rw [show (updZ (updZ g (2 : Int).toNat y) (2 : Int).toNat (shR k.toNat)) 2 = shR k.toNat from if_pos (by decide)]
                refine r_goto (tgt := 87) dX5_bestShift_83 (by decide) ?_
                refine r_ist_2 (pc2 := 88) dX5_bestShift_87 rfl rfl ?_
                refine r_iload (pc2 := 90) dX5_bestShift_88 rfl rfl ?_
                refine r_if_eq (pc2 := 93) (tgt := 98) dX5_bestShift_90 rfl (by decide) (by omega) (fun h90 => ?_) (fun h90 => ?_)
                · exfalso
                  omega
                · refine r_iload (pc2 := 95) dX5_bestShift_93 rfl rfl ?_
                  refine r_goto (tgt := 99) dX5_bestShift_95 (by decide) ?_
                  refine r_ist_3 (pc2 := 100) dX5_bestShift_99 rfl rfl ?_
                  refine r_iinc_4 (pc2 := 103) dX5_bestShift_100 rfl rfl ?_
                  refine r_goto (tgt := 14) dX5_bestShift_103 (by decide) ?_
                  have eu : updZ (updZ g (2 : Int).toNat y) (2 : Int).toNat (shR k.toNat) = updZ g (2 : Int).toNat (shR k.toNat) := updZ_2 _ _ _ _
                  refine ih (k + 1) _ _ _ _ wr (shR k.toNat) (by omega) ?_ ((hk2.trans (agO.wst _ (by omega))).trans gr) rK (eu ▸ hr)
                  rw [mbF_st hk0.1.1, hk1]
                  first
                    | exact mbS_t (y := GA p (shR k.toNat) ln s) rfl (by omega)
                    | exact mbS_f (y := GA p (shR k.toNat) ln s) rfl (by omega)
  refine r_aload_n (pc2 := 1) dX5_bestShift_0 rfl rfl ?_
  refine r_getf (pc2 := 4) dX5_bestShift_1 rfl fl_5_7 (by assumption) (by assumption) (by rfl) ?_
  refine r_iconst (pc2 := 5) dX5_bestShift_4 rfl ?_
  refine r_ialk (k := 2) (pc2 := 6) dX5_bestShift_5 rfl (by decide) (by assumption) (by assumption) (by omega) (by omega) (by omega) (by decide) ?_
  rw [show g 2 = sh from e2]
  refine r_ist_1 (pc2 := 7) dX5_bestShift_6 rfl rfl ?_
  refine r_iconst (pc2 := 8) dX5_bestShift_7 rfl ?_
  refine r_ist_2 (pc2 := 9) dX5_bestShift_8 rfl rfl ?_
  refine r_iconst (pc2 := 10) dX5_bestShift_9 rfl ?_
  refine r_ist_3 (pc2 := 11) dX5_bestShift_10 rfl rfl ?_
  refine r_iconst (pc2 := 12) dX5_bestShift_11 rfl ?_
  refine r_ist_4 (pc2 := 14) dX5_bestShift_12 rfl rfl ?_
  have eu : updZ g (2 : Int).toNat sh = g := by
    have := updZ_id g (2 : Int).toNat
    rw [show g (2 : Int).toNat = sh from e2] at this
    exact this
  exact lp 8 0 0 (-1) none none w sh (by omega) rfl agO.rf hsh (eu.symm ▸ h)
