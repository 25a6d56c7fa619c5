/-! the class: trials, count -/

def o_count (V : CV) (n len k : Int) : Int := match V with
  | (v, p, sh, ln, pr, gd, co, c, s) => if k = 0 then v else if k = 1 then p else if k = 2 then sh else if k = 3 then ln else if k = 4 then GA p sh ln s else if k = 5 then 19 - asF p s (ssF p sh ln) (cnA p 19) (-1) else if k = 6 then wvF p v s (ssF p sh ln) (cnA p 19) else if k = 7 then pr else if k = 8 then gd else if k = 9 then pr - gd else if k = 10 then co else if k = 11 then n else if k = 12 then len else -102

set_option maxHeartbeats 4000000 in
theorem c_count (w : av_W) (v p sh ln pr gd co : Int) (c s : Nat → Int) (L : Nat → CV) (n : Int) (S : CV) (hs len : Int) (t : Nat → Int) (h : CLS w (v, p, sh, ln, pr, gd, co, c, s) L n S hs len t) (hV : KV (v, p, sh, ln, pr, gd, co, c, s)) (hn : 0 ≤ n ∧ n ≤ 4) (k : Int) (hk : RG k) : cl MX4_count [.ref 0, .int (iN k)] w (fun r' w' => RC w w' r' (o_count (v, p, sh, ln, pr, gd, co, c, s) n len k) (v, p, sh, ln, pr, gd, co, c, s) L n S hs len t) := by
  obtain ⟨x33, x0w, xC, ⟨xf, xg, xG⟩, ⟨xT, xTV⟩, ⟨xf2, xg2, xH⟩, ⟨xb, xB⟩, ⟨xq, xP⟩, xS, ⟨xk, xX⟩⟩ := id h
  have x0 : 0 < w.1 := by omega
  have xC : Cd w 2 3 4 v p sh ln pr gd co c s := xC
  obtain ⟨⟨x1, x1w⟩, -⟩ := id xC
  have x14 : 14 < w.1 := by omega
  have x14w := xP.1
  obtain ⟨hK, hS, hc, hpr⟩ := id hV
  have hK : KR v p sh ln := hK
  have hS : SR s := hS
  have hc : ∀ j : Nat, j < 48 → 0 ≤ c j ∧ c j ≤ 9 := hc
  have hpr : 0 ≤ pr ∧ pr ≤ 99999 := hpr
  obtain ⟨hv, hp, hsh, hln⟩ := id hK
  have hkR : -2147483648 ≤ k ∧ k < 2147483648 := hk
  obtain ⟨⟨x31, x31w⟩, -⟩ := id xX
  show rn MX4_count 0 [some (.ref 0), some (.int (iN k))] [] w _
  refine r_iload_n (pc2 := 1) dX4_count_0 rfl rfl ?_
  refine r_tab (len := 67) dX4_count_1 ⟨by omega, by omega⟩ (fun hD => ⟨180, by decide, ?_⟩) (fun hI => ?_)
  · refine r_bipush (pc2 := 182) dX4_count_180 rfl (by decide) ?_
    refine r_ret dX4_count_182 rfl ?_
    refine RC_of (x := -102) ?_ rfl agO.rf h
    show (if k = 0 then v else if k = 1 then p else if k = 2 then sh else if k = 3 then ln else if k = 4 then GA p sh ln s else if k = 5 then 19 - asF p s (ssF p sh ln) (cnA p 19) (-1) else if k = 6 then wvF p v s (ssF p sh ln) (cnA p 19) else if k = 7 then pr else if k = 8 then gd else if k = 9 then pr - gd else if k = 10 then co else if k = 11 then n else if k = 12 then len else -102) = _
    rw [if_neg (by omega), if_neg (by omega), if_neg (by omega), if_neg (by omega), if_neg (by omega), if_neg (by omega), if_neg (by omega), if_neg (by omega), if_neg (by omega), if_neg (by omega), if_neg (by omega), if_neg (by omega), if_neg (by omega)]
  · have hcase : k = 0 ∨ k = 1 ∨ k = 2 ∨ k = 3 ∨ k = 4 ∨ k = 5 ∨ k = 6 ∨ k = 7 ∨ k = 8 ∨ k = 9 ∨ k = 10 ∨ k = 11 ∨ k = 12 := by omega
    rcases hcase with hX0 | hX1 | hX2 | hX3 | hX4 | hX5 | hX6 | hX7 | hX8 | hX9 | hX10 | hX11 | hX12
    · refine ⟨67, 68, by rw [hX0]; rfl, by decide, ?_⟩
      refine r_aload_n (pc2 := 69) dX4_count_68 rfl rfl ?_
      refine r_getf (pc2 := 72) dX4_count_69 rfl fl_4_20 (by assumption) (by assumption) (by rfl) ?_
      refine r_getf (pc2 := 75) dX4_count_72 rfl fl_4_78 (by assumption) (by assumption) (by rfl) ?_
      refine r_ret dX4_count_75 rfl ?_
      refine RC_of (x := v) ?_ rfl agO.rf h
      show (if k = 0 then v else if k = 1 then p else if k = 2 then sh else if k = 3 then ln else if k = 4 then GA p sh ln s else if k = 5 then 19 - asF p s (ssF p sh ln) (cnA p 19) (-1) else if k = 6 then wvF p v s (ssF p sh ln) (cnA p 19) else if k = 7 then pr else if k = 8 then gd else if k = 9 then pr - gd else if k = 10 then co else if k = 11 then n else if k = 12 then len else -102) = _
      rw [if_pos (by omega)]
    · refine ⟨75, 76, by rw [hX1]; rfl, by decide, ?_⟩
      refine r_aload_n (pc2 := 77) dX4_count_76 rfl rfl ?_
      refine r_getf (pc2 := 80) dX4_count_77 rfl fl_4_20 (by assumption) (by assumption) (by rfl) ?_
      refine r_getf (pc2 := 83) dX4_count_80 rfl fl_4_92 (by assumption) (by assumption) (by rfl) ?_
      refine r_ret dX4_count_83 rfl ?_
      refine RC_of (x := p) ?_ rfl agO.rf h
      show (if k = 0 then v else if k = 1 then p else if k = 2 then sh else if k = 3 then ln else if k = 4 then GA p sh ln s else if k = 5 then 19 - asF p s (ssF p sh ln) (cnA p 19) (-1) else if k = 6 then wvF p v s (ssF p sh ln) (cnA p 19) else if k = 7 then pr else if k = 8 then gd else if k = 9 then pr - gd else if k = 10 then co else if k = 11 then n else if k = 12 then len else -102) = _
      rw [if_neg (by omega), if_pos (by omega)]
    · refine ⟨83, 84, by rw [hX2]; rfl, by decide, ?_⟩
      refine r_aload_n (pc2 := 85) dX4_count_84 rfl rfl ?_
      refine r_getf (pc2 := 88) dX4_count_85 rfl fl_4_20 (by assumption) (by assumption) (by rfl) ?_
      refine r_getf (pc2 := 91) dX4_count_88 rfl fl_4_109 (by assumption) (by assumption) (by rfl) ?_
      refine r_ret dX4_count_91 rfl ?_
      refine RC_of (x := sh) ?_ rfl agO.rf h
      show (if k = 0 then v else if k = 1 then p else if k = 2 then sh else if k = 3 then ln else if k = 4 then GA p sh ln s else if k = 5 then 19 - asF p s (ssF p sh ln) (cnA p 19) (-1) else if k = 6 then wvF p v s (ssF p sh ln) (cnA p 19) else if k = 7 then pr else if k = 8 then gd else if k = 9 then pr - gd else if k = 10 then co else if k = 11 then n else if k = 12 then len else -102) = _
      rw [if_neg (by omega), if_neg (by omega), if_pos (by omega)]
    · refine ⟨91, 92, by rw [hX3]; rfl, by decide, ?_⟩
      refine r_aload_n (pc2 := 93) dX4_count_92 rfl rfl ?_
      refine r_getf (pc2 := 96) dX4_count_93 rfl fl_4_20 (by assumption) (by assumption) (by rfl) ?_
      refine r_getf (pc2 := 99) dX4_count_96 rfl fl_4_112 (by assumption) (by assumption) (by rfl) ?_
      refine r_ret dX4_count_99 rfl ?_
      refine RC_of (x := ln) ?_ rfl agO.rf h
      show (if k = 0 then v else if k = 1 then p else if k = 2 then sh else if k = 3 then ln else if k = 4 then GA p sh ln s else if k = 5 then 19 - asF p s (ssF p sh ln) (cnA p 19) (-1) else if k = 6 then wvF p v s (ssF p sh ln) (cnA p 19) else if k = 7 then pr else if k = 8 then gd else if k = 9 then pr - gd else if k = 10 then co else if k = 11 then n else if k = 12 then len else -102) = _
      rw [if_neg (by omega), if_neg (by omega), if_neg (by omega), if_pos (by omega)]
    · refine ⟨99, 100, by rw [hX4]; rfl, by decide, ?_⟩
      refine r_aload_n (pc2 := 101) dX4_count_100 rfl rfl ?_
      refine r_callv_0 (pc2 := 104) dX4_count_101 rfl rs_4_126 rfl (by decide) rfl (Nat.le_of_ble_eq_true rfl) (Nat.le_of_ble_eq_true rfl) (by assumption) (by assumption) (c_lookC _ v p sh ln pr gd co c s _ _ _ _ _ _ h hK) (fun r_ w_ h_ => ?_)
      obtain ⟨e_, qgr, qhl, qqf, qqg, qqG⟩ := h_
      rw [e_]
      clear e_
      obtain ⟨wq, rfl⟩ : ∃ wq, wq = w_ := ⟨_, rfl⟩
      obtain ⟨q33, q0w, qC, ⟨qf, qg, qG⟩, ⟨qT, qTV⟩, ⟨qf2, qg2, qH⟩, ⟨qb, qB⟩, ⟨qq, qP⟩, qS, ⟨qk, qX⟩⟩ := id qhl
      have q0 : 0 < wq.1 := by omega
      have qC : Cd wq 2 3 4 v p sh ln pr gd co c s := qC
      obtain ⟨⟨q1, q1w⟩, -⟩ := id qC
      have q14 : 14 < wq.1 := by omega
      have q14w := qP.1
      obtain ⟨⟨q4, q4w⟩, -⟩ := id qqG
      refine ⟨qgr.1, ?_⟩
      refine r_callv_0 (pc2 := 107) dX4_count_104 rfl rs_4_130 rfl (by decide) rfl (Nat.le_of_ble_eq_true rfl) (Nat.le_of_ble_eq_true rfl) (by assumption) (by assumption) (c_ghostsAll _ 2 3 4 v p sh ln pr gd co c s qC hK hS 1 5 6 _ _ qqG (ss5 hp _)) (fun r_ w_ h_ => ?_)
      rw [h_.1, h_.2]
      clear h_ w_ r_
      refine ⟨rfl, ?_⟩
      rw [GA_of hp]
      refine r_ret dX4_count_107 rfl ?_
      refine RC_of (x := GA p sh ln s) ?_ rfl (qgr.mono (by omega) (by omega)) qhl
      show (if k = 0 then v else if k = 1 then p else if k = 2 then sh else if k = 3 then ln else if k = 4 then GA p sh ln s else if k = 5 then 19 - asF p s (ssF p sh ln) (cnA p 19) (-1) else if k = 6 then wvF p v s (ssF p sh ln) (cnA p 19) else if k = 7 then pr else if k = 8 then gd else if k = 9 then pr - gd else if k = 10 then co else if k = 11 then n else if k = 12 then len else -102) = _
      rw [if_neg (by omega), if_neg (by omega), if_neg (by omega), if_neg (by omega), if_pos (by omega)]
    · refine ⟨107, 108, by rw [hX5]; rfl, by decide, ?_⟩
      refine r_aload_n (pc2 := 109) dX4_count_108 rfl rfl ?_
      refine r_callv_0 (pc2 := 112) dX4_count_109 rfl rs_4_126 rfl (by decide) rfl (Nat.le_of_ble_eq_true rfl) (Nat.le_of_ble_eq_true rfl) (by assumption) (by assumption) (c_lookC _ v p sh ln pr gd co c s _ _ _ _ _ _ h hK) (fun r_ w_ h_ => ?_)
      obtain ⟨e_, qgr, qhl, qqf, qqg, qqG⟩ := h_
      rw [e_]
      clear e_
      obtain ⟨wq, rfl⟩ : ∃ wq, wq = w_ := ⟨_, rfl⟩
      obtain ⟨q33, q0w, qC, ⟨qf, qg, qG⟩, ⟨qT, qTV⟩, ⟨qf2, qg2, qH⟩, ⟨qb, qB⟩, ⟨qq, qP⟩, qS, ⟨qk, qX⟩⟩ := id qhl
      have q0 : 0 < wq.1 := by omega
      have qC : Cd wq 2 3 4 v p sh ln pr gd co c s := qC
      obtain ⟨⟨q1, q1w⟩, -⟩ := id qC
      have q14 : 14 < wq.1 := by omega
      have q14w := qP.1
      obtain ⟨⟨q4, q4w⟩, -⟩ := id qqG
      refine ⟨qgr.1, ?_⟩
      refine r_callv_0 (pc2 := 115) dX4_count_112 rfl rs_4_231 rfl (by decide) rfl (Nat.le_of_ble_eq_true rfl) (Nat.le_of_ble_eq_true rfl) (by assumption) (by assumption) (c_anyWhole _ 2 3 4 v p sh ln pr gd co c s qC hK hS 1 5 6 _ _ qqG (ss5 hp _)) (fun r_ w_ h_ => ?_)
      rw [h_.1, h_.2]
      clear h_ w_ r_
      refine ⟨rfl, ?_⟩
      rw [asF_fg hp ss_of cn_of]
      refine r_ret dX4_count_115 rfl ?_
      refine RC_of (x := 19 - asF p s (ssF p sh ln) (cnA p 19) (-1)) ?_ rfl (qgr.mono (by omega) (by omega)) qhl
      show (if k = 0 then v else if k = 1 then p else if k = 2 then sh else if k = 3 then ln else if k = 4 then GA p sh ln s else if k = 5 then 19 - asF p s (ssF p sh ln) (cnA p 19) (-1) else if k = 6 then wvF p v s (ssF p sh ln) (cnA p 19) else if k = 7 then pr else if k = 8 then gd else if k = 9 then pr - gd else if k = 10 then co else if k = 11 then n else if k = 12 then len else -102) = _
      rw [if_neg (by omega), if_neg (by omega), if_neg (by omega), if_neg (by omega), if_neg (by omega), if_pos (by omega)]
    · refine ⟨115, 116, by rw [hX6]; rfl, by decide, ?_⟩
      refine r_aload_n (pc2 := 117) dX4_count_116 rfl rfl ?_
      refine r_callv_0 (pc2 := 120) dX4_count_117 rfl rs_4_126 rfl (by decide) rfl (Nat.le_of_ble_eq_true rfl) (Nat.le_of_ble_eq_true rfl) (by assumption) (by assumption) (c_lookC _ v p sh ln pr gd co c s _ _ _ _ _ _ h hK) (fun r_ w_ h_ => ?_)
      obtain ⟨e_, qgr, qhl, qqf, qqg, qqG⟩ := h_
      rw [e_]
      clear e_
      obtain ⟨wq, rfl⟩ : ∃ wq, wq = w_ := ⟨_, rfl⟩
      obtain ⟨q33, q0w, qC, ⟨qf, qg, qG⟩, ⟨qT, qTV⟩, ⟨qf2, qg2, qH⟩, ⟨qb, qB⟩, ⟨qq, qP⟩, qS, ⟨qk, qX⟩⟩ := id qhl
      have q0 : 0 < wq.1 := by omega
      have qC : Cd wq 2 3 4 v p sh ln pr gd co c s := qC
      obtain ⟨⟨q1, q1w⟩, -⟩ := id qC
      have q14 : 14 < wq.1 := by omega
      have q14w := qP.1
      obtain ⟨⟨q4, q4w⟩, -⟩ := id qqG
      refine ⟨qgr.1, ?_⟩
      refine r_callv_0 (pc2 := 123) dX4_count_120 rfl rs_4_144 rfl (by decide) rfl (Nat.le_of_ble_eq_true rfl) (Nat.le_of_ble_eq_true rfl) (by assumption) (by assumption) (c_wholeViews _ 2 3 4 v p sh ln pr gd co c s qC hK hS 1 5 6 _ _ qqG (ss5 hp _) (cnA_19 _)) (fun r_ w_ h_ => ?_)
      rw [h_.1, h_.2]
      clear h_ w_ r_
      refine ⟨rfl, ?_⟩
      rw [wvF_fg hp ss_of cn_of]
      refine r_ret dX4_count_123 rfl ?_
      refine RC_of (x := wvF p v s (ssF p sh ln) (cnA p 19)) ?_ rfl (qgr.mono (by omega) (by omega)) qhl
      show (if k = 0 then v else if k = 1 then p else if k = 2 then sh else if k = 3 then ln else if k = 4 then GA p sh ln s else if k = 5 then 19 - asF p s (ssF p sh ln) (cnA p 19) (-1) else if k = 6 then wvF p v s (ssF p sh ln) (cnA p 19) else if k = 7 then pr else if k = 8 then gd else if k = 9 then pr - gd else if k = 10 then co else if k = 11 then n else if k = 12 then len else -102) = _
      rw [if_neg (by omega), if_neg (by omega), if_neg (by omega), if_neg (by omega), if_neg (by omega), if_neg (by omega), if_pos (by omega)]
    · refine ⟨123, 124, by rw [hX7]; rfl, by decide, ?_⟩
      refine r_aload_n (pc2 := 125) dX4_count_124 rfl rfl ?_
      refine r_getf (pc2 := 128) dX4_count_125 rfl fl_4_20 (by assumption) (by assumption) (by rfl) ?_
      refine r_getf (pc2 := 131) dX4_count_128 rfl fl_4_140 (by assumption) (by assumption) (by rfl) ?_
      refine r_ret dX4_count_131 rfl ?_
      refine RC_of (x := pr) ?_ rfl agO.rf h
      show (if k = 0 then v else if k = 1 then p else if k = 2 then sh else if k = 3 then ln else if k = 4 then GA p sh ln s else if k = 5 then 19 - asF p s (ssF p sh ln) (cnA p 19) (-1) else if k = 6 then wvF p v s (ssF p sh ln) (cnA p 19) else if k = 7 then pr else if k = 8 then gd else if k = 9 then pr - gd else if k = 10 then co else if k = 11 then n else if k = 12 then len else -102) = _
      rw [if_neg (by omega), if_neg (by omega), if_neg (by omega), if_neg (by omega), if_neg (by omega), if_neg (by omega), if_neg (by omega), if_pos (by omega)]
    · refine ⟨131, 132, by rw [hX8]; rfl, by decide, ?_⟩
      refine r_aload_n (pc2 := 133) dX4_count_132 rfl rfl ?_
      refine r_getf (pc2 := 136) dX4_count_133 rfl fl_4_20 (by assumption) (by assumption) (by rfl) ?_
      refine r_getf (pc2 := 139) dX4_count_136 rfl fl_4_147 (by assumption) (by assumption) (by rfl) ?_
      refine r_ret dX4_count_139 rfl ?_
      refine RC_of (x := gd) ?_ rfl agO.rf h
      show (if k = 0 then v else if k = 1 then p else if k = 2 then sh else if k = 3 then ln else if k = 4 then GA p sh ln s else if k = 5 then 19 - asF p s (ssF p sh ln) (cnA p 19) (-1) else if k = 6 then wvF p v s (ssF p sh ln) (cnA p 19) else if k = 7 then pr else if k = 8 then gd else if k = 9 then pr - gd else if k = 10 then co else if k = 11 then n else if k = 12 then len else -102) = _
      rw [if_neg (by omega), if_neg (by omega), if_neg (by omega), if_neg (by omega), if_neg (by omega), if_neg (by omega), if_neg (by omega), if_neg (by omega), if_pos (by omega)]
    · refine ⟨139, 140, by rw [hX9]; rfl, by decide, ?_⟩
      refine r_aload_n (pc2 := 141) dX4_count_140 rfl rfl ?_
      refine r_getf (pc2 := 144) dX4_count_141 rfl fl_4_20 (by assumption) (by assumption) (by rfl) ?_
      refine r_getf (pc2 := 147) dX4_count_144 rfl fl_4_140 (by assumption) (by assumption) (by rfl) ?_
      refine r_aload_n (pc2 := 148) dX4_count_147 rfl rfl ?_
      refine r_getf (pc2 := 151) dX4_count_148 rfl fl_4_20 (by assumption) (by assumption) (by rfl) ?_
      refine r_getf (pc2 := 154) dX4_count_151 rfl fl_4_147 (by assumption) (by assumption) (by rfl) ?_
      refine r_isub (pc2 := 155) dX4_count_154 rfl ?_
      refine r_ret dX4_count_155 rfl ?_
      refine RC_of (x := pr - gd) ?_ rfl agO.rf h
      show (if k = 0 then v else if k = 1 then p else if k = 2 then sh else if k = 3 then ln else if k = 4 then GA p sh ln s else if k = 5 then 19 - asF p s (ssF p sh ln) (cnA p 19) (-1) else if k = 6 then wvF p v s (ssF p sh ln) (cnA p 19) else if k = 7 then pr else if k = 8 then gd else if k = 9 then pr - gd else if k = 10 then co else if k = 11 then n else if k = 12 then len else -102) = _
      rw [if_neg (by omega), if_neg (by omega), if_neg (by omega), if_neg (by omega), if_neg (by omega), if_neg (by omega), if_neg (by omega), if_neg (by omega), if_neg (by omega), if_pos (by omega)]
    · refine ⟨155, 156, by rw [hX10]; rfl, by decide, ?_⟩
      refine r_aload_n (pc2 := 157) dX4_count_156 rfl rfl ?_
      refine r_getf (pc2 := 160) dX4_count_157 rfl fl_4_20 (by assumption) (by assumption) (by rfl) ?_
      refine r_getf (pc2 := 163) dX4_count_160 rfl fl_4_150 (by assumption) (by assumption) (by rfl) ?_
      refine r_ret dX4_count_163 rfl ?_
      refine RC_of (x := co) ?_ rfl agO.rf h
      show (if k = 0 then v else if k = 1 then p else if k = 2 then sh else if k = 3 then ln else if k = 4 then GA p sh ln s else if k = 5 then 19 - asF p s (ssF p sh ln) (cnA p 19) (-1) else if k = 6 then wvF p v s (ssF p sh ln) (cnA p 19) else if k = 7 then pr else if k = 8 then gd else if k = 9 then pr - gd else if k = 10 then co else if k = 11 then n else if k = 12 then len else -102) = _
      rw [if_neg (by omega), if_neg (by omega), if_neg (by omega), if_neg (by omega), if_neg (by omega), if_neg (by omega), if_neg (by omega), if_neg (by omega), if_neg (by omega), if_neg (by omega), if_pos (by omega)]
    · refine ⟨163, 164, by rw [hX11]; rfl, by decide, ?_⟩
      refine r_aload_n (pc2 := 165) dX4_count_164 rfl rfl ?_
      refine r_getf (pc2 := 168) dX4_count_165 rfl fl_4_34 (by assumption) (by assumption) (by rfl) ?_
      refine r_getf (pc2 := 171) dX4_count_168 rfl fl_4_167 (by assumption) (by assumption) (by rfl) ?_
      refine r_ret dX4_count_171 rfl ?_
      refine RC_of (x := n) ?_ rfl agO.rf h
      show (if k = 0 then v else if k = 1 then p else if k = 2 then sh else if k = 3 then ln else if k = 4 then GA p sh ln s else if k = 5 then 19 - asF p s (ssF p sh ln) (cnA p 19) (-1) else if k = 6 then wvF p v s (ssF p sh ln) (cnA p 19) else if k = 7 then pr else if k = 8 then gd else if k = 9 then pr - gd else if k = 10 then co else if k = 11 then n else if k = 12 then len else -102) = _
      rw [if_neg (by omega), if_neg (by omega), if_neg (by omega), if_neg (by omega), if_neg (by omega), if_neg (by omega), if_neg (by omega), if_neg (by omega), if_neg (by omega), if_neg (by omega), if_neg (by omega), if_pos (by omega)]
    · refine ⟨171, 172, by rw [hX12]; rfl, by decide, ?_⟩
      refine r_aload_n (pc2 := 173) dX4_count_172 rfl rfl ?_
      refine r_getf (pc2 := 176) dX4_count_173 rfl fl_4_51 (by assumption) (by assumption) (by rfl) ?_
      refine r_getf (pc2 := 179) dX4_count_176 rfl fl_4_161 (by assumption) (by assumption) (by rfl) ?_
      refine r_ret dX4_count_179 rfl ?_
      refine RC_of (x := len) ?_ rfl agO.rf h
      show (if k = 0 then v else if k = 1 then p else if k = 2 then sh else if k = 3 then ln else if k = 4 then GA p sh ln s else if k = 5 then 19 - asF p s (ssF p sh ln) (cnA p 19) (-1) else if k = 6 then wvF p v s (ssF p sh ln) (cnA p 19) else if k = 7 then pr else if k = 8 then gd else if k = 9 then pr - gd else if k = 10 then co else if k = 11 then n else if k = 12 then len else -102) = _
      rw [if_neg (by omega), if_neg (by omega), if_neg (by omega), if_neg (by omega), if_neg (by omega), if_neg (by omega), if_neg (by omega), if_neg (by omega), if_neg (by omega), if_neg (by omega), if_neg (by omega), if_neg (by omega), if_pos (by omega)]

def o_ifSlice (V : CV) (a b : Int) : Int := match V with
  | (v, p, sh, ln, pr, gd, co, c, s) => if ¬ ((0 ≤ a ∧ a ≤ p - 1) ∧ (0 ≤ b ∧ b ≤ v - 1)) then -101 else GA p sh ln (updZ s a.toNat b)

set_option maxHeartbeats 4000000 in
theorem c_ifSlice (w : av_W) (v p sh ln pr gd co : Int) (c s : Nat → Int) (L : Nat → CV) (n : Int) (S : CV) (hs len : Int) (t : Nat → Int) (h : CLS w (v, p, sh, ln, pr, gd, co, c, s) L n S hs len t) (hV : KV (v, p, sh, ln, pr, gd, co, c, s)) (hn : 0 ≤ n ∧ n ≤ 4) (a b : Int) (ha : RG a) (hb : RG b) : cl MX4_ifSlice [.ref 0, .int (iN a), .int (iN b)] w (fun r' w' => RC w w' r' (o_ifSlice (v, p, sh, ln, pr, gd, co, c, s) a b) (v, p, sh, ln, pr, gd, co, c, s) L n S hs len t) := by
  obtain ⟨x33, x0w, xC, ⟨xf, xg, xG⟩, ⟨xT, xTV⟩, ⟨xf2, xg2, xH⟩, ⟨xb, xB⟩, ⟨xq, xP⟩, xS, ⟨xk, xX⟩⟩ := id h
  have x0 : 0 < w.1 := by omega
  have xC : Cd w 2 3 4 v p sh ln pr gd co c s := xC
  obtain ⟨⟨x1, x1w⟩, -⟩ := id xC
  have x14 : 14 < w.1 := by omega
  have x14w := xP.1
  obtain ⟨hK, hS, hc, hpr⟩ := id hV
  have hK : KR v p sh ln := hK
  have hS : SR s := hS
  have hc : ∀ j : Nat, j < 48 → 0 ≤ c j ∧ c j ≤ 9 := hc
  have hpr : 0 ≤ pr ∧ pr ≤ 99999 := hpr
  obtain ⟨hv, hp, hsh, hln⟩ := id hK
  have haR : -2147483648 ≤ a ∧ a < 2147483648 := ha
  have hbR : -2147483648 ≤ b ∧ b < 2147483648 := hb
  have m7 := xTV.cell.1
  have m7w := xTV.cell.2
  have g1 : agO 8 11 w (cpW w 8 xT (v, p, sh, ln, pr, gd, co, c, s)) := cpW_ag (by omega)
  have x1 : Cd (cpW w 8 xT (v, p, sh, ln, pr, gd, co, c, s)) 8 9 10 v p sh ln pr gd co (preF 48 c xT.2.2.2.2.2.2.2.1) (preF 6 s xT.2.2.2.2.2.2.2.2) := cpW_V xTV
  obtain ⟨⟨n7, n7w⟩, -⟩ := id x1
  have n0 : 0 < (cpW w 8 xT (v, p, sh, ln, pr, gd, co, c, s)).1 := x0
  have n0w : (cpW w 8 xT (v, p, sh, ln, pr, gd, co, c, s)).2.2 0 = maO hs := (g1.2 0 (by omega)).trans x0w
  have g2 : agO 8 11 w (wst (cpW w 8 xT (v, p, sh, ln, pr, gd, co, c, s)) 10 (arO 6 (updZ (preF 6 s xT.2.2.2.2.2.2.2.2) a.toNat b))) := g1.trans (agO.wst _ (by omega))
  have x2 : Cd (wst (cpW w 8 xT (v, p, sh, ln, pr, gd, co, c, s)) 10 (arO 6 (updZ (preF 6 s xT.2.2.2.2.2.2.2.2) a.toNat b))) 8 9 10 v p sh ln pr gd co (preF 48 c xT.2.2.2.2.2.2.2.1) (updZ (preF 6 s xT.2.2.2.2.2.2.2.2) a.toNat b) := x1.slc _
  have y2 : Sg (wst (cpW w 8 xT (v, p, sh, ln, pr, gd, co, c, s)) 10 (arO 6 (updZ (preF 6 s xT.2.2.2.2.2.2.2.2) a.toNat b))) 8 7 11 12 xf2 xg2 := xH.ag g2 (by omega) (by omega) (by omega)
  obtain ⟨⟨k10, k10w⟩, -⟩ := id y2
  have k0 : 0 < (wst (cpW w 8 xT (v, p, sh, ln, pr, gd, co, c, s)) 10 (arO 6 (updZ (preF 6 s xT.2.2.2.2.2.2.2.2) a.toNat b))).1 := x0
  have k0w : (wst (cpW w 8 xT (v, p, sh, ln, pr, gd, co, c, s)) 10 (arO 6 (updZ (preF 6 s xT.2.2.2.2.2.2.2.2) a.toNat b))).2.2 0 = maO hs := (g2.2 0 (by omega)).trans x0w
  have g3 : agO 7 13 w (w2W (wst (cpW w 8 xT (v, p, sh, ln, pr, gd, co, c, s)) 10 (arO 6 (updZ (preF 6 s xT.2.2.2.2.2.2.2.2) a.toNat b))) 11 12 (arO 72 (preF 72 (ssF p sh ln) xf2)) (arO 6 (preF 6 (cnA p 19) xg2))) := (g2.mono (by omega) (by omega)).trans (agO_w2W _ _ (by omega))
  have x3 : Cd (w2W (wst (cpW w 8 xT (v, p, sh, ln, pr, gd, co, c, s)) 10 (arO 6 (updZ (preF 6 s xT.2.2.2.2.2.2.2.2) a.toNat b))) 11 12 (arO 72 (preF 72 (ssF p sh ln) xf2)) (arO 6 (preF 6 (cnA p 19) xg2))) 8 9 10 v p sh ln pr gd co (preF 48 c xT.2.2.2.2.2.2.2.1) (updZ (preF 6 s xT.2.2.2.2.2.2.2.2) a.toNat b) := Cd_w2W x2 _ _ (by unfold aps; decide)
  have y3 := y2.set (preF 72 (ssF p sh ln) xf2) (preF 6 (cnA p 19) xg2)
  obtain ⟨⟨l10, l10w⟩, -⟩ := id y3
  have l0 : 0 < (w2W (wst (cpW w 8 xT (v, p, sh, ln, pr, gd, co, c, s)) 10 (arO 6 (updZ (preF 6 s xT.2.2.2.2.2.2.2.2) a.toNat b))) 11 12 (arO 72 (preF 72 (ssF p sh ln) xf2)) (arO 6 (preF 6 (cnA p 19) xg2))).1 := x0
  have l0w : (w2W (wst (cpW w 8 xT (v, p, sh, ln, pr, gd, co, c, s)) 10 (arO 6 (updZ (preF 6 s xT.2.2.2.2.2.2.2.2) a.toNat b))) 11 12 (arO 72 (preF 72 (ssF p sh ln) xf2)) (arO 6 (preF 6 (cnA p 19) xg2))).2.2 0 = maO hs := (g3.2 0 (by omega)).trans x0w
  show rn MX4_ifSlice 0 [some (.ref 0), some (.int (iN a)), some (.int (iN b))] [] w _
  refine r_aload_n (pc2 := 1) dX4_ifSlice_0 rfl rfl ?_
  refine r_getf (pc2 := 4) dX4_ifSlice_1 rfl fl_4_20 (by assumption) (by assumption) (by rfl) ?_
  refine r_iload_n (pc2 := 5) dX4_ifSlice_4 rfl rfl ?_
  refine r_callv_1 (pc2 := 8) dX4_ifSlice_5 rfl rs_4_98 rfl (by decide) rfl (Nat.le_of_ble_eq_true rfl) (Nat.le_of_ble_eq_true rfl) (by assumption) (by assumption) (c_hasSlice w 2 3 4 v p sh ln pr gd co c s xC hK a ha) (fun r_ w_ h_ => ?_)
  rw [h_.1, h_.2]
  clear h_ w_ r_
  refine ⟨rfl, ?_⟩
  refine r_ifb_eq (pc2 := 11) (tgt := 22) dX4_ifSlice_8 rfl (by decide)  (fun h8 => ?_) (fun h8 => ?_)
  · refine r_bipush (pc2 := 24) dX4_ifSlice_22 rfl (by decide) ?_
    refine r_ret dX4_ifSlice_24 rfl ?_
    refine RC_of (x := -101) ?_ rfl agO.rf h
    show (if ¬ ((0 ≤ a ∧ a ≤ p - 1) ∧ (0 ≤ b ∧ b ≤ v - 1)) then -101 else GA p sh ln (updZ s a.toNat b)) = _
    rw [if_pos (by omega)]
  · refine r_aload_n (pc2 := 12) dX4_ifSlice_11 rfl rfl ?_
    refine r_getf (pc2 := 15) dX4_ifSlice_12 rfl fl_4_20 (by assumption) (by assumption) (by rfl) ?_
    refine r_iload_n (pc2 := 16) dX4_ifSlice_15 rfl rfl ?_
    refine r_callv_1 (pc2 := 19) dX4_ifSlice_16 rfl rs_4_55 rfl (by decide) rfl (Nat.le_of_ble_eq_true rfl) (Nat.le_of_ble_eq_true rfl) (by assumption) (by assumption) (c_hasView w 2 3 4 v p sh ln pr gd co c s xC hK b hb) (fun r_ w_ h_ => ?_)
    rw [h_.1, h_.2]
    clear h_ w_ r_
    refine ⟨rfl, ?_⟩
    refine r_ifb_ne (pc2 := 22) (tgt := 25) dX4_ifSlice_19 rfl (by decide)  (fun h19 => ?_) (fun h19 => ?_)
    · refine r_aload_n (pc2 := 26) dX4_ifSlice_25 rfl rfl ?_
      refine r_getf (pc2 := 29) dX4_ifSlice_26 rfl fl_4_24 (by assumption) (by assumption) (by rfl) ?_
      refine r_aload_n (pc2 := 30) dX4_ifSlice_29 rfl rfl ?_
      refine r_getf (pc2 := 33) dX4_ifSlice_30 rfl fl_4_20 (by assumption) (by assumption) (by rfl) ?_
      refine r_callv_1 (pc2 := 36) dX4_ifSlice_33 rfl rs_4_173 rfl (by decide) rfl (Nat.le_of_ble_eq_true rfl) (Nat.le_of_ble_eq_true rfl) (by assumption) (by assumption) (c_copyV w 8 2 xT (v, p, sh, ln, pr, gd, co, c, s) xTV xC (by omega)) (fun r_ w_ h_ => ?_)
      rw [h_.1, h_.2]
      clear h_ w_ r_
      refine ⟨rfl, ?_⟩
      refine r_aload_n (pc2 := 37) dX4_ifSlice_36 rfl rfl ?_
      refine r_getf (pc2 := 40) dX4_ifSlice_37 rfl fl_4_24 (by assumption) (by assumption) (by rfl) ?_
      refine r_iload_n (pc2 := 41) dX4_ifSlice_40 rfl rfl ?_
      refine r_iload_n (pc2 := 42) dX4_ifSlice_41 rfl rfl ?_
      refine r_callv_2 (pc2 := 45) dX4_ifSlice_42 rfl rs_4_105 rfl (by decide) rfl (Nat.le_of_ble_eq_true rfl) (Nat.le_of_ble_eq_true rfl) (by assumption) (by assumption) (c_putSlice _ 8 9 10 v p sh ln pr gd co _ _ x1 hK a b (by omega)) (fun r_ w_ h_ => ?_)
      rw [h_.1, h_.2]
      clear h_ w_ r_
      refine ⟨rfl, ?_⟩
      refine r_aload_n (pc2 := 46) dX4_ifSlice_45 rfl rfl ?_
      refine r_getf (pc2 := 49) dX4_ifSlice_46 rfl fl_4_21 (by assumption) (by assumption) (by rfl) ?_
      refine r_callv_0 (pc2 := 52) dX4_ifSlice_49 rfl rs_4_228 rfl (by decide) rfl (Nat.le_of_ble_eq_true rfl) (Nat.le_of_ble_eq_true rfl) (by assumption) (by assumption) (c_aim _ 8 9 10 v p sh ln pr gd co _ _ x2 hK 7 11 12 xf2 xg2 y2 (by unfold aps; decide)) (fun r_ w_ h_ => ?_)
      rw [h_.1, h_.2]
      clear h_ w_ r_
      refine ⟨rfl, ?_⟩
      refine r_aload_n (pc2 := 53) dX4_ifSlice_52 rfl rfl ?_
      refine r_getf (pc2 := 56) dX4_ifSlice_53 rfl fl_4_21 (by assumption) (by assumption) (by rfl) ?_
      refine r_callv_0 (pc2 := 59) dX4_ifSlice_56 rfl rs_4_130 rfl (by decide) rfl (Nat.le_of_ble_eq_true rfl) (Nat.le_of_ble_eq_true rfl) (by assumption) (by assumption) (c_ghostsAll _ 8 9 10 v p sh ln pr gd co _ _ x3 hK (fun j hj => by show 0 ≤ (if j = a.toNat then b else (preF 6 s xT.2.2.2.2.2.2.2.2) j) ∧ (if j = a.toNat then b else (preF 6 s xT.2.2.2.2.2.2.2.2) j) ≤ 3; split <;> first | omega | exact SR_pre hS j hj) 7 11 12 _ _ y3 (ss5 hp _)) (fun r_ w_ h_ => ?_)
      rw [h_.1, h_.2]
      clear h_ w_ r_
      refine ⟨rfl, ?_⟩
      rw [GA_of hp, GA_s (s := (updZ (preF 6 s xT.2.2.2.2.2.2.2.2) a.toNat b)) (t := updZ s a.toNat b) hp (fun j hj => by show (if j = a.toNat then b else preF 6 s xT.2.2.2.2.2.2.2.2 j) = (if j = a.toNat then b else s j); rw [preF_lt (by omega)])]
      refine r_ret dX4_ifSlice_59 rfl ?_
      refine RC_of (x := GA p sh ln (updZ s a.toNat b)) ?_ rfl (g3.mono (by omega) (by omega)) (CLS_tr h (g3.mono (by omega) (by omega)) ⟨(v, p, sh, ln, pr, gd, co, _, _), x3⟩ ⟨_, _, y3⟩ ⟨xb, (g3.2 13 (by omega)).trans xB⟩)
      show (if ¬ ((0 ≤ a ∧ a ≤ p - 1) ∧ (0 ≤ b ∧ b ≤ v - 1)) then -101 else GA p sh ln (updZ s a.toNat b)) = _
      rw [if_neg (by omega)]
    · refine r_bipush (pc2 := 24) dX4_ifSlice_22 rfl (by decide) ?_
      refine r_ret dX4_ifSlice_24 rfl ?_
      refine RC_of (x := -101) ?_ rfl agO.rf h
      show (if ¬ ((0 ≤ a ∧ a ≤ p - 1) ∧ (0 ≤ b ∧ b ≤ v - 1)) then -101 else GA p sh ln (updZ s a.toNat b)) = _
      rw [if_pos (by omega)]

def sbS (G : Int → Int) (q : Int × Int) (x : Int) : Int × Int := if G x < q.2 then (x, G x) else q
def sbF (G : Int → Int) : Nat → Int × Int
  | 0 => (0, G 0)
  | d + 1 => sbS G (sbS G (sbF G d) (-((d : Int) + 1))) ((d : Int) + 1)
theorem sbF_step {G : Int → Int} {d : Int} (hd : 1 ≤ d) : sbF G (d + 1 - 1).toNat = sbS G (sbS G (sbF G (d - 1).toNat) (-d)) d := by
  have e : (d + 1 - 1).toNat = (d - 1).toNat + 1 := by omega
  rw [e]
  show sbS G (sbS G (sbF G (d - 1).toNat) (-(((d - 1).toNat : Int) + 1))) (((d - 1).toNat : Int) + 1) = _
  rw [show (((d - 1).toNat : Nat) : Int) + 1 = d by omega]
theorem sbS_t {G : Int → Int} {B F x y : Int} (e : G x = y) (h : y < F) : sbS G (B, F) x = (x, y) := by
  unfold sbS
  rw [e, if_pos h]
theorem sbS_f {G : Int → Int} {B F x y : Int} (e : G x = y) (h : F ≤ y) : sbS G (B, F) x = (B, F) := by
  unfold sbS
  rw [e, if_neg (by dsimp only; omega)]
theorem sbF_rg {G : Int → Int} (h : ∀ x, 0 ≤ G x ∧ G x ≤ 1368) : ∀ d : Nat, 0 ≤ (sbF G d).2 ∧ (sbF G d).2 ≤ 1368 := by
  have st : ∀ q x, (0 ≤ q.2 ∧ q.2 ≤ 1368) → 0 ≤ (sbS G q x).2 ∧ (sbS G q x).2 ≤ 1368 := by
    intro q x hq
    unfold sbS
    split
    · exact h x
    · exact hq
  intro d
  induction d with
  | zero => exact h 0
  | succ d ih => exact st _ _ (st _ _ ih)
theorem c_wsC (w : av_W) (h33 : 33 ≤ w.1) (hs : Int) (hM : w.2.2 0 = maO hs) (v p sh ln pr gd co : Int) (c s : Nat → Int) (hC : Cd w 8 9 10 v p sh ln pr gd co c s) (hK : KR v p sh ln) (hS : SR s) (f g : Nat → Int) (hG : Sg w 8 7 11 12 f g) (x : Int) (hx : -3 ≤ x ∧ x ≤ 3) : cl MX4_ghostsWithShift [.ref 0, .int (iN x)] w (fun r' w' => r' = some (.int (iN (GA p x ln s))) ∧ agO 7 13 w w' ∧ Cd w' 8 9 10 v p x ln pr gd co c s ∧ ∃ f2 g2, Sg w' 8 7 11 12 f2 g2) := by
  refine (c_withShift w h33 hs hM v p sh ln pr gd co c s hC hK hS f g hG x hx).imp (fun r' w' q => ?_)
  obtain ⟨e1, e2⟩ := q
  rw [e1, e2]
  have g1 : agO 8 9 w (wst w 8 (cdO 9 10 v p x ln pr gd co)) := agO.wst _ (by omega)
  have hG2 : Sg (wst w 8 (cdO 9 10 v p x ln pr gd co)) 8 7 11 12 f g := hG.ag g1 (by omega) (by omega) (by omega)
  exact ⟨rfl, (g1.mono (by omega) (by omega)).trans (agO_w2W _ _ (by omega)), Cd_w2W (hC.obj v p x ln pr gd co) _ _ (by unfold aps; decide), _, _, hG2.set _ _⟩

set_option maxHeartbeats 4000000 in
theorem c_bestShift (w : av_W) (v p sh ln pr gd co : Int) (c s : Nat → Int) (L : Nat → CV) (n : Int) (S : CV) (hs len : Int) (t : Nat → Int) (h : CLS w (v, p, sh, ln, pr, gd, co, c, s) L n S hs len t) (hV : KV (v, p, sh, ln, pr, gd, co, c, s)) (hn : 0 ≤ n ∧ n ≤ 4) : cl MX4_bestShift [.ref 0] w (fun r' w' => RC w w' r' (sbF (fun x => GA p x ln s) 3).1 (v, p, sh, ln, pr, gd, co, c, s) L n S hs len t) := by
  obtain ⟨x33, x0w, xC, ⟨xf, xg, xG⟩, ⟨xT, xTV⟩, ⟨xf2, xg2, xH⟩, ⟨xb, xB⟩, ⟨xq, xP⟩, xS, ⟨xk, xX⟩⟩ := id h
  have x0 : 0 < w.1 := by omega
  have xC : Cd w 2 3 4 v p sh ln pr gd co c s := xC
  obtain ⟨⟨x1, x1w⟩, -⟩ := id xC
  have x14 : 14 < w.1 := by omega
  have x14w := xP.1
  obtain ⟨hK, hS, hc, hpr⟩ := id hV
  have hK : KR v p sh ln := hK
  have hS : SR s := hS
  have hc : ∀ j : Nat, j < 48 → 0 ≤ c j ∧ c j ≤ 9 := hc
  have hpr : 0 ≤ pr ∧ pr ≤ 99999 := hpr
  obtain ⟨hv, hp, hsh, hln⟩ := id hK
  have m7 := xTV.cell.1
  have m7w := xTV.cell.2
  have g1 : agO 8 11 w (cpW w 8 xT (v, p, sh, ln, pr, gd, co, c, s)) := cpW_ag (by omega)
  have x1 : Cd (cpW w 8 xT (v, p, sh, ln, pr, gd, co, c, s)) 8 9 10 v p sh ln pr gd co (preF 48 c xT.2.2.2.2.2.2.2.1) (preF 6 s xT.2.2.2.2.2.2.2.2) := cpW_V xTV
  have a1 : agO 7 13 w (cpW w 8 xT (v, p, sh, ln, pr, gd, co, c, s)) := g1.mono (by omega) (by omega)
  have y1 : Sg (cpW w 8 xT (v, p, sh, ln, pr, gd, co, c, s)) 8 7 11 12 xf2 xg2 := xH.ag g1 (by omega) (by omega) (by omega)
  have n0 : 0 < (cpW w 8 xT (v, p, sh, ln, pr, gd, co, c, s)).1 := x0
  have n0w : (cpW w 8 xT (v, p, sh, ln, pr, gd, co, c, s)).2.2 0 = maO hs := (g1.2 0 (by omega)).trans x0w
  show rn MX4_bestShift 0 [some (.ref 0), none, none, none, none, none] [] w (fun r' w' => RC w w' r' (sbF (fun x => GA p x ln s) 3).1 (v, p, sh, ln, pr, gd, co, c, s) L n S hs len t)
  have lp : ∀ (m : Nat) (d : Int) (B : Int) (F : Int) (l4 : Option Value) (l5 : Option Value) (wA : av_W) (y : Int) (fA : Nat → Int) (gA : Nat → Int), (4 - d < m) → (1 ≤ d ∧ d ≤ 4) → (sbF (fun x => GA p x ln s) (d - 1).toNat = (B, F)) → (agO 7 13 w wA) → (-3 ≤ y ∧ y ≤ 3) → (Cd wA 8 9 10 v p y ln pr gd co (preF 48 c xT.2.2.2.2.2.2.2.1) (preF 6 s xT.2.2.2.2.2.2.2.2)) → (Sg wA 8 7 11 12 fA gA) → rn MX4_bestShift 21 [some (.ref 0), some (.int (iN B)), some (.int (iN F)), some (.int (iN d)), l4, l5] [] wA (fun r' w' => RC w w' r' (sbF (fun x => GA p x ln s) 3).1 (v, p, sh, ln, pr, gd, co, c, s) L n S hs len t) := by
    intro m
    induction m with
    | zero =>
      intro d B F l4 l5 wA y fA gA hk0 hk1 hk2 hk3 hk4 hk5 hk6
      exfalso
      omega
    | succ m ih =>
      intro d B F l4 l5 wA y fA gA hk0 hk1 hk2 hk3 hk4 hk5 hk6
      have rF := sbF_rg (G := (fun x => GA p x ln s)) (fun x => GA_rg hp s) (d - 1).toNat
      rw [hk2] at rF
      have rF : 0 ≤ F ∧ F ≤ 1368 := rF
      have r1 := GA_rg (p := p) (sh := -d) (ln := ln) hp s
      have r2 := GA_rg (p := p) (sh := d) (ln := ln) hp s
      have aA := hk3
      have zA : 0 < wA.1 := by rw [aA.1]; exact x0
      have zAw : wA.2.2 0 = maO hs := (aA.2 0 (by omega)).trans x0w
      have zA33 : 33 ≤ wA.1 := by rw [aA.1]; exact x33
      refine r_iload_n (pc2 := 22) dX4_bestShift_21 rfl rfl ?_
      refine r_iconst (pc2 := 23) dX4_bestShift_22 rfl ?_
      refine r_icmp_gt (pc2 := 26) (tgt := 70) dX4_bestShift_23 rfl (by decide) (by omega) (by omega) (fun h23 => ?_) (fun h23 => ?_)
      · refine r_iload_n (pc2 := 71) dX4_bestShift_70 rfl rfl ?_
        refine r_ret dX4_bestShift_71 rfl ?_
        have e4 : d = 4 := by omega
        subst e4
        refine RC_of (x := B) ?_ rfl (aA.mono (by omega) (by omega)) (CLS_tr h (aA.mono (by omega) (by omega)) ⟨(v, p, y, ln, pr, gd, co, _, _), hk5⟩ ⟨_, _, hk6⟩ ⟨xb, (aA.2 13 (by omega)).trans xB⟩)
        have hk2b : sbF (fun x => GA p x ln s) 3 = (B, F) := hk2
        rw [hk2b]
      · refine r_aload_n (pc2 := 27) dX4_bestShift_26 rfl rfl ?_
        refine r_iload_n (pc2 := 28) dX4_bestShift_27 rfl rfl ?_
        refine r_ineg (pc2 := 29) dX4_bestShift_28 rfl ?_
        refine r_callv_1 (pc2 := 32) dX4_bestShift_29 rfl rs_4_225 rfl (by decide) rfl (Nat.le_of_ble_eq_true rfl) (Nat.le_of_ble_eq_true rfl) (by assumption) (by assumption) (c_wsC wA zA33 hs zAw v p y ln pr gd co _ _ hk5 ⟨hv, hp, hk4, hln⟩ (SR_pre hS) fA gA hk6 (-d) (by omega)) (fun r_ w_ h_ => ?_)
        obtain ⟨e_, gB, CB, fB, ggB, GB⟩ := h_
        rw [e_]
        clear e_
        obtain ⟨wB, rfl⟩ : ∃ wB, wB = w_ := ⟨_, rfl⟩
        have aB : agO 7 13 w wB := aA.trans gB
        have zB : 0 < wB.1 := by rw [aB.1]; exact x0
        have zBw : wB.2.2 0 = maO hs := (aB.2 0 (by omega)).trans x0w
        have zB33 : 33 ≤ wB.1 := by rw [aB.1]; exact x33
        rw [GA_s (s := preF 6 s xT.2.2.2.2.2.2.2.2) (t := s) hp (fun j hj => preF_lt (by omega))]
        refine ⟨gB.1, ?_⟩
        refine r_ist_4 (pc2 := 34) dX4_bestShift_32 rfl rfl ?_
        refine r_iload (pc2 := 36) dX4_bestShift_34 rfl rfl ?_
        refine r_iload_n (pc2 := 37) dX4_bestShift_36 rfl rfl ?_
        refine r_icmp_ge (pc2 := 40) (tgt := 46) dX4_bestShift_37 rfl (by decide) (by omega) (by omega) (fun h37 => ?_) (fun h37 => ?_)
        · have hq : sbS (fun x => GA p x ln s) (B, F) (-d) = (B, F) := sbS_f (y := GA p (-d) ln s) rfl (by omega)
          refine r_aload_n (pc2 := 47) dX4_bestShift_46 rfl rfl ?_
          refine r_iload_n (pc2 := 48) dX4_bestShift_47 rfl rfl ?_
          refine r_callv_1 (pc2 := 51) dX4_bestShift_48 rfl rs_4_225 rfl (by decide) rfl (Nat.le_of_ble_eq_true rfl) (Nat.le_of_ble_eq_true rfl) (by assumption) (by assumption) (c_wsC wB zB33 hs zBw v p (-d) ln pr gd co _ _ CB ⟨hv, hp, by omega, hln⟩ (SR_pre hS) _ _ GB d (by omega)) (fun r_ w_ h_ => ?_)
          obtain ⟨e_, gC, CC, fC, ggC, GC⟩ := h_
          rw [e_]
          clear e_
          obtain ⟨wC, rfl⟩ : ∃ wC, wC = w_ := ⟨_, rfl⟩
          have aC : agO 7 13 w wC := aB.trans gC
          have zC : 0 < wC.1 := by rw [aC.1]; exact x0
          have zCw : wC.2.2 0 = maO hs := (aC.2 0 (by omega)).trans x0w
          have zC33 : 33 ≤ wC.1 := by rw [aC.1]; exact x33
          rw [GA_s (s := preF 6 s xT.2.2.2.2.2.2.2.2) (t := s) hp (fun j hj => preF_lt (by omega))]
          refine ⟨gC.1, ?_⟩
          refine r_ist_5 (pc2 := 53) dX4_bestShift_51 rfl rfl ?_
          refine r_iload (pc2 := 55) dX4_bestShift_53 rfl rfl ?_
          refine r_iload_n (pc2 := 56) dX4_bestShift_55 rfl rfl ?_
          refine r_icmp_ge (pc2 := 59) (tgt := 64) dX4_bestShift_56 rfl (by decide) (by omega) (by omega) (fun h56 => ?_) (fun h56 => ?_)
          · refine r_iinc_3 (pc2 := 67) dX4_bestShift_64 rfl rfl ?_
            refine r_goto (tgt := 21) dX4_bestShift_67 (by decide) ?_
            refine ih (d + 1) _ _ _ _ wC d _ _ (by omega) (by omega) ?_ aC (by omega) CC GC
            rw [sbF_step (by omega), hk2, hq]
            first
              | exact sbS_t rfl (by omega)
              | exact sbS_f (y := GA p d ln s) rfl (by omega)
          · refine r_iload (pc2 := 61) dX4_bestShift_59 rfl rfl ?_
            refine r_ist_2 (pc2 := 62) dX4_bestShift_61 rfl rfl ?_
            refine r_iload_n (pc2 := 63) dX4_bestShift_62 rfl rfl ?_
            refine r_ist_1 (pc2 := 64) dX4_bestShift_63 rfl rfl ?_
            refine r_iinc_3 (pc2 := 67) dX4_bestShift_64 rfl rfl ?_
            refine r_goto (tgt := 21) dX4_bestShift_67 (by decide) ?_
            refine ih (d + 1) _ _ _ _ wC d _ _ (by omega) (by omega) ?_ aC (by omega) CC GC
            rw [sbF_step (by omega), hk2, hq]
            first
              | exact sbS_t rfl (by omega)
              | exact sbS_f (y := GA p d ln s) rfl (by omega)
        · have hq : sbS (fun x => GA p x ln s) (B, F) (-d) = (-d, GA p (-d) ln s) := sbS_t rfl (by omega)
          refine r_iload (pc2 := 42) dX4_bestShift_40 rfl rfl ?_
          refine r_ist_2 (pc2 := 43) dX4_bestShift_42 rfl rfl ?_
          refine r_iload_n (pc2 := 44) dX4_bestShift_43 rfl rfl ?_
          refine r_ineg (pc2 := 45) dX4_bestShift_44 rfl ?_
          refine r_ist_1 (pc2 := 46) dX4_bestShift_45 rfl rfl ?_
          refine r_aload_n (pc2 := 47) dX4_bestShift_46 rfl rfl ?_
          refine r_iload_n (pc2 := 48) dX4_bestShift_47 rfl rfl ?_
          refine r_callv_1 (pc2 := 51) dX4_bestShift_48 rfl rs_4_225 rfl (by decide) rfl (Nat.le_of_ble_eq_true rfl) (Nat.le_of_ble_eq_true rfl) (by assumption) (by assumption) (c_wsC wB zB33 hs zBw v p (-d) ln pr gd co _ _ CB ⟨hv, hp, by omega, hln⟩ (SR_pre hS) _ _ GB d (by omega)) (fun r_ w_ h_ => ?_)
          obtain ⟨e_, gC, CC, fC, ggC, GC⟩ := h_
          rw [e_]
          clear e_
          obtain ⟨wC, rfl⟩ : ∃ wC, wC = w_ := ⟨_, rfl⟩
          have aC : agO 7 13 w wC := aB.trans gC
          have zC : 0 < wC.1 := by rw [aC.1]; exact x0
          have zCw : wC.2.2 0 = maO hs := (aC.2 0 (by omega)).trans x0w
          have zC33 : 33 ≤ wC.1 := by rw [aC.1]; exact x33
          rw [GA_s (s := preF 6 s xT.2.2.2.2.2.2.2.2) (t := s) hp (fun j hj => preF_lt (by omega))]
          refine ⟨gC.1, ?_⟩
          refine r_ist_5 (pc2 := 53) dX4_bestShift_51 rfl rfl ?_
          refine r_iload (pc2 := 55) dX4_bestShift_53 rfl rfl ?_
          refine r_iload_n (pc2 := 56) dX4_bestShift_55 rfl rfl ?_
          refine r_icmp_ge (pc2 := 59) (tgt := 64) dX4_bestShift_56 rfl (by decide) (by omega) (by omega) (fun h56 => ?_) (fun h56 => ?_)
          · refine r_iinc_3 (pc2 := 67) dX4_bestShift_64 rfl rfl ?_
            refine r_goto (tgt := 21) dX4_bestShift_67 (by decide) ?_
            refine ih (d + 1) _ _ _ _ wC d _ _ (by omega) (by omega) ?_ aC (by omega) CC GC
            rw [sbF_step (by omega), hk2, hq]
            first
              | exact sbS_t rfl (by omega)
              | exact sbS_f (y := GA p d ln s) rfl (by omega)
          · refine r_iload (pc2 := 61) dX4_bestShift_59 rfl rfl ?_
            refine r_ist_2 (pc2 := 62) dX4_bestShift_61 rfl rfl ?_
            refine r_iload_n (pc2 := 63) dX4_bestShift_62 rfl rfl ?_
            refine r_ist_1 (pc2 := 64) dX4_bestShift_63 rfl rfl ?_
            refine r_iinc_3 (pc2 := 67) dX4_bestShift_64 rfl rfl ?_
            refine r_goto (tgt := 21) dX4_bestShift_67 (by decide) ?_
            refine ih (d + 1) _ _ _ _ wC d _ _ (by omega) (by omega) ?_ aC (by omega) CC GC
            rw [sbF_step (by omega), hk2, hq]
            first
              | exact sbS_t rfl (by omega)
              | exact sbS_f (y := GA p d ln s) rfl (by omega)
  refine r_aload_n (pc2 := 1) dX4_bestShift_0 rfl rfl ?_
  refine r_getf (pc2 := 4) dX4_bestShift_1 rfl fl_4_24 (by assumption) (by assumption) (by rfl) ?_
  refine r_aload_n (pc2 := 5) dX4_bestShift_4 rfl rfl ?_
  refine r_getf (pc2 := 8) dX4_bestShift_5 rfl fl_4_20 (by assumption) (by assumption) (by rfl) ?_
  refine r_callv_1 (pc2 := 11) dX4_bestShift_8 rfl rs_4_173 rfl (by decide) rfl (Nat.le_of_ble_eq_true rfl) (Nat.le_of_ble_eq_true rfl) (by assumption) (by assumption) (c_copyV w 8 2 xT (v, p, sh, ln, pr, gd, co, c, s) xTV xC (by omega)) (fun r_ w_ h_ => ?_)
  rw [h_.1, h_.2]
  clear h_ w_ r_
  refine ⟨rfl, ?_⟩
  refine r_iconst (pc2 := 12) dX4_bestShift_11 rfl ?_
  refine r_ist_1 (pc2 := 13) dX4_bestShift_12 rfl rfl ?_
  refine r_aload_n (pc2 := 14) dX4_bestShift_13 rfl rfl ?_
  refine r_iconst (pc2 := 15) dX4_bestShift_14 rfl ?_
  refine r_callv_1 (pc2 := 18) dX4_bestShift_15 rfl rs_4_225 rfl (by decide) rfl (Nat.le_of_ble_eq_true rfl) (Nat.le_of_ble_eq_true rfl) (by assumption) (by assumption) (c_wsC (cpW w 8 xT (v, p, sh, ln, pr, gd, co, c, s)) (by rw [a1.1]; exact x33) hs n0w v p sh ln pr gd co _ _ x1 hK (SR_pre hS) _ _ y1 0 (by omega)) (fun r_ w_ h_ => ?_)
  obtain ⟨e_, gD, CD, fD, ggD, GD⟩ := h_
  rw [e_]
  clear e_
  obtain ⟨wD, rfl⟩ : ∃ wD, wD = w_ := ⟨_, rfl⟩
  have aD : agO 7 13 w wD := a1.trans gD
  have zD : 0 < wD.1 := by rw [aD.1]; exact x0
  have zDw : wD.2.2 0 = maO hs := (aD.2 0 (by omega)).trans x0w
  have zD33 : 33 ≤ wD.1 := by rw [aD.1]; exact x33
  rw [GA_s (s := preF 6 s xT.2.2.2.2.2.2.2.2) (t := s) hp (fun j hj => preF_lt (by omega))]
  refine ⟨gD.1, ?_⟩
  refine r_ist_2 (pc2 := 19) dX4_bestShift_18 rfl rfl ?_
  refine r_iconst (pc2 := 20) dX4_bestShift_19 rfl ?_
  refine r_ist_3 (pc2 := 21) dX4_bestShift_20 rfl rfl ?_
  exact lp 5 1 _ _ _ _ wD 0 _ _ (by omega) (by omega) rfl aD (by omega) CD GD
