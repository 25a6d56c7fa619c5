/-! one step of the law -/
section L47
variable {v p sh ln pr gd co : Int} {c s c2 s2 : Nat → Int}
theorem nx1_col {a b k : Int} : (nx (o_colour (v, p, sh, ln, pr, gd, co, c, s) a b k) (v, p, sh, ln, pr, gd, co, c, s)).1 = v := by
  unfold o_colour
  dsimp only
  (repeat' split) <;> rfl
theorem nx1_swap {a b : Int} : (nx (o_swap (v, p, sh, ln, pr, gd, co, c, s) a b) (v, p, sh, ln, pr, gd, co, c, s)).1 = v := by
  unfold o_swap
  dsimp only
  (repeat' split) <;> rfl
theorem nx1_slice {a b : Int} : (nx (o_slice (v, p, sh, ln, pr, gd, co, c, s) a b) (v, p, sh, ln, pr, gd, co, c, s)).1 = v := by
  unfold o_slice
  dsimp only
  (repeat' split) <;> rfl
theorem th_rg {x : Int} (hx : 0 ≤ x ∧ x < v) : 0 ≤ thZ v x ∧ thZ v x < v := by
  unfold thZ
  rw [if_neg (by omega)]
  omega
theorem co_rg {x : Int} (hx : -200 ≤ x ∧ x ≤ 9) : -200 ≤ coZ x ∧ coZ x ≤ 9 := by
  unfold coZ
  split <;> omega
theorem if_or {a : Prop} [Decidable a] {x y z : Int} (h : z = if a then x else y) : (a ∧ z = x) ∨ (¬ a ∧ z = y) := by
  by_cases q : a
  · exact Or.inl ⟨q, h.trans (if_pos q)⟩
  · exact Or.inr ⟨q, h.trans (if_neg q)⟩
end L47

set_option maxHeartbeats 4000000 in
theorem l_isStepT {sc : av_E} {w : av_W} {v p sh ln pr gd co : Int} {c s c2 s2 : Nat → Int} {len len2 : Int} {t t2 : Nat → Int} (J : JJ sc w (v, p, sh, ln, pr, gd, co, c, s) (v, p, sh, ln, pr, gd, co, c2, s2) len len2 t t2) (hc : MC v c c2) (hm : MS v p s s2) (x y : Int) : cl ML_isStep [.ref 0, .ref 33, .int (iN x), .int (iN y)] w (fun r' w' => r' = some (.int (iN 1)) ∧ JM sc w') := by
  have hMR : MR (v, p, sh, ln, pr, gd, co, c, s) (v, p, sh, ln, pr, gd, co, c2, s2) := ⟨⟨rfl, rfl, rfl, rfl, rfl, rfl, rfl⟩, hc, hm⟩
  have n_ := J.1
  obtain ⟨⟨z0, f0, z0w⟩, z33, f33, z33w⟩ := J.cells
  obtain ⟨k1, k2, k3, k4, k5, k6, k7, k8⟩ := KW_p J.kv.1
  show rn ML_isStep 0 [some (.ref 0), some (.ref 33), some (.int (iN x)), some (.int (iN y)), none, none, none, none, none, none, none, none, none] [] w _
  refine r_iload_n (pc2 := 1) dL_isStep_0 rfl rfl ?_
  refine r_iconst (pc2 := 2) dL_isStep_1 rfl ?_
  refine r_zshr (pc2 := 3) dL_isStep_2 rfl ?_
  refine r_ist_4 (pc2 := 5) dL_isStep_3 rfl rfl ?_
  refine r_aload_n (pc2 := 6) dL_isStep_5 rfl rfl ?_
  refine r_iconst (pc2 := 7) dL_isStep_6 rfl ?_
  refine r_callv_1 (pc2 := 10) dL_isStep_7 rfl rs_99_9 rfl (by decide) rfl (Nat.le_of_ble_eq_true rfl) (Nat.le_of_ble_eq_true rfl) (by assumption) (by assumption) (oc0 J) (fun r_ w_ h_ => ?_)
  obtain ⟨e_, J⟩ := h_
  rw [e_]
  clear e_ r_
  have n_ := J.1
  obtain ⟨⟨z0, f0, z0w⟩, z33, f33, z33w⟩ := J.cells
  refine ⟨by omega, ?_⟩
  refine r_ist_5 (pc2 := 12) dL_isStep_10 rfl rfl ?_
  refine r_iload (pc2 := 14) dL_isStep_12 rfl rfl ?_
  refine r_iload (pc2 := 16) dL_isStep_14 rfl rfl ?_
  refine r_calls_2 (pc2 := 19) dL_isStep_16 rfl rs_99_28 rfl (by decide) rfl (Nat.le_of_ble_eq_true rfl) (Nat.le_of_ble_eq_true rfl) (l_up _ _ _ (by omega)) (fun r_ w_ h_ => ?_)
  rw [h_.1, h_.2]
  clear h_ w_ r_
  refine ⟨rfl, ?_⟩
  have hu16 := up_rg (x := (shrZ x 4)) (n := v) (by omega)
  generalize upZ (shrZ x 4) v = vw at hu16 ⊢
  refine r_ist_6 (pc2 := 21) dL_isStep_19 rfl rfl ?_
  refine r_iload (pc2 := 23) dL_isStep_21 rfl rfl ?_
  refine r_iconst (pc2 := 24) dL_isStep_23 rfl ?_
  refine r_zshr (pc2 := 25) dL_isStep_24 rfl ?_
  refine r_aload_n (pc2 := 26) dL_isStep_25 rfl rfl ?_
  refine r_iconst (pc2 := 27) dL_isStep_26 rfl ?_
  refine r_callv_1 (pc2 := 30) dL_isStep_27 rfl rs_99_9 rfl (by decide) rfl (Nat.le_of_ble_eq_true rfl) (Nat.le_of_ble_eq_true rfl) (by assumption) (by assumption) (oc1 J) (fun r_ w_ h_ => ?_)
  obtain ⟨e_, J⟩ := h_
  rw [e_]
  clear e_ r_
  have n_ := J.1
  obtain ⟨⟨z0, f0, z0w⟩, z33, f33, z33w⟩ := J.cells
  refine ⟨by omega, ?_⟩
  refine r_calls_2 (pc2 := 33) dL_isStep_30 rfl rs_99_28 rfl (by decide) rfl (Nat.le_of_ble_eq_true rfl) (Nat.le_of_ble_eq_true rfl) (l_up _ _ _ (by omega)) (fun r_ w_ h_ => ?_)
  rw [h_.1, h_.2]
  clear h_ w_ r_
  refine ⟨rfl, ?_⟩
  have hu30 := up_rg (x := (shrZ (shrZ x 4) 3)) (n := p) (by omega)
  generalize upZ (shrZ (shrZ x 4) 3) p = sl at hu30 ⊢
  refine r_ist_7 (pc2 := 35) dL_isStep_33 rfl rfl ?_
  refine r_iload_n (pc2 := 36) dL_isStep_35 rfl rfl ?_
  refine r_bipush (pc2 := 38) dL_isStep_36 rfl (by decide) ?_
  refine r_calls_2 (pc2 := 41) dL_isStep_38 rfl rs_99_28 rfl (by decide) rfl (Nat.le_of_ble_eq_true rfl) (Nat.le_of_ble_eq_true rfl) (l_up _ _ _ (by omega)) (fun r_ w_ h_ => ?_)
  rw [h_.1, h_.2]
  clear h_ w_ r_
  refine ⟨rfl, ?_⟩
  have hu38 := up_rg (x := x) (n := 14) (by omega)
  refine r_tab (len := 67) dL_isStep_41 ⟨by omega, by omega⟩ (fun hD => ⟨629, by decide, ?_⟩) (fun hI => ?_)
  · refine r_aload_n (pc2 := 630) dL_isStep_629 rfl rfl ?_
    refine r_callv_0 (pc2 := 633) dL_isStep_630 rfl rs_99_80 rfl (by decide) rfl (Nat.le_of_ble_eq_true rfl) (Nat.le_of_ble_eq_true rfl) (by assumption) (by assumption) (ot_bestShift J) (fun r_ w_ h_ => ?_)
    obtain ⟨e_, J⟩ := h_
    rw [e_]
    clear e_ r_
    have n_ := J.1
    obtain ⟨⟨z0, f0, z0w⟩, z33, f33, z33w⟩ := J.cells
    refine ⟨by omega, ?_⟩
    have hb : -3 ≤ bsZ (v, p, sh, ln, pr, gd, co, c, s) ∧ bsZ (v, p, sh, ln, pr, gd, co, c, s) ≤ 3 := bs_rg _
    refine r_ist_8 (pc2 := 635) dL_isStep_633 rfl rfl ?_
    refine r_iload (pc2 := 637) dL_isStep_635 rfl rfl ?_
    refine r_aload_n (pc2 := 638) dL_isStep_637 rfl rfl ?_
    refine r_callv_0 (pc2 := 641) dL_isStep_638 rfl rs_99_80 rfl (by decide) rfl (Nat.le_of_ble_eq_true rfl) (Nat.le_of_ble_eq_true rfl) (by assumption) (by assumption) (pt_bestShift J) (fun r_ w_ h_ => ?_)
    obtain ⟨e_, J⟩ := h_
    rw [e_, m_best J.kv.1 hm]
    clear e_ r_
    have n_ := J.1
    obtain ⟨⟨z0, f0, z0w⟩, z33, f33, z33w⟩ := J.cells
    refine ⟨by omega, ?_⟩
    refine r_icmp_ne (pc2 := 644) (tgt := 661) dL_isStep_641 rfl (by decide) (by omega) (by omega) (fun h641 => ?_) (fun h641 => ?_)
    · exfalso
      omega
    · refine r_iload (pc2 := 646) dL_isStep_644 rfl rfl ?_
      refine r_bipush (pc2 := 648) dL_isStep_646 rfl (by decide) ?_
      refine r_icmp_lt (pc2 := 651) (tgt := 661) dL_isStep_648 rfl (by decide) (by omega) (by omega) (fun h648 => ?_) (fun h648 => ?_)
      · exfalso
        omega
      · refine r_iload (pc2 := 653) dL_isStep_651 rfl rfl ?_
        refine r_iconst (pc2 := 654) dL_isStep_653 rfl ?_
        refine r_icmp_gt (pc2 := 657) (tgt := 661) dL_isStep_654 rfl (by decide) (by omega) (by omega) (fun h654 => ?_) (fun h654 => ?_)
        · exfalso
          omega
        · refine r_iconst (pc2 := 658) dL_isStep_657 rfl ?_
          refine r_goto (tgt := 662) dL_isStep_658 (by decide) ?_
          refine r_retb dL_isStep_662 rfl (by first | exact Or.inl rfl | exact Or.inr rfl | exact bz_01) ?_
          exact ⟨rfl, _, _, _, _, _, _, J, hMR⟩
  · have hcase : (upZ x 14) = 0 ∨ (upZ x 14) = 1 ∨ (upZ x 14) = 2 ∨ (upZ x 14) = 3 ∨ (upZ x 14) = 4 ∨ (upZ x 14) = 5 ∨ (upZ x 14) = 6 ∨ (upZ x 14) = 7 ∨ (upZ x 14) = 8 ∨ (upZ x 14) = 9 ∨ (upZ x 14) = 10 ∨ (upZ x 14) = 11 ∨ (upZ x 14) = 12 := by omega
    rcases hcase with hX0 | hX1 | hX2 | hX3 | hX4 | hX5 | hX6 | hX7 | hX8 | hX9 | hX10 | hX11 | hX12
    · refine ⟨67, 108, by rw [hX0]; rfl, by decide, ?_⟩
      refine r_iload_n (pc2 := 109) dL_isStep_108 rfl rfl ?_
      refine r_bipush (pc2 := 111) dL_isStep_109 rfl (by decide) ?_
      refine r_calls_2 (pc2 := 114) dL_isStep_111 rfl rs_99_28 rfl (by decide) rfl (Nat.le_of_ble_eq_true rfl) (Nat.le_of_ble_eq_true rfl) (l_up _ _ _ (by omega)) (fun r_ w_ h_ => ?_)
      rw [h_.1, h_.2]
      clear h_ w_ r_
      refine ⟨rfl, ?_⟩
      have hu111 := up_rg (x := y) (n := 12) (by omega)
      generalize upZ y 12 = cm at hu111 ⊢
      refine r_ist_8 (pc2 := 116) dL_isStep_114 rfl rfl ?_
      refine r_iload_n (pc2 := 117) dL_isStep_116 rfl rfl ?_
      refine r_iconst (pc2 := 118) dL_isStep_117 rfl ?_
      refine r_zshr (pc2 := 119) dL_isStep_118 rfl ?_
      refine r_bipush (pc2 := 121) dL_isStep_119 rfl (by decide) ?_
      refine r_calls_2 (pc2 := 124) dL_isStep_121 rfl rs_99_28 rfl (by decide) rfl (Nat.le_of_ble_eq_true rfl) (Nat.le_of_ble_eq_true rfl) (l_up _ _ _ (by omega)) (fun r_ w_ h_ => ?_)
      rw [h_.1, h_.2]
      clear h_ w_ r_
      refine ⟨rfl, ?_⟩
      have hu121 := up_rg (x := (shrZ y 5)) (n := 10) (by omega)
      generalize upZ (shrZ y 5) 10 = it at hu121 ⊢
      refine r_ist_9 (pc2 := 126) dL_isStep_124 rfl rfl ?_
      refine r_aload_n (pc2 := 127) dL_isStep_126 rfl rfl ?_
      refine r_iload (pc2 := 129) dL_isStep_127 rfl rfl ?_
      refine r_iload (pc2 := 131) dL_isStep_129 rfl rfl ?_
      refine r_callv_2 (pc2 := 134) dL_isStep_131 rfl rs_99_42 rfl (by decide) rfl (Nat.le_of_ble_eq_true rfl) (Nat.le_of_ble_eq_true rfl) (by assumption) (by assumption) (ot_colourOf J vw cm (by unfold RG; omega) (by unfold RG; omega)) (fun r_ w_ h_ => ?_)
      obtain ⟨e_, J⟩ := h_
      rw [e_]
      clear e_ r_
      have n_ := J.1
      obtain ⟨⟨z0, f0, z0w⟩, z33, f33, z33w⟩ := J.cells
      refine ⟨by omega, ?_⟩
      obtain ⟨q1, q2, q3, q4, q5⟩ := m_col J.kv.1 hc hm (a := vw) (b := cm) (k := it) (by omega) (by omega) (by omega)
      have hT := if_or q1
      have hco := co_rg (x := (o_colour (v, p, sh, ln, pr, gd, co, c, s) vw cm it).1) (by omega)
      have hth := th_rg hu16
      refine r_ist_10 (pc2 := 136) dL_isStep_134 rfl rfl ?_
      refine r_aload_n (pc2 := 137) dL_isStep_136 rfl rfl ?_
      refine r_iload (pc2 := 139) dL_isStep_137 rfl rfl ?_
      refine r_iload (pc2 := 141) dL_isStep_139 rfl rfl ?_
      refine r_iload (pc2 := 143) dL_isStep_141 rfl rfl ?_
      refine r_callv_3 (pc2 := 146) dL_isStep_143 rfl rs_99_45 rfl (by decide) rfl (Nat.le_of_ble_eq_true rfl) (Nat.le_of_ble_eq_true rfl) (by assumption) (by assumption) (oa_colour J vw cm it (by unfold RG; omega) (by unfold RG; omega) (by unfold RG; omega)) (fun r_ w_ h_ => ?_)
      obtain ⟨e_, J⟩ := h_
      rw [e_]
      clear e_ r_
      have n_ := J.1
      obtain ⟨⟨z0, f0, z0w⟩, z33, f33, z33w⟩ := J.cells
      refine ⟨by omega, ?_⟩
      refine r_ist_11 (pc2 := 148) dL_isStep_146 rfl rfl ?_
      refine r_aload_n (pc2 := 149) dL_isStep_148 rfl rfl ?_
      refine r_aload_n (pc2 := 150) dL_isStep_149 rfl rfl ?_
      refine r_iload (pc2 := 152) dL_isStep_150 rfl rfl ?_
      refine r_calls_2 (pc2 := 155) dL_isStep_152 rfl rs_99_18 rfl (by decide) rfl (Nat.le_of_ble_eq_true rfl) (Nat.le_of_ble_eq_true rfl) (l_there J vw (by unfold RG; omega)) (fun r_ w_ h_ => ?_)
      obtain ⟨e_, J⟩ := h_
      rw [e_, nx1_col]
      clear e_ r_
      have n_ := J.1
      obtain ⟨⟨z0, f0, z0w⟩, z33, f33, z33w⟩ := J.cells
      refine ⟨by omega, ?_⟩
      refine r_iload (pc2 := 157) dL_isStep_155 rfl rfl ?_
      refine r_bipush (pc2 := 159) dL_isStep_157 rfl (by decide) ?_
      refine r_iload (pc2 := 161) dL_isStep_159 rfl rfl ?_
      refine r_isub (pc2 := 162) dL_isStep_161 rfl ?_
      refine r_callv_3 (pc2 := 165) dL_isStep_162 rfl rs_99_45 rfl (by decide) rfl (Nat.le_of_ble_eq_true rfl) (Nat.le_of_ble_eq_true rfl) (by assumption) (by assumption) (pa_colour J (thZ v vw) cm (9 - it) (by unfold RG; omega) (by unfold RG; omega) (by unfold RG; omega)) (fun r_ w_ h_ => ?_)
      obtain ⟨e_, J⟩ := h_
      rw [e_, q2]
      clear e_ r_
      have n_ := J.1
      obtain ⟨⟨z0, f0, z0w⟩, z33, f33, z33w⟩ := J.cells
      refine ⟨by omega, ?_⟩
      refine r_ist_12 (pc2 := 167) dL_isStep_165 rfl rfl ?_
      refine r_iload (pc2 := 169) dL_isStep_167 rfl rfl ?_
      refine r_iload (pc2 := 171) dL_isStep_169 rfl rfl ?_
      refine r_iload (pc2 := 173) dL_isStep_171 rfl rfl ?_
      refine r_icmp_ne (pc2 := 176) (tgt := 181) dL_isStep_173 rfl (by decide) (by omega) (by omega) (fun h173 => ?_) (fun h173 => ?_)
      · refine r_iload (pc2 := 183) dL_isStep_181 rfl rfl ?_
        refine r_icmp_ne (pc2 := 186) (tgt := 213) dL_isStep_183 rfl (by decide) (by omega) (by omega) (fun h183 => ?_) (fun h183 => ?_)
        · exfalso
          omega
        · refine r_iload (pc2 := 188) dL_isStep_186 rfl rfl ?_
          refine r_iload (pc2 := 190) dL_isStep_188 rfl rfl ?_
          refine r_calls_1 (pc2 := 193) dL_isStep_190 rfl rs_99_49 rfl (by decide) rfl (Nat.le_of_ble_eq_true rfl) (Nat.le_of_ble_eq_true rfl) (l_colour _ _ (by unfold RG; omega)) (fun r_ w_ h_ => ?_)
          rw [h_.1, h_.2]
          clear h_ w_ r_
          refine ⟨rfl, ?_⟩
          refine r_icmp_ne (pc2 := 196) (tgt := 213) dL_isStep_193 rfl (by decide) (by omega) (by omega) (fun h193 => ?_) (fun h193 => ?_)
          · exfalso
            omega
          · refine r_aload_n (pc2 := 197) dL_isStep_196 rfl rfl ?_
            refine r_iload (pc2 := 199) dL_isStep_197 rfl rfl ?_
            refine r_iload (pc2 := 201) dL_isStep_199 rfl rfl ?_
            refine r_callv_2 (pc2 := 204) dL_isStep_201 rfl rs_99_42 rfl (by decide) rfl (Nat.le_of_ble_eq_true rfl) (Nat.le_of_ble_eq_true rfl) (by assumption) (by assumption) (ot_colourOf J vw cm (by unfold RG; omega) (by unfold RG; omega)) (fun r_ w_ h_ => ?_)
            obtain ⟨e_, J⟩ := h_
            rw [e_, q3]
            clear e_ r_
            have n_ := J.1
            obtain ⟨⟨z0, f0, z0w⟩, z33, f33, z33w⟩ := J.cells
            refine ⟨by omega, ?_⟩
            refine r_iload (pc2 := 206) dL_isStep_204 rfl rfl ?_
            refine r_icmp_ne (pc2 := 209) (tgt := 213) dL_isStep_206 rfl (by decide) (by omega) (by omega) (fun h206 => ?_) (fun h206 => ?_)
            · exfalso
              omega
            · refine r_iconst (pc2 := 210) dL_isStep_209 rfl ?_
              refine r_goto (tgt := 214) dL_isStep_210 (by decide) ?_
              refine r_retb dL_isStep_214 rfl (by first | exact Or.inl rfl | exact Or.inr rfl | exact bz_01) ?_
              exact ⟨rfl, _, _, _, _, _, _, J, q4⟩
      · refine r_bipush (pc2 := 178) dL_isStep_176 rfl (by decide) ?_
        refine r_goto (tgt := 183) dL_isStep_178 (by decide) ?_
        refine r_icmp_ne (pc2 := 186) (tgt := 213) dL_isStep_183 rfl (by decide) (by omega) (by omega) (fun h183 => ?_) (fun h183 => ?_)
        · exfalso
          omega
        · refine r_iload (pc2 := 188) dL_isStep_186 rfl rfl ?_
          refine r_iload (pc2 := 190) dL_isStep_188 rfl rfl ?_
          refine r_calls_1 (pc2 := 193) dL_isStep_190 rfl rs_99_49 rfl (by decide) rfl (Nat.le_of_ble_eq_true rfl) (Nat.le_of_ble_eq_true rfl) (l_colour _ _ (by unfold RG; omega)) (fun r_ w_ h_ => ?_)
          rw [h_.1, h_.2]
          clear h_ w_ r_
          refine ⟨rfl, ?_⟩
          refine r_icmp_ne (pc2 := 196) (tgt := 213) dL_isStep_193 rfl (by decide) (by omega) (by omega) (fun h193 => ?_) (fun h193 => ?_)
          · exfalso
            omega
          · refine r_aload_n (pc2 := 197) dL_isStep_196 rfl rfl ?_
            refine r_iload (pc2 := 199) dL_isStep_197 rfl rfl ?_
            refine r_iload (pc2 := 201) dL_isStep_199 rfl rfl ?_
            refine r_callv_2 (pc2 := 204) dL_isStep_201 rfl rs_99_42 rfl (by decide) rfl (Nat.le_of_ble_eq_true rfl) (Nat.le_of_ble_eq_true rfl) (by assumption) (by assumption) (ot_colourOf J vw cm (by unfold RG; omega) (by unfold RG; omega)) (fun r_ w_ h_ => ?_)
            obtain ⟨e_, J⟩ := h_
            rw [e_, q3]
            clear e_ r_
            have n_ := J.1
            obtain ⟨⟨z0, f0, z0w⟩, z33, f33, z33w⟩ := J.cells
            refine ⟨by omega, ?_⟩
            refine r_iload (pc2 := 206) dL_isStep_204 rfl rfl ?_
            refine r_icmp_ne (pc2 := 209) (tgt := 213) dL_isStep_206 rfl (by decide) (by omega) (by omega) (fun h206 => ?_) (fun h206 => ?_)
            · exfalso
              omega
            · refine r_iconst (pc2 := 210) dL_isStep_209 rfl ?_
              refine r_goto (tgt := 214) dL_isStep_210 (by decide) ?_
              refine r_retb dL_isStep_214 rfl (by first | exact Or.inl rfl | exact Or.inr rfl | exact bz_01) ?_
              exact ⟨rfl, _, _, _, _, _, _, J, q4⟩
    · refine ⟨67, 108, by rw [hX1]; rfl, by decide, ?_⟩
      refine r_iload_n (pc2 := 109) dL_isStep_108 rfl rfl ?_
      refine r_bipush (pc2 := 111) dL_isStep_109 rfl (by decide) ?_
      refine r_calls_2 (pc2 := 114) dL_isStep_111 rfl rs_99_28 rfl (by decide) rfl (Nat.le_of_ble_eq_true rfl) (Nat.le_of_ble_eq_true rfl) (l_up _ _ _ (by omega)) (fun r_ w_ h_ => ?_)
      rw [h_.1, h_.2]
      clear h_ w_ r_
      refine ⟨rfl, ?_⟩
      have hu111 := up_rg (x := y) (n := 12) (by omega)
      generalize upZ y 12 = cm at hu111 ⊢
      refine r_ist_8 (pc2 := 116) dL_isStep_114 rfl rfl ?_
      refine r_iload_n (pc2 := 117) dL_isStep_116 rfl rfl ?_
      refine r_iconst (pc2 := 118) dL_isStep_117 rfl ?_
      refine r_zshr (pc2 := 119) dL_isStep_118 rfl ?_
      refine r_bipush (pc2 := 121) dL_isStep_119 rfl (by decide) ?_
      refine r_calls_2 (pc2 := 124) dL_isStep_121 rfl rs_99_28 rfl (by decide) rfl (Nat.le_of_ble_eq_true rfl) (Nat.le_of_ble_eq_true rfl) (l_up _ _ _ (by omega)) (fun r_ w_ h_ => ?_)
      rw [h_.1, h_.2]
      clear h_ w_ r_
      refine ⟨rfl, ?_⟩
      have hu121 := up_rg (x := (shrZ y 5)) (n := 10) (by omega)
      generalize upZ (shrZ y 5) 10 = it at hu121 ⊢
      refine r_ist_9 (pc2 := 126) dL_isStep_124 rfl rfl ?_
      refine r_aload_n (pc2 := 127) dL_isStep_126 rfl rfl ?_
      refine r_iload (pc2 := 129) dL_isStep_127 rfl rfl ?_
      refine r_iload (pc2 := 131) dL_isStep_129 rfl rfl ?_
      refine r_callv_2 (pc2 := 134) dL_isStep_131 rfl rs_99_42 rfl (by decide) rfl (Nat.le_of_ble_eq_true rfl) (Nat.le_of_ble_eq_true rfl) (by assumption) (by assumption) (ot_colourOf J vw cm (by unfold RG; omega) (by unfold RG; omega)) (fun r_ w_ h_ => ?_)
      obtain ⟨e_, J⟩ := h_
      rw [e_]
      clear e_ r_
      have n_ := J.1
      obtain ⟨⟨z0, f0, z0w⟩, z33, f33, z33w⟩ := J.cells
      refine ⟨by omega, ?_⟩
      obtain ⟨q1, q2, q3, q4, q5⟩ := m_col J.kv.1 hc hm (a := vw) (b := cm) (k := it) (by omega) (by omega) (by omega)
      have hT := if_or q1
      have hco := co_rg (x := (o_colour (v, p, sh, ln, pr, gd, co, c, s) vw cm it).1) (by omega)
      have hth := th_rg hu16
      refine r_ist_10 (pc2 := 136) dL_isStep_134 rfl rfl ?_
      refine r_aload_n (pc2 := 137) dL_isStep_136 rfl rfl ?_
      refine r_iload (pc2 := 139) dL_isStep_137 rfl rfl ?_
      refine r_iload (pc2 := 141) dL_isStep_139 rfl rfl ?_
      refine r_iload (pc2 := 143) dL_isStep_141 rfl rfl ?_
      refine r_callv_3 (pc2 := 146) dL_isStep_143 rfl rs_99_45 rfl (by decide) rfl (Nat.le_of_ble_eq_true rfl) (Nat.le_of_ble_eq_true rfl) (by assumption) (by assumption) (oa_colour J vw cm it (by unfold RG; omega) (by unfold RG; omega) (by unfold RG; omega)) (fun r_ w_ h_ => ?_)
      obtain ⟨e_, J⟩ := h_
      rw [e_]
      clear e_ r_
      have n_ := J.1
      obtain ⟨⟨z0, f0, z0w⟩, z33, f33, z33w⟩ := J.cells
      refine ⟨by omega, ?_⟩
      refine r_ist_11 (pc2 := 148) dL_isStep_146 rfl rfl ?_
      refine r_aload_n (pc2 := 149) dL_isStep_148 rfl rfl ?_
      refine r_aload_n (pc2 := 150) dL_isStep_149 rfl rfl ?_
      refine r_iload (pc2 := 152) dL_isStep_150 rfl rfl ?_
      refine r_calls_2 (pc2 := 155) dL_isStep_152 rfl rs_99_18 rfl (by decide) rfl (Nat.le_of_ble_eq_true rfl) (Nat.le_of_ble_eq_true rfl) (l_there J vw (by unfold RG; omega)) (fun r_ w_ h_ => ?_)
      obtain ⟨e_, J⟩ := h_
      rw [e_, nx1_col]
      clear e_ r_
      have n_ := J.1
      obtain ⟨⟨z0, f0, z0w⟩, z33, f33, z33w⟩ := J.cells
      refine ⟨by omega, ?_⟩
      refine r_iload (pc2 := 157) dL_isStep_155 rfl rfl ?_
      refine r_bipush (pc2 := 159) dL_isStep_157 rfl (by decide) ?_
      refine r_iload (pc2 := 161) dL_isStep_159 rfl rfl ?_
      refine r_isub (pc2 := 162) dL_isStep_161 rfl ?_
      refine r_callv_3 (pc2 := 165) dL_isStep_162 rfl rs_99_45 rfl (by decide) rfl (Nat.le_of_ble_eq_true rfl) (Nat.le_of_ble_eq_true rfl) (by assumption) (by assumption) (pa_colour J (thZ v vw) cm (9 - it) (by unfold RG; omega) (by unfold RG; omega) (by unfold RG; omega)) (fun r_ w_ h_ => ?_)
      obtain ⟨e_, J⟩ := h_
      rw [e_, q2]
      clear e_ r_
      have n_ := J.1
      obtain ⟨⟨z0, f0, z0w⟩, z33, f33, z33w⟩ := J.cells
      refine ⟨by omega, ?_⟩
      refine r_ist_12 (pc2 := 167) dL_isStep_165 rfl rfl ?_
      refine r_iload (pc2 := 169) dL_isStep_167 rfl rfl ?_
      refine r_iload (pc2 := 171) dL_isStep_169 rfl rfl ?_
      refine r_iload (pc2 := 173) dL_isStep_171 rfl rfl ?_
      refine r_icmp_ne (pc2 := 176) (tgt := 181) dL_isStep_173 rfl (by decide) (by omega) (by omega) (fun h173 => ?_) (fun h173 => ?_)
      · refine r_iload (pc2 := 183) dL_isStep_181 rfl rfl ?_
        refine r_icmp_ne (pc2 := 186) (tgt := 213) dL_isStep_183 rfl (by decide) (by omega) (by omega) (fun h183 => ?_) (fun h183 => ?_)
        · exfalso
          omega
        · refine r_iload (pc2 := 188) dL_isStep_186 rfl rfl ?_
          refine r_iload (pc2 := 190) dL_isStep_188 rfl rfl ?_
          refine r_calls_1 (pc2 := 193) dL_isStep_190 rfl rs_99_49 rfl (by decide) rfl (Nat.le_of_ble_eq_true rfl) (Nat.le_of_ble_eq_true rfl) (l_colour _ _ (by unfold RG; omega)) (fun r_ w_ h_ => ?_)
          rw [h_.1, h_.2]
          clear h_ w_ r_
          refine ⟨rfl, ?_⟩
          refine r_icmp_ne (pc2 := 196) (tgt := 213) dL_isStep_193 rfl (by decide) (by omega) (by omega) (fun h193 => ?_) (fun h193 => ?_)
          · exfalso
            omega
          · refine r_aload_n (pc2 := 197) dL_isStep_196 rfl rfl ?_
            refine r_iload (pc2 := 199) dL_isStep_197 rfl rfl ?_
            refine r_iload (pc2 := 201) dL_isStep_199 rfl rfl ?_
            refine r_callv_2 (pc2 := 204) dL_isStep_201 rfl rs_99_42 rfl (by decide) rfl (Nat.le_of_ble_eq_true rfl) (Nat.le_of_ble_eq_true rfl) (by assumption) (by assumption) (ot_colourOf J vw cm (by unfold RG; omega) (by unfold RG; omega)) (fun r_ w_ h_ => ?_)
            obtain ⟨e_, J⟩ := h_
            rw [e_, q3]
            clear e_ r_
            have n_ := J.1
            obtain ⟨⟨z0, f0, z0w⟩, z33, f33, z33w⟩ := J.cells
            refine ⟨by omega, ?_⟩
            refine r_iload (pc2 := 206) dL_isStep_204 rfl rfl ?_
            refine r_icmp_ne (pc2 := 209) (tgt := 213) dL_isStep_206 rfl (by decide) (by omega) (by omega) (fun h206 => ?_) (fun h206 => ?_)
            · exfalso
              omega
            · refine r_iconst (pc2 := 210) dL_isStep_209 rfl ?_
              refine r_goto (tgt := 214) dL_isStep_210 (by decide) ?_
              refine r_retb dL_isStep_214 rfl (by first | exact Or.inl rfl | exact Or.inr rfl | exact bz_01) ?_
              exact ⟨rfl, _, _, _, _, _, _, J, q4⟩
      · refine r_bipush (pc2 := 178) dL_isStep_176 rfl (by decide) ?_
        refine r_goto (tgt := 183) dL_isStep_178 (by decide) ?_
        refine r_icmp_ne (pc2 := 186) (tgt := 213) dL_isStep_183 rfl (by decide) (by omega) (by omega) (fun h183 => ?_) (fun h183 => ?_)
        · exfalso
          omega
        · refine r_iload (pc2 := 188) dL_isStep_186 rfl rfl ?_
          refine r_iload (pc2 := 190) dL_isStep_188 rfl rfl ?_
          refine r_calls_1 (pc2 := 193) dL_isStep_190 rfl rs_99_49 rfl (by decide) rfl (Nat.le_of_ble_eq_true rfl) (Nat.le_of_ble_eq_true rfl) (l_colour _ _ (by unfold RG; omega)) (fun r_ w_ h_ => ?_)
          rw [h_.1, h_.2]
          clear h_ w_ r_
          refine ⟨rfl, ?_⟩
          refine r_icmp_ne (pc2 := 196) (tgt := 213) dL_isStep_193 rfl (by decide) (by omega) (by omega) (fun h193 => ?_) (fun h193 => ?_)
          · exfalso
            omega
          · refine r_aload_n (pc2 := 197) dL_isStep_196 rfl rfl ?_
            refine r_iload (pc2 := 199) dL_isStep_197 rfl rfl ?_
            refine r_iload (pc2 := 201) dL_isStep_199 rfl rfl ?_
            refine r_callv_2 (pc2 := 204) dL_isStep_201 rfl rs_99_42 rfl (by decide) rfl (Nat.le_of_ble_eq_true rfl) (Nat.le_of_ble_eq_true rfl) (by assumption) (by assumption) (ot_colourOf J vw cm (by unfold RG; omega) (by unfold RG; omega)) (fun r_ w_ h_ => ?_)
            obtain ⟨e_, J⟩ := h_
            rw [e_, q3]
            clear e_ r_
            have n_ := J.1
            obtain ⟨⟨z0, f0, z0w⟩, z33, f33, z33w⟩ := J.cells
            refine ⟨by omega, ?_⟩
            refine r_iload (pc2 := 206) dL_isStep_204 rfl rfl ?_
            refine r_icmp_ne (pc2 := 209) (tgt := 213) dL_isStep_206 rfl (by decide) (by omega) (by omega) (fun h206 => ?_) (fun h206 => ?_)
            · exfalso
              omega
            · refine r_iconst (pc2 := 210) dL_isStep_209 rfl ?_
              refine r_goto (tgt := 214) dL_isStep_210 (by decide) ?_
              refine r_retb dL_isStep_214 rfl (by first | exact Or.inl rfl | exact Or.inr rfl | exact bz_01) ?_
              exact ⟨rfl, _, _, _, _, _, _, J, q4⟩
    · refine ⟨174, 215, by rw [hX2]; rfl, by decide, ?_⟩
      refine r_iload_n (pc2 := 216) dL_isStep_215 rfl rfl ?_
      refine r_iconst (pc2 := 217) dL_isStep_216 rfl ?_
      refine r_calls_2 (pc2 := 220) dL_isStep_217 rfl rs_99_28 rfl (by decide) rfl (Nat.le_of_ble_eq_true rfl) (Nat.le_of_ble_eq_true rfl) (l_up _ _ _ (by omega)) (fun r_ w_ h_ => ?_)
      rw [h_.1, h_.2]
      clear h_ w_ r_
      refine ⟨rfl, ?_⟩
      have hu217 := up_rg (x := y) (n := 3) (by omega)
      refine r_if_le (pc2 := 223) (tgt := 232) dL_isStep_220 rfl (by decide) (by omega) (fun h220 => ?_) (fun h220 => ?_)
      · refine r_aload_n (pc2 := 233) dL_isStep_232 rfl rfl ?_
        refine r_iload (pc2 := 235) dL_isStep_233 rfl rfl ?_
        refine r_iload_n (pc2 := 236) dL_isStep_235 rfl rfl ?_
        refine r_iload (pc2 := 238) dL_isStep_236 rfl rfl ?_
        refine r_calls_2 (pc2 := 241) dL_isStep_238 rfl rs_99_28 rfl (by decide) rfl (Nat.le_of_ble_eq_true rfl) (Nat.le_of_ble_eq_true rfl) (l_up _ _ _ (by omega)) (fun r_ w_ h_ => ?_)
        rw [h_.1, h_.2]
        clear h_ w_ r_
        refine ⟨rfl, ?_⟩
        have hu238 := up_rg (x := y) (n := v) (by omega)
        obtain ⟨q1, q2, q3⟩ := m_swap J.kv.1 hc hm (a := vw) (b := upZ y v) (by omega) (by omega)
        have hth := th_rg hu16
        have hth2 := th_rg hu238
        refine r_callv_2 (pc2 := 244) dL_isStep_241 rfl rs_99_55 rfl (by decide) rfl (Nat.le_of_ble_eq_true rfl) (Nat.le_of_ble_eq_true rfl) (by assumption) (by assumption) (oa_swap J vw (upZ y v) (by unfold RG; omega) (by unfold RG; omega)) (fun r_ w_ h_ => ?_)
        obtain ⟨e_, J⟩ := h_
        rw [e_]
        clear e_ r_
        have n_ := J.1
        obtain ⟨⟨z0, f0, z0w⟩, z33, f33, z33w⟩ := J.cells
        refine ⟨by omega, ?_⟩
        refine r_aload_n (pc2 := 245) dL_isStep_244 rfl rfl ?_
        refine r_aload_n (pc2 := 246) dL_isStep_245 rfl rfl ?_
        refine r_iload (pc2 := 248) dL_isStep_246 rfl rfl ?_
        refine r_calls_2 (pc2 := 251) dL_isStep_248 rfl rs_99_18 rfl (by decide) rfl (Nat.le_of_ble_eq_true rfl) (Nat.le_of_ble_eq_true rfl) (l_there J vw (by unfold RG; omega)) (fun r_ w_ h_ => ?_)
        obtain ⟨e_, J⟩ := h_
        rw [e_, nx1_swap]
        clear e_ r_
        have n_ := J.1
        obtain ⟨⟨z0, f0, z0w⟩, z33, f33, z33w⟩ := J.cells
        refine ⟨by omega, ?_⟩
        refine r_aload_n (pc2 := 252) dL_isStep_251 rfl rfl ?_
        refine r_iload_n (pc2 := 253) dL_isStep_252 rfl rfl ?_
        refine r_iload (pc2 := 255) dL_isStep_253 rfl rfl ?_
        refine r_calls_2 (pc2 := 258) dL_isStep_255 rfl rs_99_28 rfl (by decide) rfl (Nat.le_of_ble_eq_true rfl) (Nat.le_of_ble_eq_true rfl) (l_up _ _ _ (by omega)) (fun r_ w_ h_ => ?_)
        rw [h_.1, h_.2]
        clear h_ w_ r_
        refine ⟨rfl, ?_⟩
        refine r_calls_2 (pc2 := 261) dL_isStep_258 rfl rs_99_18 rfl (by decide) rfl (Nat.le_of_ble_eq_true rfl) (Nat.le_of_ble_eq_true rfl) (l_there J (upZ y v) (by unfold RG; omega)) (fun r_ w_ h_ => ?_)
        obtain ⟨e_, J⟩ := h_
        rw [e_, nx1_swap]
        clear e_ r_
        have n_ := J.1
        obtain ⟨⟨z0, f0, z0w⟩, z33, f33, z33w⟩ := J.cells
        refine ⟨by omega, ?_⟩
        refine r_callv_2 (pc2 := 264) dL_isStep_261 rfl rs_99_55 rfl (by decide) rfl (Nat.le_of_ble_eq_true rfl) (Nat.le_of_ble_eq_true rfl) (by assumption) (by assumption) (pa_swap J (thZ v vw) (thZ v (upZ y v)) (by unfold RG; omega) (by unfold RG; omega)) (fun r_ w_ h_ => ?_)
        obtain ⟨e_, J⟩ := h_
        rw [e_, q1]
        clear e_ r_
        have n_ := J.1
        obtain ⟨⟨z0, f0, z0w⟩, z33, f33, z33w⟩ := J.cells
        refine ⟨by omega, ?_⟩
        refine r_icmp_ne (pc2 := 267) (tgt := 271) dL_isStep_264 rfl (by decide) (by omega) (by omega) (fun h264 => ?_) (fun h264 => ?_)
        · exfalso
          omega
        · refine r_iconst (pc2 := 268) dL_isStep_267 rfl ?_
          refine r_goto (tgt := 272) dL_isStep_268 (by decide) ?_
          refine r_retb dL_isStep_272 rfl (by first | exact Or.inl rfl | exact Or.inr rfl | exact bz_01) ?_
          exact ⟨rfl, _, _, _, _, _, _, J, q2⟩
      · refine r_aload_n (pc2 := 224) dL_isStep_223 rfl rfl ?_
        refine r_aload_n (pc2 := 225) dL_isStep_224 rfl rfl ?_
        refine r_iload (pc2 := 227) dL_isStep_225 rfl rfl ?_
        refine r_iload_n (pc2 := 228) dL_isStep_227 rfl rfl ?_
        refine r_calls_4 (pc2 := 231) dL_isStep_228 rfl rs_99_51 rfl (by decide) rfl (Nat.le_of_ble_eq_true rfl) (Nat.le_of_ble_eq_true rfl) (l_isRead J ⟨rfl, rfl, rfl, rfl, rfl⟩ _ _) (fun r_ w_ h_ => ?_)
        obtain ⟨e_, V9, U9, l9, m9, t9, u9, J, hM⟩ := h_
        rw [e_]
        clear e_ r_
        have n_ := J.1
        obtain ⟨⟨z0, f0, z0w⟩, z33, f33, z33w⟩ := J.cells
        refine ⟨by omega, ?_⟩
        refine r_retb dL_isStep_231 rfl (by first | exact Or.inl rfl | exact Or.inr rfl | exact bz_01) ?_
        exact ⟨rfl, _, _, _, _, _, _, J, hM⟩
    · refine ⟨232, 273, by rw [hX3]; rfl, by decide, ?_⟩
      refine r_iconst (pc2 := 274) dL_isStep_273 rfl ?_
      refine r_iload_n (pc2 := 275) dL_isStep_274 rfl rfl ?_
      refine r_iconst (pc2 := 276) dL_isStep_275 rfl ?_
      refine r_calls_2 (pc2 := 279) dL_isStep_276 rfl rs_99_28 rfl (by decide) rfl (Nat.le_of_ble_eq_true rfl) (Nat.le_of_ble_eq_true rfl) (l_up _ _ _ (by omega)) (fun r_ w_ h_ => ?_)
      rw [h_.1, h_.2]
      clear h_ w_ r_
      refine ⟨rfl, ?_⟩
      have hu276 := up_rg (x := y) (n := 5) (by omega)
      obtain ⟨q1, q2, q3, q4⟩ := m_pitch (s2 := s2) J.kv.1 hc (a := 2 + upZ y 5) (by omega)
      refine r_iadd (pc2 := 280) dL_isStep_279 rfl ?_
      refine r_ist_8 (pc2 := 282) dL_isStep_280 rfl rfl ?_
      refine r_aload_n (pc2 := 283) dL_isStep_282 rfl rfl ?_
      refine r_iload (pc2 := 285) dL_isStep_283 rfl rfl ?_
      refine r_callv_1 (pc2 := 288) dL_isStep_285 rfl rs_99_58 rfl (by decide) rfl (Nat.le_of_ble_eq_true rfl) (Nat.le_of_ble_eq_true rfl) (by assumption) (by assumption) (oa_setPitch J (2 + upZ y 5) (by unfold RG; omega)) (fun r_ w_ h_ => ?_)
      obtain ⟨e_, J⟩ := h_
      rw [e_]
      clear e_ r_
      have n_ := J.1
      obtain ⟨⟨z0, f0, z0w⟩, z33, f33, z33w⟩ := J.cells
      refine ⟨by omega, ?_⟩
      refine r_aload_n (pc2 := 289) dL_isStep_288 rfl rfl ?_
      refine r_iload (pc2 := 291) dL_isStep_289 rfl rfl ?_
      refine r_callv_1 (pc2 := 294) dL_isStep_291 rfl rs_99_58 rfl (by decide) rfl (Nat.le_of_ble_eq_true rfl) (Nat.le_of_ble_eq_true rfl) (by assumption) (by assumption) (pa_setPitch J (2 + upZ y 5) (by unfold RG; omega)) (fun r_ w_ h_ => ?_)
      obtain ⟨e_, J⟩ := h_
      rw [e_, q1]
      clear e_ r_
      have n_ := J.1
      obtain ⟨⟨z0, f0, z0w⟩, z33, f33, z33w⟩ := J.cells
      refine ⟨by omega, ?_⟩
      refine r_icmp_ne (pc2 := 297) (tgt := 319) dL_isStep_294 rfl (by decide) (by omega) (by omega) (fun h294 => ?_) (fun h294 => ?_)
      · exfalso
        omega
      · refine r_aload_n (pc2 := 298) dL_isStep_297 rfl rfl ?_
        refine r_aload_n (pc2 := 299) dL_isStep_298 rfl rfl ?_
        refine r_calls_2 (pc2 := 302) dL_isStep_299 rfl rs_99_61 rfl (by decide) rfl (Nat.le_of_ble_eq_true rfl) (Nat.le_of_ble_eq_true rfl) (l_areSlices J q2) (fun r_ w_ h_ => ?_)
        obtain ⟨e_, U3, J, hM⟩ := h_
        rw [e_]
        clear e_ r_
        have n_ := J.1
        obtain ⟨⟨z0, f0, z0w⟩, z33, f33, z33w⟩ := J.cells
        refine ⟨by omega, ?_⟩
        refine r_if_eq (pc2 := 305) (tgt := 319) dL_isStep_302 rfl (by decide) (by omega) (fun h302 => ?_) (fun h302 => ?_)
        · exfalso
          omega
        · refine r_aload_n (pc2 := 306) dL_isStep_305 rfl rfl ?_
          refine r_iconst (pc2 := 307) dL_isStep_306 rfl ?_
          refine r_callv_1 (pc2 := 310) dL_isStep_307 rfl rs_99_9 rfl (by decide) rfl (Nat.le_of_ble_eq_true rfl) (Nat.le_of_ble_eq_true rfl) (by assumption) (by assumption) (ot_count J 1 (by omega)) (fun r_ w_ h_ => ?_)
          obtain ⟨e_, J⟩ := h_
          rw [e_, ct1, q3]
          clear e_ r_
          have n_ := J.1
          obtain ⟨⟨z0, f0, z0w⟩, z33, f33, z33w⟩ := J.cells
          refine ⟨by omega, ?_⟩
          refine r_iload (pc2 := 312) dL_isStep_310 rfl rfl ?_
          refine r_icmp_ne (pc2 := 315) (tgt := 319) dL_isStep_312 rfl (by decide) (by omega) (by omega) (fun h312 => ?_) (fun h312 => ?_)
          · exfalso
            omega
          · refine r_iconst (pc2 := 316) dL_isStep_315 rfl ?_
            refine r_goto (tgt := 320) dL_isStep_316 (by decide) ?_
            refine r_retb dL_isStep_320 rfl (by first | exact Or.inl rfl | exact Or.inr rfl | exact bz_01) ?_
            exact ⟨rfl, _, _, _, _, _, _, J, hM⟩
    · refine ⟨280, 321, by rw [hX4]; rfl, by decide, ?_⟩
      refine r_iload_n (pc2 := 322) dL_isStep_321 rfl rfl ?_
      refine r_iload (pc2 := 324) dL_isStep_322 rfl rfl ?_
      refine r_calls_2 (pc2 := 327) dL_isStep_324 rfl rs_99_28 rfl (by decide) rfl (Nat.le_of_ble_eq_true rfl) (Nat.le_of_ble_eq_true rfl) (l_up _ _ _ (by omega)) (fun r_ w_ h_ => ?_)
      rw [h_.1, h_.2]
      clear h_ w_ r_
      refine ⟨rfl, ?_⟩
      have hu324 := up_rg (x := y) (n := v) (by omega)
      obtain ⟨q1, q2, q3, q4, q5, -⟩ := m_slice J.kv.1 hc hm (a := sl) (k := upZ y v) (by omega) (by omega)
      have hT := if_or q1
      have hth2 := th_rg hu324
      have hg : 0 ≤ o_ifSlice (v, p, sh, ln, pr, gd, co, c, s) sl (upZ y v) ∧ o_ifSlice (v, p, sh, ln, pr, gd, co, c, s) sl (upZ y v) ≤ 1368 := by
        rw [show o_ifSlice (v, p, sh, ln, pr, gd, co, c, s) sl (upZ y v) = GA p sh ln (updZ s sl.toNat (upZ y v)) from if_neg (by omega)]
        exact GA_rg k2 _
      refine r_ist_8 (pc2 := 329) dL_isStep_327 rfl rfl ?_
      refine r_aload_n (pc2 := 330) dL_isStep_329 rfl rfl ?_
      refine r_iload (pc2 := 332) dL_isStep_330 rfl rfl ?_
      refine r_callv_1 (pc2 := 335) dL_isStep_332 rfl rs_99_15 rfl (by decide) rfl (Nat.le_of_ble_eq_true rfl) (Nat.le_of_ble_eq_true rfl) (by assumption) (by assumption) (ot_viewOf J sl (by unfold RG; omega)) (fun r_ w_ h_ => ?_)
      obtain ⟨e_, J⟩ := h_
      rw [e_]
      clear e_ r_
      have n_ := J.1
      obtain ⟨⟨z0, f0, z0w⟩, z33, f33, z33w⟩ := J.cells
      refine ⟨by omega, ?_⟩
      refine r_ist_9 (pc2 := 337) dL_isStep_335 rfl rfl ?_
      refine r_aload_n (pc2 := 338) dL_isStep_337 rfl rfl ?_
      refine r_iload (pc2 := 340) dL_isStep_338 rfl rfl ?_
      refine r_iload (pc2 := 342) dL_isStep_340 rfl rfl ?_
      refine r_callv_2 (pc2 := 345) dL_isStep_342 rfl rs_99_65 rfl (by decide) rfl (Nat.le_of_ble_eq_true rfl) (Nat.le_of_ble_eq_true rfl) (by assumption) (by assumption) (ot_ifSlice J sl (upZ y v) (by unfold RG; omega) (by unfold RG; omega)) (fun r_ w_ h_ => ?_)
      obtain ⟨e_, J⟩ := h_
      rw [e_]
      clear e_ r_
      have n_ := J.1
      obtain ⟨⟨z0, f0, z0w⟩, z33, f33, z33w⟩ := J.cells
      refine ⟨by omega, ?_⟩
      refine r_ist_10 (pc2 := 347) dL_isStep_345 rfl rfl ?_
      refine r_aload_n (pc2 := 348) dL_isStep_347 rfl rfl ?_
      refine r_iload (pc2 := 350) dL_isStep_348 rfl rfl ?_
      refine r_iload (pc2 := 352) dL_isStep_350 rfl rfl ?_
      refine r_callv_2 (pc2 := 355) dL_isStep_352 rfl rs_99_24 rfl (by decide) rfl (Nat.le_of_ble_eq_true rfl) (Nat.le_of_ble_eq_true rfl) (by assumption) (by assumption) (oa_slice J sl (upZ y v) (by unfold RG; omega) (by unfold RG; omega)) (fun r_ w_ h_ => ?_)
      obtain ⟨e_, J⟩ := h_
      rw [e_]
      clear e_ r_
      have n_ := J.1
      obtain ⟨⟨z0, f0, z0w⟩, z33, f33, z33w⟩ := J.cells
      refine ⟨by omega, ?_⟩
      refine r_ist_11 (pc2 := 357) dL_isStep_355 rfl rfl ?_
      refine r_iload (pc2 := 359) dL_isStep_357 rfl rfl ?_
      refine r_iload (pc2 := 361) dL_isStep_359 rfl rfl ?_
      refine r_iload (pc2 := 363) dL_isStep_361 rfl rfl ?_
      refine r_icmp_ne (pc2 := 366) (tgt := 371) dL_isStep_363 rfl (by decide) (by omega) (by omega) (fun h363 => ?_) (fun h363 => ?_)
      · refine r_iload (pc2 := 373) dL_isStep_371 rfl rfl ?_
        refine r_icmp_ne (pc2 := 376) (tgt := 421) dL_isStep_373 rfl (by decide) (by omega) (by omega) (fun h373 => ?_) (fun h373 => ?_)
        · exfalso
          omega
        · refine r_aload_n (pc2 := 377) dL_isStep_376 rfl rfl ?_
          refine r_iload (pc2 := 379) dL_isStep_377 rfl rfl ?_
          refine r_aload_n (pc2 := 380) dL_isStep_379 rfl rfl ?_
          refine r_iload (pc2 := 382) dL_isStep_380 rfl rfl ?_
          refine r_calls_2 (pc2 := 385) dL_isStep_382 rfl rs_99_18 rfl (by decide) rfl (Nat.le_of_ble_eq_true rfl) (Nat.le_of_ble_eq_true rfl) (l_there J (upZ y v) (by unfold RG; omega)) (fun r_ w_ h_ => ?_)
          obtain ⟨e_, J⟩ := h_
          rw [e_, nx1_slice]
          clear e_ r_
          have n_ := J.1
          obtain ⟨⟨z0, f0, z0w⟩, z33, f33, z33w⟩ := J.cells
          refine ⟨by omega, ?_⟩
          refine r_callv_2 (pc2 := 388) dL_isStep_385 rfl rs_99_24 rfl (by decide) rfl (Nat.le_of_ble_eq_true rfl) (Nat.le_of_ble_eq_true rfl) (by assumption) (by assumption) (pa_slice J sl (thZ v (upZ y v)) (by unfold RG; omega) (by unfold RG; omega)) (fun r_ w_ h_ => ?_)
          obtain ⟨e_, J⟩ := h_
          rw [e_, q2]
          clear e_ r_
          have n_ := J.1
          obtain ⟨⟨z0, f0, z0w⟩, z33, f33, z33w⟩ := J.cells
          refine ⟨by omega, ?_⟩
          refine r_iload (pc2 := 390) dL_isStep_388 rfl rfl ?_
          refine r_if_ge (pc2 := 393) (tgt := 398) dL_isStep_390 rfl (by decide) (by omega) (fun h390 => ?_) (fun h390 => ?_)
          · have hT2 : 0 ≤ (o_slice (v, p, sh, ln, pr, gd, co, c, s) sl (upZ y v)).1 ∧ (o_slice (v, p, sh, ln, pr, gd, co, c, s) sl (upZ y v)).1 < v := by omega
            have hth3 := th_rg hT2
            rw [if_neg (show ¬ (o_slice (v, p, sh, ln, pr, gd, co, c, s) sl (upZ y v)).1 < 0 by omega)]
            refine r_aload_n (pc2 := 399) dL_isStep_398 rfl rfl ?_
            refine r_iload (pc2 := 401) dL_isStep_399 rfl rfl ?_
            refine r_calls_2 (pc2 := 404) dL_isStep_401 rfl rs_99_18 rfl (by decide) rfl (Nat.le_of_ble_eq_true rfl) (Nat.le_of_ble_eq_true rfl) (l_there J (o_slice (v, p, sh, ln, pr, gd, co, c, s) sl (upZ y v)).1 (by unfold RG; omega)) (fun r_ w_ h_ => ?_)
            obtain ⟨e_, J⟩ := h_
            rw [e_, nx1_slice]
            clear e_ r_
            have n_ := J.1
            obtain ⟨⟨z0, f0, z0w⟩, z33, f33, z33w⟩ := J.cells
            refine ⟨by omega, ?_⟩
            refine r_icmp_ne (pc2 := 407) (tgt := 421) dL_isStep_404 rfl (by decide) (by omega) (by omega) (fun h404 => ?_) (fun h404 => ?_)
            · exfalso
              omega
            · refine r_aload_n (pc2 := 408) dL_isStep_407 rfl rfl ?_
              refine r_iconst (pc2 := 409) dL_isStep_408 rfl ?_
              refine r_callv_1 (pc2 := 412) dL_isStep_409 rfl rs_99_9 rfl (by decide) rfl (Nat.le_of_ble_eq_true rfl) (Nat.le_of_ble_eq_true rfl) (by assumption) (by assumption) (ot_count J 4 (by omega)) (fun r_ w_ h_ => ?_)
              obtain ⟨e_, J⟩ := h_
              rw [e_, q4]
              clear e_ r_
              have n_ := J.1
              obtain ⟨⟨z0, f0, z0w⟩, z33, f33, z33w⟩ := J.cells
              refine ⟨by omega, ?_⟩
              refine r_iload (pc2 := 414) dL_isStep_412 rfl rfl ?_
              refine r_icmp_ne (pc2 := 417) (tgt := 421) dL_isStep_414 rfl (by decide) (by omega) (by omega) (fun h414 => ?_) (fun h414 => ?_)
              · exfalso
                omega
              · refine r_iconst (pc2 := 418) dL_isStep_417 rfl ?_
                refine r_goto (tgt := 422) dL_isStep_418 (by decide) ?_
                refine r_retb dL_isStep_422 rfl (by first | exact Or.inl rfl | exact Or.inr rfl | exact bz_01) ?_
                exact ⟨rfl, _, _, _, _, _, _, J, q3⟩
          · rw [if_pos (show (o_slice (v, p, sh, ln, pr, gd, co, c, s) sl (upZ y v)).1 < 0 by omega)]
            refine r_iload (pc2 := 395) dL_isStep_393 rfl rfl ?_
            refine r_goto (tgt := 404) dL_isStep_395 (by decide) ?_
            refine r_icmp_ne (pc2 := 407) (tgt := 421) dL_isStep_404 rfl (by decide) (by omega) (by omega) (fun h404 => ?_) (fun h404 => ?_)
            · exfalso
              omega
            · refine r_aload_n (pc2 := 408) dL_isStep_407 rfl rfl ?_
              refine r_iconst (pc2 := 409) dL_isStep_408 rfl ?_
              refine r_callv_1 (pc2 := 412) dL_isStep_409 rfl rs_99_9 rfl (by decide) rfl (Nat.le_of_ble_eq_true rfl) (Nat.le_of_ble_eq_true rfl) (by assumption) (by assumption) (ot_count J 4 (by omega)) (fun r_ w_ h_ => ?_)
              obtain ⟨e_, J⟩ := h_
              rw [e_, q4]
              clear e_ r_
              have n_ := J.1
              obtain ⟨⟨z0, f0, z0w⟩, z33, f33, z33w⟩ := J.cells
              refine ⟨by omega, ?_⟩
              refine r_iload (pc2 := 414) dL_isStep_412 rfl rfl ?_
              refine r_icmp_ne (pc2 := 417) (tgt := 421) dL_isStep_414 rfl (by decide) (by omega) (by omega) (fun h414 => ?_) (fun h414 => ?_)
              · exfalso
                omega
              · refine r_iconst (pc2 := 418) dL_isStep_417 rfl ?_
                refine r_goto (tgt := 422) dL_isStep_418 (by decide) ?_
                refine r_retb dL_isStep_422 rfl (by first | exact Or.inl rfl | exact Or.inr rfl | exact bz_01) ?_
                exact ⟨rfl, _, _, _, _, _, _, J, q3⟩
      · refine r_bipush (pc2 := 368) dL_isStep_366 rfl (by decide) ?_
        refine r_goto (tgt := 373) dL_isStep_368 (by decide) ?_
        refine r_icmp_ne (pc2 := 376) (tgt := 421) dL_isStep_373 rfl (by decide) (by omega) (by omega) (fun h373 => ?_) (fun h373 => ?_)
        · exfalso
          omega
        · refine r_aload_n (pc2 := 377) dL_isStep_376 rfl rfl ?_
          refine r_iload (pc2 := 379) dL_isStep_377 rfl rfl ?_
          refine r_aload_n (pc2 := 380) dL_isStep_379 rfl rfl ?_
          refine r_iload (pc2 := 382) dL_isStep_380 rfl rfl ?_
          refine r_calls_2 (pc2 := 385) dL_isStep_382 rfl rs_99_18 rfl (by decide) rfl (Nat.le_of_ble_eq_true rfl) (Nat.le_of_ble_eq_true rfl) (l_there J (upZ y v) (by unfold RG; omega)) (fun r_ w_ h_ => ?_)
          obtain ⟨e_, J⟩ := h_
          rw [e_, nx1_slice]
          clear e_ r_
          have n_ := J.1
          obtain ⟨⟨z0, f0, z0w⟩, z33, f33, z33w⟩ := J.cells
          refine ⟨by omega, ?_⟩
          refine r_callv_2 (pc2 := 388) dL_isStep_385 rfl rs_99_24 rfl (by decide) rfl (Nat.le_of_ble_eq_true rfl) (Nat.le_of_ble_eq_true rfl) (by assumption) (by assumption) (pa_slice J sl (thZ v (upZ y v)) (by unfold RG; omega) (by unfold RG; omega)) (fun r_ w_ h_ => ?_)
          obtain ⟨e_, J⟩ := h_
          rw [e_, q2]
          clear e_ r_
          have n_ := J.1
          obtain ⟨⟨z0, f0, z0w⟩, z33, f33, z33w⟩ := J.cells
          refine ⟨by omega, ?_⟩
          refine r_iload (pc2 := 390) dL_isStep_388 rfl rfl ?_
          refine r_if_ge (pc2 := 393) (tgt := 398) dL_isStep_390 rfl (by decide) (by omega) (fun h390 => ?_) (fun h390 => ?_)
          · have hT2 : 0 ≤ (o_slice (v, p, sh, ln, pr, gd, co, c, s) sl (upZ y v)).1 ∧ (o_slice (v, p, sh, ln, pr, gd, co, c, s) sl (upZ y v)).1 < v := by omega
            have hth3 := th_rg hT2
            rw [if_neg (show ¬ (o_slice (v, p, sh, ln, pr, gd, co, c, s) sl (upZ y v)).1 < 0 by omega)]
            refine r_aload_n (pc2 := 399) dL_isStep_398 rfl rfl ?_
            refine r_iload (pc2 := 401) dL_isStep_399 rfl rfl ?_
            refine r_calls_2 (pc2 := 404) dL_isStep_401 rfl rs_99_18 rfl (by decide) rfl (Nat.le_of_ble_eq_true rfl) (Nat.le_of_ble_eq_true rfl) (l_there J (o_slice (v, p, sh, ln, pr, gd, co, c, s) sl (upZ y v)).1 (by unfold RG; omega)) (fun r_ w_ h_ => ?_)
            obtain ⟨e_, J⟩ := h_
            rw [e_, nx1_slice]
            clear e_ r_
            have n_ := J.1
            obtain ⟨⟨z0, f0, z0w⟩, z33, f33, z33w⟩ := J.cells
            refine ⟨by omega, ?_⟩
            refine r_icmp_ne (pc2 := 407) (tgt := 421) dL_isStep_404 rfl (by decide) (by omega) (by omega) (fun h404 => ?_) (fun h404 => ?_)
            · exfalso
              omega
            · refine r_aload_n (pc2 := 408) dL_isStep_407 rfl rfl ?_
              refine r_iconst (pc2 := 409) dL_isStep_408 rfl ?_
              refine r_callv_1 (pc2 := 412) dL_isStep_409 rfl rs_99_9 rfl (by decide) rfl (Nat.le_of_ble_eq_true rfl) (Nat.le_of_ble_eq_true rfl) (by assumption) (by assumption) (ot_count J 4 (by omega)) (fun r_ w_ h_ => ?_)
              obtain ⟨e_, J⟩ := h_
              rw [e_, q4]
              clear e_ r_
              have n_ := J.1
              obtain ⟨⟨z0, f0, z0w⟩, z33, f33, z33w⟩ := J.cells
              refine ⟨by omega, ?_⟩
              refine r_iload (pc2 := 414) dL_isStep_412 rfl rfl ?_
              refine r_icmp_ne (pc2 := 417) (tgt := 421) dL_isStep_414 rfl (by decide) (by omega) (by omega) (fun h414 => ?_) (fun h414 => ?_)
              · exfalso
                omega
              · refine r_iconst (pc2 := 418) dL_isStep_417 rfl ?_
                refine r_goto (tgt := 422) dL_isStep_418 (by decide) ?_
                refine r_retb dL_isStep_422 rfl (by first | exact Or.inl rfl | exact Or.inr rfl | exact bz_01) ?_
                exact ⟨rfl, _, _, _, _, _, _, J, q3⟩
          · rw [if_pos (show (o_slice (v, p, sh, ln, pr, gd, co, c, s) sl (upZ y v)).1 < 0 by omega)]
            refine r_iload (pc2 := 395) dL_isStep_393 rfl rfl ?_
            refine r_goto (tgt := 404) dL_isStep_395 (by decide) ?_
            refine r_icmp_ne (pc2 := 407) (tgt := 421) dL_isStep_404 rfl (by decide) (by omega) (by omega) (fun h404 => ?_) (fun h404 => ?_)
            · exfalso
              omega
            · refine r_aload_n (pc2 := 408) dL_isStep_407 rfl rfl ?_
              refine r_iconst (pc2 := 409) dL_isStep_408 rfl ?_
              refine r_callv_1 (pc2 := 412) dL_isStep_409 rfl rs_99_9 rfl (by decide) rfl (Nat.le_of_ble_eq_true rfl) (Nat.le_of_ble_eq_true rfl) (by assumption) (by assumption) (ot_count J 4 (by omega)) (fun r_ w_ h_ => ?_)
              obtain ⟨e_, J⟩ := h_
              rw [e_, q4]
              clear e_ r_
              have n_ := J.1
              obtain ⟨⟨z0, f0, z0w⟩, z33, f33, z33w⟩ := J.cells
              refine ⟨by omega, ?_⟩
              refine r_iload (pc2 := 414) dL_isStep_412 rfl rfl ?_
              refine r_icmp_ne (pc2 := 417) (tgt := 421) dL_isStep_414 rfl (by decide) (by omega) (by omega) (fun h414 => ?_) (fun h414 => ?_)
              · exfalso
                omega
              · refine r_iconst (pc2 := 418) dL_isStep_417 rfl ?_
                refine r_goto (tgt := 422) dL_isStep_418 (by decide) ?_
                refine r_retb dL_isStep_422 rfl (by first | exact Or.inl rfl | exact Or.inr rfl | exact bz_01) ?_
                exact ⟨rfl, _, _, _, _, _, _, J, q3⟩
    · refine ⟨280, 321, by rw [hX5]; rfl, by decide, ?_⟩
      refine r_iload_n (pc2 := 322) dL_isStep_321 rfl rfl ?_
      refine r_iload (pc2 := 324) dL_isStep_322 rfl rfl ?_
      refine r_calls_2 (pc2 := 327) dL_isStep_324 rfl rs_99_28 rfl (by decide) rfl (Nat.le_of_ble_eq_true rfl) (Nat.le_of_ble_eq_true rfl) (l_up _ _ _ (by omega)) (fun r_ w_ h_ => ?_)
      rw [h_.1, h_.2]
      clear h_ w_ r_
      refine ⟨rfl, ?_⟩
      have hu324 := up_rg (x := y) (n := v) (by omega)
      obtain ⟨q1, q2, q3, q4, q5, -⟩ := m_slice J.kv.1 hc hm (a := sl) (k := upZ y v) (by omega) (by omega)
      have hT := if_or q1
      have hth2 := th_rg hu324
      have hg : 0 ≤ o_ifSlice (v, p, sh, ln, pr, gd, co, c, s) sl (upZ y v) ∧ o_ifSlice (v, p, sh, ln, pr, gd, co, c, s) sl (upZ y v) ≤ 1368 := by
        rw [show o_ifSlice (v, p, sh, ln, pr, gd, co, c, s) sl (upZ y v) = GA p sh ln (updZ s sl.toNat (upZ y v)) from if_neg (by omega)]
        exact GA_rg k2 _
      refine r_ist_8 (pc2 := 329) dL_isStep_327 rfl rfl ?_
      refine r_aload_n (pc2 := 330) dL_isStep_329 rfl rfl ?_
      refine r_iload (pc2 := 332) dL_isStep_330 rfl rfl ?_
      refine r_callv_1 (pc2 := 335) dL_isStep_332 rfl rs_99_15 rfl (by decide) rfl (Nat.le_of_ble_eq_true rfl) (Nat.le_of_ble_eq_true rfl) (by assumption) (by assumption) (ot_viewOf J sl (by unfold RG; omega)) (fun r_ w_ h_ => ?_)
      obtain ⟨e_, J⟩ := h_
      rw [e_]
      clear e_ r_
      have n_ := J.1
      obtain ⟨⟨z0, f0, z0w⟩, z33, f33, z33w⟩ := J.cells
      refine ⟨by omega, ?_⟩
      refine r_ist_9 (pc2 := 337) dL_isStep_335 rfl rfl ?_
      refine r_aload_n (pc2 := 338) dL_isStep_337 rfl rfl ?_
      refine r_iload (pc2 := 340) dL_isStep_338 rfl rfl ?_
      refine r_iload (pc2 := 342) dL_isStep_340 rfl rfl ?_
      refine r_callv_2 (pc2 := 345) dL_isStep_342 rfl rs_99_65 rfl (by decide) rfl (Nat.le_of_ble_eq_true rfl) (Nat.le_of_ble_eq_true rfl) (by assumption) (by assumption) (ot_ifSlice J sl (upZ y v) (by unfold RG; omega) (by unfold RG; omega)) (fun r_ w_ h_ => ?_)
      obtain ⟨e_, J⟩ := h_
      rw [e_]
      clear e_ r_
      have n_ := J.1
      obtain ⟨⟨z0, f0, z0w⟩, z33, f33, z33w⟩ := J.cells
      refine ⟨by omega, ?_⟩
      refine r_ist_10 (pc2 := 347) dL_isStep_345 rfl rfl ?_
      refine r_aload_n (pc2 := 348) dL_isStep_347 rfl rfl ?_
      refine r_iload (pc2 := 350) dL_isStep_348 rfl rfl ?_
      refine r_iload (pc2 := 352) dL_isStep_350 rfl rfl ?_
      refine r_callv_2 (pc2 := 355) dL_isStep_352 rfl rs_99_24 rfl (by decide) rfl (Nat.le_of_ble_eq_true rfl) (Nat.le_of_ble_eq_true rfl) (by assumption) (by assumption) (oa_slice J sl (upZ y v) (by unfold RG; omega) (by unfold RG; omega)) (fun r_ w_ h_ => ?_)
      obtain ⟨e_, J⟩ := h_
      rw [e_]
      clear e_ r_
      have n_ := J.1
      obtain ⟨⟨z0, f0, z0w⟩, z33, f33, z33w⟩ := J.cells
      refine ⟨by omega, ?_⟩
      refine r_ist_11 (pc2 := 357) dL_isStep_355 rfl rfl ?_
      refine r_iload (pc2 := 359) dL_isStep_357 rfl rfl ?_
      refine r_iload (pc2 := 361) dL_isStep_359 rfl rfl ?_
      refine r_iload (pc2 := 363) dL_isStep_361 rfl rfl ?_
      refine r_icmp_ne (pc2 := 366) (tgt := 371) dL_isStep_363 rfl (by decide) (by omega) (by omega) (fun h363 => ?_) (fun h363 => ?_)
      · refine r_iload (pc2 := 373) dL_isStep_371 rfl rfl ?_
        refine r_icmp_ne (pc2 := 376) (tgt := 421) dL_isStep_373 rfl (by decide) (by omega) (by omega) (fun h373 => ?_) (fun h373 => ?_)
        · exfalso
          omega
        · refine r_aload_n (pc2 := 377) dL_isStep_376 rfl rfl ?_
          refine r_iload (pc2 := 379) dL_isStep_377 rfl rfl ?_
          refine r_aload_n (pc2 := 380) dL_isStep_379 rfl rfl ?_
          refine r_iload (pc2 := 382) dL_isStep_380 rfl rfl ?_
          refine r_calls_2 (pc2 := 385) dL_isStep_382 rfl rs_99_18 rfl (by decide) rfl (Nat.le_of_ble_eq_true rfl) (Nat.le_of_ble_eq_true rfl) (l_there J (upZ y v) (by unfold RG; omega)) (fun r_ w_ h_ => ?_)
          obtain ⟨e_, J⟩ := h_
          rw [e_, nx1_slice]
          clear e_ r_
          have n_ := J.1
          obtain ⟨⟨z0, f0, z0w⟩, z33, f33, z33w⟩ := J.cells
          refine ⟨by omega, ?_⟩
          refine r_callv_2 (pc2 := 388) dL_isStep_385 rfl rs_99_24 rfl (by decide) rfl (Nat.le_of_ble_eq_true rfl) (Nat.le_of_ble_eq_true rfl) (by assumption) (by assumption) (pa_slice J sl (thZ v (upZ y v)) (by unfold RG; omega) (by unfold RG; omega)) (fun r_ w_ h_ => ?_)
          obtain ⟨e_, J⟩ := h_
          rw [e_, q2]
          clear e_ r_
          have n_ := J.1
          obtain ⟨⟨z0, f0, z0w⟩, z33, f33, z33w⟩ := J.cells
          refine ⟨by omega, ?_⟩
          refine r_iload (pc2 := 390) dL_isStep_388 rfl rfl ?_
          refine r_if_ge (pc2 := 393) (tgt := 398) dL_isStep_390 rfl (by decide) (by omega) (fun h390 => ?_) (fun h390 => ?_)
          · have hT2 : 0 ≤ (o_slice (v, p, sh, ln, pr, gd, co, c, s) sl (upZ y v)).1 ∧ (o_slice (v, p, sh, ln, pr, gd, co, c, s) sl (upZ y v)).1 < v := by omega
            have hth3 := th_rg hT2
            rw [if_neg (show ¬ (o_slice (v, p, sh, ln, pr, gd, co, c, s) sl (upZ y v)).1 < 0 by omega)]
            refine r_aload_n (pc2 := 399) dL_isStep_398 rfl rfl ?_
            refine r_iload (pc2 := 401) dL_isStep_399 rfl rfl ?_
            refine r_calls_2 (pc2 := 404) dL_isStep_401 rfl rs_99_18 rfl (by decide) rfl (Nat.le_of_ble_eq_true rfl) (Nat.le_of_ble_eq_true rfl) (l_there J (o_slice (v, p, sh, ln, pr, gd, co, c, s) sl (upZ y v)).1 (by unfold RG; omega)) (fun r_ w_ h_ => ?_)
            obtain ⟨e_, J⟩ := h_
            rw [e_, nx1_slice]
            clear e_ r_
            have n_ := J.1
            obtain ⟨⟨z0, f0, z0w⟩, z33, f33, z33w⟩ := J.cells
            refine ⟨by omega, ?_⟩
            refine r_icmp_ne (pc2 := 407) (tgt := 421) dL_isStep_404 rfl (by decide) (by omega) (by omega) (fun h404 => ?_) (fun h404 => ?_)
            · exfalso
              omega
            · refine r_aload_n (pc2 := 408) dL_isStep_407 rfl rfl ?_
              refine r_iconst (pc2 := 409) dL_isStep_408 rfl ?_
              refine r_callv_1 (pc2 := 412) dL_isStep_409 rfl rs_99_9 rfl (by decide) rfl (Nat.le_of_ble_eq_true rfl) (Nat.le_of_ble_eq_true rfl) (by assumption) (by assumption) (ot_count J 4 (by omega)) (fun r_ w_ h_ => ?_)
              obtain ⟨e_, J⟩ := h_
              rw [e_, q4]
              clear e_ r_
              have n_ := J.1
              obtain ⟨⟨z0, f0, z0w⟩, z33, f33, z33w⟩ := J.cells
              refine ⟨by omega, ?_⟩
              refine r_iload (pc2 := 414) dL_isStep_412 rfl rfl ?_
              refine r_icmp_ne (pc2 := 417) (tgt := 421) dL_isStep_414 rfl (by decide) (by omega) (by omega) (fun h414 => ?_) (fun h414 => ?_)
              · exfalso
                omega
              · refine r_iconst (pc2 := 418) dL_isStep_417 rfl ?_
                refine r_goto (tgt := 422) dL_isStep_418 (by decide) ?_
                refine r_retb dL_isStep_422 rfl (by first | exact Or.inl rfl | exact Or.inr rfl | exact bz_01) ?_
                exact ⟨rfl, _, _, _, _, _, _, J, q3⟩
          · rw [if_pos (show (o_slice (v, p, sh, ln, pr, gd, co, c, s) sl (upZ y v)).1 < 0 by omega)]
            refine r_iload (pc2 := 395) dL_isStep_393 rfl rfl ?_
            refine r_goto (tgt := 404) dL_isStep_395 (by decide) ?_
            refine r_icmp_ne (pc2 := 407) (tgt := 421) dL_isStep_404 rfl (by decide) (by omega) (by omega) (fun h404 => ?_) (fun h404 => ?_)
            · exfalso
              omega
            · refine r_aload_n (pc2 := 408) dL_isStep_407 rfl rfl ?_
              refine r_iconst (pc2 := 409) dL_isStep_408 rfl ?_
              refine r_callv_1 (pc2 := 412) dL_isStep_409 rfl rs_99_9 rfl (by decide) rfl (Nat.le_of_ble_eq_true rfl) (Nat.le_of_ble_eq_true rfl) (by assumption) (by assumption) (ot_count J 4 (by omega)) (fun r_ w_ h_ => ?_)
              obtain ⟨e_, J⟩ := h_
              rw [e_, q4]
              clear e_ r_
              have n_ := J.1
              obtain ⟨⟨z0, f0, z0w⟩, z33, f33, z33w⟩ := J.cells
              refine ⟨by omega, ?_⟩
              refine r_iload (pc2 := 414) dL_isStep_412 rfl rfl ?_
              refine r_icmp_ne (pc2 := 417) (tgt := 421) dL_isStep_414 rfl (by decide) (by omega) (by omega) (fun h414 => ?_) (fun h414 => ?_)
              · exfalso
                omega
              · refine r_iconst (pc2 := 418) dL_isStep_417 rfl ?_
                refine r_goto (tgt := 422) dL_isStep_418 (by decide) ?_
                refine r_retb dL_isStep_422 rfl (by first | exact Or.inl rfl | exact Or.inr rfl | exact bz_01) ?_
                exact ⟨rfl, _, _, _, _, _, _, J, q3⟩
      · refine r_bipush (pc2 := 368) dL_isStep_366 rfl (by decide) ?_
        refine r_goto (tgt := 373) dL_isStep_368 (by decide) ?_
        refine r_icmp_ne (pc2 := 376) (tgt := 421) dL_isStep_373 rfl (by decide) (by omega) (by omega) (fun h373 => ?_) (fun h373 => ?_)
        · exfalso
          omega
        · refine r_aload_n (pc2 := 377) dL_isStep_376 rfl rfl ?_
          refine r_iload (pc2 := 379) dL_isStep_377 rfl rfl ?_
          refine r_aload_n (pc2 := 380) dL_isStep_379 rfl rfl ?_
          refine r_iload (pc2 := 382) dL_isStep_380 rfl rfl ?_
          refine r_calls_2 (pc2 := 385) dL_isStep_382 rfl rs_99_18 rfl (by decide) rfl (Nat.le_of_ble_eq_true rfl) (Nat.le_of_ble_eq_true rfl) (l_there J (upZ y v) (by unfold RG; omega)) (fun r_ w_ h_ => ?_)
          obtain ⟨e_, J⟩ := h_
          rw [e_, nx1_slice]
          clear e_ r_
          have n_ := J.1
          obtain ⟨⟨z0, f0, z0w⟩, z33, f33, z33w⟩ := J.cells
          refine ⟨by omega, ?_⟩
          refine r_callv_2 (pc2 := 388) dL_isStep_385 rfl rs_99_24 rfl (by decide) rfl (Nat.le_of_ble_eq_true rfl) (Nat.le_of_ble_eq_true rfl) (by assumption) (by assumption) (pa_slice J sl (thZ v (upZ y v)) (by unfold RG; omega) (by unfold RG; omega)) (fun r_ w_ h_ => ?_)
          obtain ⟨e_, J⟩ := h_
          rw [e_, q2]
          clear e_ r_
          have n_ := J.1
          obtain ⟨⟨z0, f0, z0w⟩, z33, f33, z33w⟩ := J.cells
          refine ⟨by omega, ?_⟩
          refine r_iload (pc2 := 390) dL_isStep_388 rfl rfl ?_
          refine r_if_ge (pc2 := 393) (tgt := 398) dL_isStep_390 rfl (by decide) (by omega) (fun h390 => ?_) (fun h390 => ?_)
          · have hT2 : 0 ≤ (o_slice (v, p, sh, ln, pr, gd, co, c, s) sl (upZ y v)).1 ∧ (o_slice (v, p, sh, ln, pr, gd, co, c, s) sl (upZ y v)).1 < v := by omega
            have hth3 := th_rg hT2
            rw [if_neg (show ¬ (o_slice (v, p, sh, ln, pr, gd, co, c, s) sl (upZ y v)).1 < 0 by omega)]
            refine r_aload_n (pc2 := 399) dL_isStep_398 rfl rfl ?_
            refine r_iload (pc2 := 401) dL_isStep_399 rfl rfl ?_
            refine r_calls_2 (pc2 := 404) dL_isStep_401 rfl rs_99_18 rfl (by decide) rfl (Nat.le_of_ble_eq_true rfl) (Nat.le_of_ble_eq_true rfl) (l_there J (o_slice (v, p, sh, ln, pr, gd, co, c, s) sl (upZ y v)).1 (by unfold RG; omega)) (fun r_ w_ h_ => ?_)
            obtain ⟨e_, J⟩ := h_
            rw [e_, nx1_slice]
            clear e_ r_
            have n_ := J.1
            obtain ⟨⟨z0, f0, z0w⟩, z33, f33, z33w⟩ := J.cells
            refine ⟨by omega, ?_⟩
            refine r_icmp_ne (pc2 := 407) (tgt := 421) dL_isStep_404 rfl (by decide) (by omega) (by omega) (fun h404 => ?_) (fun h404 => ?_)
            · exfalso
              omega
            · refine r_aload_n (pc2 := 408) dL_isStep_407 rfl rfl ?_
              refine r_iconst (pc2 := 409) dL_isStep_408 rfl ?_
              refine r_callv_1 (pc2 := 412) dL_isStep_409 rfl rs_99_9 rfl (by decide) rfl (Nat.le_of_ble_eq_true rfl) (Nat.le_of_ble_eq_true rfl) (by assumption) (by assumption) (ot_count J 4 (by omega)) (fun r_ w_ h_ => ?_)
              obtain ⟨e_, J⟩ := h_
              rw [e_, q4]
              clear e_ r_
              have n_ := J.1
              obtain ⟨⟨z0, f0, z0w⟩, z33, f33, z33w⟩ := J.cells
              refine ⟨by omega, ?_⟩
              refine r_iload (pc2 := 414) dL_isStep_412 rfl rfl ?_
              refine r_icmp_ne (pc2 := 417) (tgt := 421) dL_isStep_414 rfl (by decide) (by omega) (by omega) (fun h414 => ?_) (fun h414 => ?_)
              · exfalso
                omega
              · refine r_iconst (pc2 := 418) dL_isStep_417 rfl ?_
                refine r_goto (tgt := 422) dL_isStep_418 (by decide) ?_
                refine r_retb dL_isStep_422 rfl (by first | exact Or.inl rfl | exact Or.inr rfl | exact bz_01) ?_
                exact ⟨rfl, _, _, _, _, _, _, J, q3⟩
          · rw [if_pos (show (o_slice (v, p, sh, ln, pr, gd, co, c, s) sl (upZ y v)).1 < 0 by omega)]
            refine r_iload (pc2 := 395) dL_isStep_393 rfl rfl ?_
            refine r_goto (tgt := 404) dL_isStep_395 (by decide) ?_
            refine r_icmp_ne (pc2 := 407) (tgt := 421) dL_isStep_404 rfl (by decide) (by omega) (by omega) (fun h404 => ?_) (fun h404 => ?_)
            · exfalso
              omega
            · refine r_aload_n (pc2 := 408) dL_isStep_407 rfl rfl ?_
              refine r_iconst (pc2 := 409) dL_isStep_408 rfl ?_
              refine r_callv_1 (pc2 := 412) dL_isStep_409 rfl rs_99_9 rfl (by decide) rfl (Nat.le_of_ble_eq_true rfl) (Nat.le_of_ble_eq_true rfl) (by assumption) (by assumption) (ot_count J 4 (by omega)) (fun r_ w_ h_ => ?_)
              obtain ⟨e_, J⟩ := h_
              rw [e_, q4]
              clear e_ r_
              have n_ := J.1
              obtain ⟨⟨z0, f0, z0w⟩, z33, f33, z33w⟩ := J.cells
              refine ⟨by omega, ?_⟩
              refine r_iload (pc2 := 414) dL_isStep_412 rfl rfl ?_
              refine r_icmp_ne (pc2 := 417) (tgt := 421) dL_isStep_414 rfl (by decide) (by omega) (by omega) (fun h414 => ?_) (fun h414 => ?_)
              · exfalso
                omega
              · refine r_iconst (pc2 := 418) dL_isStep_417 rfl ?_
                refine r_goto (tgt := 422) dL_isStep_418 (by decide) ?_
                refine r_retb dL_isStep_422 rfl (by first | exact Or.inl rfl | exact Or.inr rfl | exact bz_01) ?_
                exact ⟨rfl, _, _, _, _, _, _, J, q3⟩
    · refine ⟨280, 321, by rw [hX6]; rfl, by decide, ?_⟩
      refine r_iload_n (pc2 := 322) dL_isStep_321 rfl rfl ?_
      refine r_iload (pc2 := 324) dL_isStep_322 rfl rfl ?_
      refine r_calls_2 (pc2 := 327) dL_isStep_324 rfl rs_99_28 rfl (by decide) rfl (Nat.le_of_ble_eq_true rfl) (Nat.le_of_ble_eq_true rfl) (l_up _ _ _ (by omega)) (fun r_ w_ h_ => ?_)
      rw [h_.1, h_.2]
      clear h_ w_ r_
      refine ⟨rfl, ?_⟩
      have hu324 := up_rg (x := y) (n := v) (by omega)
      obtain ⟨q1, q2, q3, q4, q5, -⟩ := m_slice J.kv.1 hc hm (a := sl) (k := upZ y v) (by omega) (by omega)
      have hT := if_or q1
      have hth2 := th_rg hu324
      have hg : 0 ≤ o_ifSlice (v, p, sh, ln, pr, gd, co, c, s) sl (upZ y v) ∧ o_ifSlice (v, p, sh, ln, pr, gd, co, c, s) sl (upZ y v) ≤ 1368 := by
        rw [show o_ifSlice (v, p, sh, ln, pr, gd, co, c, s) sl (upZ y v) = GA p sh ln (updZ s sl.toNat (upZ y v)) from if_neg (by omega)]
        exact GA_rg k2 _
      refine r_ist_8 (pc2 := 329) dL_isStep_327 rfl rfl ?_
      refine r_aload_n (pc2 := 330) dL_isStep_329 rfl rfl ?_
      refine r_iload (pc2 := 332) dL_isStep_330 rfl rfl ?_
      refine r_callv_1 (pc2 := 335) dL_isStep_332 rfl rs_99_15 rfl (by decide) rfl (Nat.le_of_ble_eq_true rfl) (Nat.le_of_ble_eq_true rfl) (by assumption) (by assumption) (ot_viewOf J sl (by unfold RG; omega)) (fun r_ w_ h_ => ?_)
      obtain ⟨e_, J⟩ := h_
      rw [e_]
      clear e_ r_
      have n_ := J.1
      obtain ⟨⟨z0, f0, z0w⟩, z33, f33, z33w⟩ := J.cells
      refine ⟨by omega, ?_⟩
      refine r_ist_9 (pc2 := 337) dL_isStep_335 rfl rfl ?_
      refine r_aload_n (pc2 := 338) dL_isStep_337 rfl rfl ?_
      refine r_iload (pc2 := 340) dL_isStep_338 rfl rfl ?_
      refine r_iload (pc2 := 342) dL_isStep_340 rfl rfl ?_
      refine r_callv_2 (pc2 := 345) dL_isStep_342 rfl rs_99_65 rfl (by decide) rfl (Nat.le_of_ble_eq_true rfl) (Nat.le_of_ble_eq_true rfl) (by assumption) (by assumption) (ot_ifSlice J sl (upZ y v) (by unfold RG; omega) (by unfold RG; omega)) (fun r_ w_ h_ => ?_)
      obtain ⟨e_, J⟩ := h_
      rw [e_]
      clear e_ r_
      have n_ := J.1
      obtain ⟨⟨z0, f0, z0w⟩, z33, f33, z33w⟩ := J.cells
      refine ⟨by omega, ?_⟩
      refine r_ist_10 (pc2 := 347) dL_isStep_345 rfl rfl ?_
      refine r_aload_n (pc2 := 348) dL_isStep_347 rfl rfl ?_
      refine r_iload (pc2 := 350) dL_isStep_348 rfl rfl ?_
      refine r_iload (pc2 := 352) dL_isStep_350 rfl rfl ?_
      refine r_callv_2 (pc2 := 355) dL_isStep_352 rfl rs_99_24 rfl (by decide) rfl (Nat.le_of_ble_eq_true rfl) (Nat.le_of_ble_eq_true rfl) (by assumption) (by assumption) (oa_slice J sl (upZ y v) (by unfold RG; omega) (by unfold RG; omega)) (fun r_ w_ h_ => ?_)
      obtain ⟨e_, J⟩ := h_
      rw [e_]
      clear e_ r_
      have n_ := J.1
      obtain ⟨⟨z0, f0, z0w⟩, z33, f33, z33w⟩ := J.cells
      refine ⟨by omega, ?_⟩
      refine r_ist_11 (pc2 := 357) dL_isStep_355 rfl rfl ?_
      refine r_iload (pc2 := 359) dL_isStep_357 rfl rfl ?_
      refine r_iload (pc2 := 361) dL_isStep_359 rfl rfl ?_
      refine r_iload (pc2 := 363) dL_isStep_361 rfl rfl ?_
      refine r_icmp_ne (pc2 := 366) (tgt := 371) dL_isStep_363 rfl (by decide) (by omega) (by omega) (fun h363 => ?_) (fun h363 => ?_)
      · refine r_iload (pc2 := 373) dL_isStep_371 rfl rfl ?_
        refine r_icmp_ne (pc2 := 376) (tgt := 421) dL_isStep_373 rfl (by decide) (by omega) (by omega) (fun h373 => ?_) (fun h373 => ?_)
        · exfalso
          omega
        · refine r_aload_n (pc2 := 377) dL_isStep_376 rfl rfl ?_
          refine r_iload (pc2 := 379) dL_isStep_377 rfl rfl ?_
          refine r_aload_n (pc2 := 380) dL_isStep_379 rfl rfl ?_
          refine r_iload (pc2 := 382) dL_isStep_380 rfl rfl ?_
          refine r_calls_2 (pc2 := 385) dL_isStep_382 rfl rs_99_18 rfl (by decide) rfl (Nat.le_of_ble_eq_true rfl) (Nat.le_of_ble_eq_true rfl) (l_there J (upZ y v) (by unfold RG; omega)) (fun r_ w_ h_ => ?_)
          obtain ⟨e_, J⟩ := h_
          rw [e_, nx1_slice]
          clear e_ r_
          have n_ := J.1
          obtain ⟨⟨z0, f0, z0w⟩, z33, f33, z33w⟩ := J.cells
          refine ⟨by omega, ?_⟩
          refine r_callv_2 (pc2 := 388) dL_isStep_385 rfl rs_99_24 rfl (by decide) rfl (Nat.le_of_ble_eq_true rfl) (Nat.le_of_ble_eq_true rfl) (by assumption) (by assumption) (pa_slice J sl (thZ v (upZ y v)) (by unfold RG; omega) (by unfold RG; omega)) (fun r_ w_ h_ => ?_)
          obtain ⟨e_, J⟩ := h_
          rw [e_, q2]
          clear e_ r_
          have n_ := J.1
          obtain ⟨⟨z0, f0, z0w⟩, z33, f33, z33w⟩ := J.cells
          refine ⟨by omega, ?_⟩
          refine r_iload (pc2 := 390) dL_isStep_388 rfl rfl ?_
          refine r_if_ge (pc2 := 393) (tgt := 398) dL_isStep_390 rfl (by decide) (by omega) (fun h390 => ?_) (fun h390 => ?_)
          · have hT2 : 0 ≤ (o_slice (v, p, sh, ln, pr, gd, co, c, s) sl (upZ y v)).1 ∧ (o_slice (v, p, sh, ln, pr, gd, co, c, s) sl (upZ y v)).1 < v := by omega
            have hth3 := th_rg hT2
            rw [if_neg (show ¬ (o_slice (v, p, sh, ln, pr, gd, co, c, s) sl (upZ y v)).1 < 0 by omega)]
            refine r_aload_n (pc2 := 399) dL_isStep_398 rfl rfl ?_
            refine r_iload (pc2 := 401) dL_isStep_399 rfl rfl ?_
            refine r_calls_2 (pc2 := 404) dL_isStep_401 rfl rs_99_18 rfl (by decide) rfl (Nat.le_of_ble_eq_true rfl) (Nat.le_of_ble_eq_true rfl) (l_there J (o_slice (v, p, sh, ln, pr, gd, co, c, s) sl (upZ y v)).1 (by unfold RG; omega)) (fun r_ w_ h_ => ?_)
            obtain ⟨e_, J⟩ := h_
            rw [e_, nx1_slice]
            clear e_ r_
            have n_ := J.1
            obtain ⟨⟨z0, f0, z0w⟩, z33, f33, z33w⟩ := J.cells
            refine ⟨by omega, ?_⟩
            refine r_icmp_ne (pc2 := 407) (tgt := 421) dL_isStep_404 rfl (by decide) (by omega) (by omega) (fun h404 => ?_) (fun h404 => ?_)
            · exfalso
              omega
            · refine r_aload_n (pc2 := 408) dL_isStep_407 rfl rfl ?_
              refine r_iconst (pc2 := 409) dL_isStep_408 rfl ?_
              refine r_callv_1 (pc2 := 412) dL_isStep_409 rfl rs_99_9 rfl (by decide) rfl (Nat.le_of_ble_eq_true rfl) (Nat.le_of_ble_eq_true rfl) (by assumption) (by assumption) (ot_count J 4 (by omega)) (fun r_ w_ h_ => ?_)
              obtain ⟨e_, J⟩ := h_
              rw [e_, q4]
              clear e_ r_
              have n_ := J.1
              obtain ⟨⟨z0, f0, z0w⟩, z33, f33, z33w⟩ := J.cells
              refine ⟨by omega, ?_⟩
              refine r_iload (pc2 := 414) dL_isStep_412 rfl rfl ?_
              refine r_icmp_ne (pc2 := 417) (tgt := 421) dL_isStep_414 rfl (by decide) (by omega) (by omega) (fun h414 => ?_) (fun h414 => ?_)
              · exfalso
                omega
              · refine r_iconst (pc2 := 418) dL_isStep_417 rfl ?_
                refine r_goto (tgt := 422) dL_isStep_418 (by decide) ?_
                refine r_retb dL_isStep_422 rfl (by first | exact Or.inl rfl | exact Or.inr rfl | exact bz_01) ?_
                exact ⟨rfl, _, _, _, _, _, _, J, q3⟩
          · rw [if_pos (show (o_slice (v, p, sh, ln, pr, gd, co, c, s) sl (upZ y v)).1 < 0 by omega)]
            refine r_iload (pc2 := 395) dL_isStep_393 rfl rfl ?_
            refine r_goto (tgt := 404) dL_isStep_395 (by decide) ?_
            refine r_icmp_ne (pc2 := 407) (tgt := 421) dL_isStep_404 rfl (by decide) (by omega) (by omega) (fun h404 => ?_) (fun h404 => ?_)
            · exfalso
              omega
            · refine r_aload_n (pc2 := 408) dL_isStep_407 rfl rfl ?_
              refine r_iconst (pc2 := 409) dL_isStep_408 rfl ?_
              refine r_callv_1 (pc2 := 412) dL_isStep_409 rfl rs_99_9 rfl (by decide) rfl (Nat.le_of_ble_eq_true rfl) (Nat.le_of_ble_eq_true rfl) (by assumption) (by assumption) (ot_count J 4 (by omega)) (fun r_ w_ h_ => ?_)
              obtain ⟨e_, J⟩ := h_
              rw [e_, q4]
              clear e_ r_
              have n_ := J.1
              obtain ⟨⟨z0, f0, z0w⟩, z33, f33, z33w⟩ := J.cells
              refine ⟨by omega, ?_⟩
              refine r_iload (pc2 := 414) dL_isStep_412 rfl rfl ?_
              refine r_icmp_ne (pc2 := 417) (tgt := 421) dL_isStep_414 rfl (by decide) (by omega) (by omega) (fun h414 => ?_) (fun h414 => ?_)
              · exfalso
                omega
              · refine r_iconst (pc2 := 418) dL_isStep_417 rfl ?_
                refine r_goto (tgt := 422) dL_isStep_418 (by decide) ?_
                refine r_retb dL_isStep_422 rfl (by first | exact Or.inl rfl | exact Or.inr rfl | exact bz_01) ?_
                exact ⟨rfl, _, _, _, _, _, _, J, q3⟩
      · refine r_bipush (pc2 := 368) dL_isStep_366 rfl (by decide) ?_
        refine r_goto (tgt := 373) dL_isStep_368 (by decide) ?_
        refine r_icmp_ne (pc2 := 376) (tgt := 421) dL_isStep_373 rfl (by decide) (by omega) (by omega) (fun h373 => ?_) (fun h373 => ?_)
        · exfalso
          omega
        · refine r_aload_n (pc2 := 377) dL_isStep_376 rfl rfl ?_
          refine r_iload (pc2 := 379) dL_isStep_377 rfl rfl ?_
          refine r_aload_n (pc2 := 380) dL_isStep_379 rfl rfl ?_
          refine r_iload (pc2 := 382) dL_isStep_380 rfl rfl ?_
          refine r_calls_2 (pc2 := 385) dL_isStep_382 rfl rs_99_18 rfl (by decide) rfl (Nat.le_of_ble_eq_true rfl) (Nat.le_of_ble_eq_true rfl) (l_there J (upZ y v) (by unfold RG; omega)) (fun r_ w_ h_ => ?_)
          obtain ⟨e_, J⟩ := h_
          rw [e_, nx1_slice]
          clear e_ r_
          have n_ := J.1
          obtain ⟨⟨z0, f0, z0w⟩, z33, f33, z33w⟩ := J.cells
          refine ⟨by omega, ?_⟩
          refine r_callv_2 (pc2 := 388) dL_isStep_385 rfl rs_99_24 rfl (by decide) rfl (Nat.le_of_ble_eq_true rfl) (Nat.le_of_ble_eq_true rfl) (by assumption) (by assumption) (pa_slice J sl (thZ v (upZ y v)) (by unfold RG; omega) (by unfold RG; omega)) (fun r_ w_ h_ => ?_)
          obtain ⟨e_, J⟩ := h_
          rw [e_, q2]
          clear e_ r_
          have n_ := J.1
          obtain ⟨⟨z0, f0, z0w⟩, z33, f33, z33w⟩ := J.cells
          refine ⟨by omega, ?_⟩
          refine r_iload (pc2 := 390) dL_isStep_388 rfl rfl ?_
          refine r_if_ge (pc2 := 393) (tgt := 398) dL_isStep_390 rfl (by decide) (by omega) (fun h390 => ?_) (fun h390 => ?_)
          · have hT2 : 0 ≤ (o_slice (v, p, sh, ln, pr, gd, co, c, s) sl (upZ y v)).1 ∧ (o_slice (v, p, sh, ln, pr, gd, co, c, s) sl (upZ y v)).1 < v := by omega
            have hth3 := th_rg hT2
            rw [if_neg (show ¬ (o_slice (v, p, sh, ln, pr, gd, co, c, s) sl (upZ y v)).1 < 0 by omega)]
            refine r_aload_n (pc2 := 399) dL_isStep_398 rfl rfl ?_
            refine r_iload (pc2 := 401) dL_isStep_399 rfl rfl ?_
            refine r_calls_2 (pc2 := 404) dL_isStep_401 rfl rs_99_18 rfl (by decide) rfl (Nat.le_of_ble_eq_true rfl) (Nat.le_of_ble_eq_true rfl) (l_there J (o_slice (v, p, sh, ln, pr, gd, co, c, s) sl (upZ y v)).1 (by unfold RG; omega)) (fun r_ w_ h_ => ?_)
            obtain ⟨e_, J⟩ := h_
            rw [e_, nx1_slice]
            clear e_ r_
            have n_ := J.1
            obtain ⟨⟨z0, f0, z0w⟩, z33, f33, z33w⟩ := J.cells
            refine ⟨by omega, ?_⟩
            refine r_icmp_ne (pc2 := 407) (tgt := 421) dL_isStep_404 rfl (by decide) (by omega) (by omega) (fun h404 => ?_) (fun h404 => ?_)
            · exfalso
              omega
            · refine r_aload_n (pc2 := 408) dL_isStep_407 rfl rfl ?_
              refine r_iconst (pc2 := 409) dL_isStep_408 rfl ?_
              refine r_callv_1 (pc2 := 412) dL_isStep_409 rfl rs_99_9 rfl (by decide) rfl (Nat.le_of_ble_eq_true rfl) (Nat.le_of_ble_eq_true rfl) (by assumption) (by assumption) (ot_count J 4 (by omega)) (fun r_ w_ h_ => ?_)
              obtain ⟨e_, J⟩ := h_
              rw [e_, q4]
              clear e_ r_
              have n_ := J.1
              obtain ⟨⟨z0, f0, z0w⟩, z33, f33, z33w⟩ := J.cells
              refine ⟨by omega, ?_⟩
              refine r_iload (pc2 := 414) dL_isStep_412 rfl rfl ?_
              refine r_icmp_ne (pc2 := 417) (tgt := 421) dL_isStep_414 rfl (by decide) (by omega) (by omega) (fun h414 => ?_) (fun h414 => ?_)
              · exfalso
                omega
              · refine r_iconst (pc2 := 418) dL_isStep_417 rfl ?_
                refine r_goto (tgt := 422) dL_isStep_418 (by decide) ?_
                refine r_retb dL_isStep_422 rfl (by first | exact Or.inl rfl | exact Or.inr rfl | exact bz_01) ?_
                exact ⟨rfl, _, _, _, _, _, _, J, q3⟩
          · rw [if_pos (show (o_slice (v, p, sh, ln, pr, gd, co, c, s) sl (upZ y v)).1 < 0 by omega)]
            refine r_iload (pc2 := 395) dL_isStep_393 rfl rfl ?_
            refine r_goto (tgt := 404) dL_isStep_395 (by decide) ?_
            refine r_icmp_ne (pc2 := 407) (tgt := 421) dL_isStep_404 rfl (by decide) (by omega) (by omega) (fun h404 => ?_) (fun h404 => ?_)
            · exfalso
              omega
            · refine r_aload_n (pc2 := 408) dL_isStep_407 rfl rfl ?_
              refine r_iconst (pc2 := 409) dL_isStep_408 rfl ?_
              refine r_callv_1 (pc2 := 412) dL_isStep_409 rfl rs_99_9 rfl (by decide) rfl (Nat.le_of_ble_eq_true rfl) (Nat.le_of_ble_eq_true rfl) (by assumption) (by assumption) (ot_count J 4 (by omega)) (fun r_ w_ h_ => ?_)
              obtain ⟨e_, J⟩ := h_
              rw [e_, q4]
              clear e_ r_
              have n_ := J.1
              obtain ⟨⟨z0, f0, z0w⟩, z33, f33, z33w⟩ := J.cells
              refine ⟨by omega, ?_⟩
              refine r_iload (pc2 := 414) dL_isStep_412 rfl rfl ?_
              refine r_icmp_ne (pc2 := 417) (tgt := 421) dL_isStep_414 rfl (by decide) (by omega) (by omega) (fun h414 => ?_) (fun h414 => ?_)
              · exfalso
                omega
              · refine r_iconst (pc2 := 418) dL_isStep_417 rfl ?_
                refine r_goto (tgt := 422) dL_isStep_418 (by decide) ?_
                refine r_retb dL_isStep_422 rfl (by first | exact Or.inl rfl | exact Or.inr rfl | exact bz_01) ?_
                exact ⟨rfl, _, _, _, _, _, _, J, q3⟩
    · refine ⟨382, 423, by rw [hX7]; rfl, by decide, ?_⟩
      refine r_iload_n (pc2 := 424) dL_isStep_423 rfl rfl ?_
      refine r_bipush (pc2 := 426) dL_isStep_424 rfl (by decide) ?_
      refine r_calls_2 (pc2 := 429) dL_isStep_426 rfl rs_99_28 rfl (by decide) rfl (Nat.le_of_ble_eq_true rfl) (Nat.le_of_ble_eq_true rfl) (l_up _ _ _ (by omega)) (fun r_ w_ h_ => ?_)
      rw [h_.1, h_.2]
      clear h_ w_ r_
      refine ⟨rfl, ?_⟩
      have hu426 := up_rg (x := y) (n := 7) (by omega)
      obtain ⟨q1, q2, q3, q4⟩ := m_shift J.kv.1 hc hm (a := upZ y 7 - 3) (by omega)
      refine r_iconst (pc2 := 430) dL_isStep_429 rfl ?_
      refine r_isub (pc2 := 431) dL_isStep_430 rfl ?_
      refine r_ist_8 (pc2 := 433) dL_isStep_431 rfl rfl ?_
      refine r_aload_n (pc2 := 434) dL_isStep_433 rfl rfl ?_
      refine r_iload (pc2 := 436) dL_isStep_434 rfl rfl ?_
      refine r_callv_1 (pc2 := 439) dL_isStep_436 rfl rs_99_68 rfl (by decide) rfl (Nat.le_of_ble_eq_true rfl) (Nat.le_of_ble_eq_true rfl) (by assumption) (by assumption) (oa_setShift J (upZ y 7 - 3) (by unfold RG; omega)) (fun r_ w_ h_ => ?_)
      obtain ⟨e_, J⟩ := h_
      rw [e_]
      clear e_ r_
      have n_ := J.1
      obtain ⟨⟨z0, f0, z0w⟩, z33, f33, z33w⟩ := J.cells
      refine ⟨by omega, ?_⟩
      refine r_aload_n (pc2 := 440) dL_isStep_439 rfl rfl ?_
      refine r_iload (pc2 := 442) dL_isStep_440 rfl rfl ?_
      refine r_callv_1 (pc2 := 445) dL_isStep_442 rfl rs_99_68 rfl (by decide) rfl (Nat.le_of_ble_eq_true rfl) (Nat.le_of_ble_eq_true rfl) (by assumption) (by assumption) (pa_setShift J (upZ y 7 - 3) (by unfold RG; omega)) (fun r_ w_ h_ => ?_)
      obtain ⟨e_, J⟩ := h_
      rw [e_, q1]
      clear e_ r_
      have n_ := J.1
      obtain ⟨⟨z0, f0, z0w⟩, z33, f33, z33w⟩ := J.cells
      refine ⟨by omega, ?_⟩
      refine r_icmp_ne (pc2 := 448) (tgt := 462) dL_isStep_445 rfl (by decide) (by omega) (by omega) (fun h445 => ?_) (fun h445 => ?_)
      · exfalso
        omega
      · refine r_aload_n (pc2 := 449) dL_isStep_448 rfl rfl ?_
        refine r_iconst (pc2 := 450) dL_isStep_449 rfl ?_
        refine r_callv_1 (pc2 := 453) dL_isStep_450 rfl rs_99_9 rfl (by decide) rfl (Nat.le_of_ble_eq_true rfl) (Nat.le_of_ble_eq_true rfl) (by assumption) (by assumption) (ot_count J 2 (by omega)) (fun r_ w_ h_ => ?_)
        obtain ⟨e_, J⟩ := h_
        rw [e_, ct2, q3]
        clear e_ r_
        have n_ := J.1
        obtain ⟨⟨z0, f0, z0w⟩, z33, f33, z33w⟩ := J.cells
        refine ⟨by omega, ?_⟩
        refine r_iload (pc2 := 455) dL_isStep_453 rfl rfl ?_
        refine r_icmp_ne (pc2 := 458) (tgt := 462) dL_isStep_455 rfl (by decide) (by omega) (by omega) (fun h455 => ?_) (fun h455 => ?_)
        · exfalso
          omega
        · refine r_iconst (pc2 := 459) dL_isStep_458 rfl ?_
          refine r_goto (tgt := 463) dL_isStep_459 (by decide) ?_
          refine r_retb dL_isStep_463 rfl (by first | exact Or.inl rfl | exact Or.inr rfl | exact bz_01) ?_
          exact ⟨rfl, _, _, _, _, _, _, J, q2⟩
    · refine ⟨382, 423, by rw [hX8]; rfl, by decide, ?_⟩
      refine r_iload_n (pc2 := 424) dL_isStep_423 rfl rfl ?_
      refine r_bipush (pc2 := 426) dL_isStep_424 rfl (by decide) ?_
      refine r_calls_2 (pc2 := 429) dL_isStep_426 rfl rs_99_28 rfl (by decide) rfl (Nat.le_of_ble_eq_true rfl) (Nat.le_of_ble_eq_true rfl) (l_up _ _ _ (by omega)) (fun r_ w_ h_ => ?_)
      rw [h_.1, h_.2]
      clear h_ w_ r_
      refine ⟨rfl, ?_⟩
      have hu426 := up_rg (x := y) (n := 7) (by omega)
      obtain ⟨q1, q2, q3, q4⟩ := m_shift J.kv.1 hc hm (a := upZ y 7 - 3) (by omega)
      refine r_iconst (pc2 := 430) dL_isStep_429 rfl ?_
      refine r_isub (pc2 := 431) dL_isStep_430 rfl ?_
      refine r_ist_8 (pc2 := 433) dL_isStep_431 rfl rfl ?_
      refine r_aload_n (pc2 := 434) dL_isStep_433 rfl rfl ?_
      refine r_iload (pc2 := 436) dL_isStep_434 rfl rfl ?_
      refine r_callv_1 (pc2 := 439) dL_isStep_436 rfl rs_99_68 rfl (by decide) rfl (Nat.le_of_ble_eq_true rfl) (Nat.le_of_ble_eq_true rfl) (by assumption) (by assumption) (oa_setShift J (upZ y 7 - 3) (by unfold RG; omega)) (fun r_ w_ h_ => ?_)
      obtain ⟨e_, J⟩ := h_
      rw [e_]
      clear e_ r_
      have n_ := J.1
      obtain ⟨⟨z0, f0, z0w⟩, z33, f33, z33w⟩ := J.cells
      refine ⟨by omega, ?_⟩
      refine r_aload_n (pc2 := 440) dL_isStep_439 rfl rfl ?_
      refine r_iload (pc2 := 442) dL_isStep_440 rfl rfl ?_
      refine r_callv_1 (pc2 := 445) dL_isStep_442 rfl rs_99_68 rfl (by decide) rfl (Nat.le_of_ble_eq_true rfl) (Nat.le_of_ble_eq_true rfl) (by assumption) (by assumption) (pa_setShift J (upZ y 7 - 3) (by unfold RG; omega)) (fun r_ w_ h_ => ?_)
      obtain ⟨e_, J⟩ := h_
      rw [e_, q1]
      clear e_ r_
      have n_ := J.1
      obtain ⟨⟨z0, f0, z0w⟩, z33, f33, z33w⟩ := J.cells
      refine ⟨by omega, ?_⟩
      refine r_icmp_ne (pc2 := 448) (tgt := 462) dL_isStep_445 rfl (by decide) (by omega) (by omega) (fun h445 => ?_) (fun h445 => ?_)
      · exfalso
        omega
      · refine r_aload_n (pc2 := 449) dL_isStep_448 rfl rfl ?_
        refine r_iconst (pc2 := 450) dL_isStep_449 rfl ?_
        refine r_callv_1 (pc2 := 453) dL_isStep_450 rfl rs_99_9 rfl (by decide) rfl (Nat.le_of_ble_eq_true rfl) (Nat.le_of_ble_eq_true rfl) (by assumption) (by assumption) (ot_count J 2 (by omega)) (fun r_ w_ h_ => ?_)
        obtain ⟨e_, J⟩ := h_
        rw [e_, ct2, q3]
        clear e_ r_
        have n_ := J.1
        obtain ⟨⟨z0, f0, z0w⟩, z33, f33, z33w⟩ := J.cells
        refine ⟨by omega, ?_⟩
        refine r_iload (pc2 := 455) dL_isStep_453 rfl rfl ?_
        refine r_icmp_ne (pc2 := 458) (tgt := 462) dL_isStep_455 rfl (by decide) (by omega) (by omega) (fun h455 => ?_) (fun h455 => ?_)
        · exfalso
          omega
        · refine r_iconst (pc2 := 459) dL_isStep_458 rfl ?_
          refine r_goto (tgt := 463) dL_isStep_459 (by decide) ?_
          refine r_retb dL_isStep_463 rfl (by first | exact Or.inl rfl | exact Or.inr rfl | exact bz_01) ?_
          exact ⟨rfl, _, _, _, _, _, _, J, q2⟩
    · refine ⟨423, 464, by rw [hX9]; rfl, by decide, ?_⟩
      refine r_iload_n (pc2 := 465) dL_isStep_464 rfl rfl ?_
      refine r_iconst (pc2 := 466) dL_isStep_465 rfl ?_
      refine r_calls_2 (pc2 := 469) dL_isStep_466 rfl rs_99_28 rfl (by decide) rfl (Nat.le_of_ble_eq_true rfl) (Nat.le_of_ble_eq_true rfl) (l_up _ _ _ (by omega)) (fun r_ w_ h_ => ?_)
      rw [h_.1, h_.2]
      clear h_ w_ r_
      refine ⟨rfl, ?_⟩
      have hu466 := up_rg (x := y) (n := 4) (by omega)
      obtain ⟨q1, q2, q3, q4⟩ := m_lean J.kv.1 hc hm (a := upZ y 4) (by omega)
      refine r_ist_8 (pc2 := 471) dL_isStep_469 rfl rfl ?_
      refine r_aload_n (pc2 := 472) dL_isStep_471 rfl rfl ?_
      refine r_iload (pc2 := 474) dL_isStep_472 rfl rfl ?_
      refine r_callv_1 (pc2 := 477) dL_isStep_474 rfl rs_99_71 rfl (by decide) rfl (Nat.le_of_ble_eq_true rfl) (Nat.le_of_ble_eq_true rfl) (by assumption) (by assumption) (oa_setLean J (upZ y 4) (by unfold RG; omega)) (fun r_ w_ h_ => ?_)
      obtain ⟨e_, J⟩ := h_
      rw [e_]
      clear e_ r_
      have n_ := J.1
      obtain ⟨⟨z0, f0, z0w⟩, z33, f33, z33w⟩ := J.cells
      refine ⟨by omega, ?_⟩
      refine r_aload_n (pc2 := 478) dL_isStep_477 rfl rfl ?_
      refine r_iload (pc2 := 480) dL_isStep_478 rfl rfl ?_
      refine r_callv_1 (pc2 := 483) dL_isStep_480 rfl rs_99_71 rfl (by decide) rfl (Nat.le_of_ble_eq_true rfl) (Nat.le_of_ble_eq_true rfl) (by assumption) (by assumption) (pa_setLean J (upZ y 4) (by unfold RG; omega)) (fun r_ w_ h_ => ?_)
      obtain ⟨e_, J⟩ := h_
      rw [e_, q1]
      clear e_ r_
      have n_ := J.1
      obtain ⟨⟨z0, f0, z0w⟩, z33, f33, z33w⟩ := J.cells
      refine ⟨by omega, ?_⟩
      refine r_icmp_ne (pc2 := 486) (tgt := 500) dL_isStep_483 rfl (by decide) (by omega) (by omega) (fun h483 => ?_) (fun h483 => ?_)
      · exfalso
        omega
      · refine r_aload_n (pc2 := 487) dL_isStep_486 rfl rfl ?_
        refine r_iconst (pc2 := 488) dL_isStep_487 rfl ?_
        refine r_callv_1 (pc2 := 491) dL_isStep_488 rfl rs_99_9 rfl (by decide) rfl (Nat.le_of_ble_eq_true rfl) (Nat.le_of_ble_eq_true rfl) (by assumption) (by assumption) (ot_count J 3 (by omega)) (fun r_ w_ h_ => ?_)
        obtain ⟨e_, J⟩ := h_
        rw [e_, ct3, q3]
        clear e_ r_
        have n_ := J.1
        obtain ⟨⟨z0, f0, z0w⟩, z33, f33, z33w⟩ := J.cells
        refine ⟨by omega, ?_⟩
        refine r_iload (pc2 := 493) dL_isStep_491 rfl rfl ?_
        refine r_icmp_ne (pc2 := 496) (tgt := 500) dL_isStep_493 rfl (by decide) (by omega) (by omega) (fun h493 => ?_) (fun h493 => ?_)
        · exfalso
          omega
        · refine r_iconst (pc2 := 497) dL_isStep_496 rfl ?_
          refine r_goto (tgt := 501) dL_isStep_497 (by decide) ?_
          refine r_retb dL_isStep_501 rfl (by first | exact Or.inl rfl | exact Or.inr rfl | exact bz_01) ?_
          exact ⟨rfl, _, _, _, _, _, _, J, q2⟩
    · refine ⟨423, 464, by rw [hX10]; rfl, by decide, ?_⟩
      refine r_iload_n (pc2 := 465) dL_isStep_464 rfl rfl ?_
      refine r_iconst (pc2 := 466) dL_isStep_465 rfl ?_
      refine r_calls_2 (pc2 := 469) dL_isStep_466 rfl rs_99_28 rfl (by decide) rfl (Nat.le_of_ble_eq_true rfl) (Nat.le_of_ble_eq_true rfl) (l_up _ _ _ (by omega)) (fun r_ w_ h_ => ?_)
      rw [h_.1, h_.2]
      clear h_ w_ r_
      refine ⟨rfl, ?_⟩
      have hu466 := up_rg (x := y) (n := 4) (by omega)
      obtain ⟨q1, q2, q3, q4⟩ := m_lean J.kv.1 hc hm (a := upZ y 4) (by omega)
      refine r_ist_8 (pc2 := 471) dL_isStep_469 rfl rfl ?_
      refine r_aload_n (pc2 := 472) dL_isStep_471 rfl rfl ?_
      refine r_iload (pc2 := 474) dL_isStep_472 rfl rfl ?_
      refine r_callv_1 (pc2 := 477) dL_isStep_474 rfl rs_99_71 rfl (by decide) rfl (Nat.le_of_ble_eq_true rfl) (Nat.le_of_ble_eq_true rfl) (by assumption) (by assumption) (oa_setLean J (upZ y 4) (by unfold RG; omega)) (fun r_ w_ h_ => ?_)
      obtain ⟨e_, J⟩ := h_
      rw [e_]
      clear e_ r_
      have n_ := J.1
      obtain ⟨⟨z0, f0, z0w⟩, z33, f33, z33w⟩ := J.cells
      refine ⟨by omega, ?_⟩
      refine r_aload_n (pc2 := 478) dL_isStep_477 rfl rfl ?_
      refine r_iload (pc2 := 480) dL_isStep_478 rfl rfl ?_
      refine r_callv_1 (pc2 := 483) dL_isStep_480 rfl rs_99_71 rfl (by decide) rfl (Nat.le_of_ble_eq_true rfl) (Nat.le_of_ble_eq_true rfl) (by assumption) (by assumption) (pa_setLean J (upZ y 4) (by unfold RG; omega)) (fun r_ w_ h_ => ?_)
      obtain ⟨e_, J⟩ := h_
      rw [e_, q1]
      clear e_ r_
      have n_ := J.1
      obtain ⟨⟨z0, f0, z0w⟩, z33, f33, z33w⟩ := J.cells
      refine ⟨by omega, ?_⟩
      refine r_icmp_ne (pc2 := 486) (tgt := 500) dL_isStep_483 rfl (by decide) (by omega) (by omega) (fun h483 => ?_) (fun h483 => ?_)
      · exfalso
        omega
      · refine r_aload_n (pc2 := 487) dL_isStep_486 rfl rfl ?_
        refine r_iconst (pc2 := 488) dL_isStep_487 rfl ?_
        refine r_callv_1 (pc2 := 491) dL_isStep_488 rfl rs_99_9 rfl (by decide) rfl (Nat.le_of_ble_eq_true rfl) (Nat.le_of_ble_eq_true rfl) (by assumption) (by assumption) (ot_count J 3 (by omega)) (fun r_ w_ h_ => ?_)
        obtain ⟨e_, J⟩ := h_
        rw [e_, ct3, q3]
        clear e_ r_
        have n_ := J.1
        obtain ⟨⟨z0, f0, z0w⟩, z33, f33, z33w⟩ := J.cells
        refine ⟨by omega, ?_⟩
        refine r_iload (pc2 := 493) dL_isStep_491 rfl rfl ?_
        refine r_icmp_ne (pc2 := 496) (tgt := 500) dL_isStep_493 rfl (by decide) (by omega) (by omega) (fun h493 => ?_) (fun h493 => ?_)
        · exfalso
          omega
        · refine r_iconst (pc2 := 497) dL_isStep_496 rfl ?_
          refine r_goto (tgt := 501) dL_isStep_497 (by decide) ?_
          refine r_retb dL_isStep_501 rfl (by first | exact Or.inl rfl | exact Or.inr rfl | exact bz_01) ?_
          exact ⟨rfl, _, _, _, _, _, _, J, q2⟩
    · refine ⟨461, 502, by rw [hX11]; rfl, by decide, ?_⟩
      refine r_iconst (pc2 := 503) dL_isStep_502 rfl ?_
      refine r_iload_n (pc2 := 504) dL_isStep_503 rfl rfl ?_
      refine r_sipush (pc2 := 507) dL_isStep_504 rfl (by decide) ?_
      refine r_calls_2 (pc2 := 510) dL_isStep_507 rfl rs_99_28 rfl (by decide) rfl (Nat.le_of_ble_eq_true rfl) (Nat.le_of_ble_eq_true rfl) (l_up _ _ _ (by omega)) (fun r_ w_ h_ => ?_)
      rw [h_.1, h_.2]
      clear h_ w_ r_
      refine ⟨rfl, ?_⟩
      have hu507 := up_rg (x := y) (n := 999) (by omega)
      obtain ⟨q1, q2, q3, q4, q5⟩ := m_press J.kv.1 hc hm (a := 1 + upZ y 999) (by omega)
      have q3b := q3.imp id if_or
      refine r_iadd (pc2 := 511) dL_isStep_510 rfl ?_
      refine r_ist_8 (pc2 := 513) dL_isStep_511 rfl rfl ?_
      refine r_aload_n (pc2 := 514) dL_isStep_513 rfl rfl ?_
      refine r_iload (pc2 := 516) dL_isStep_514 rfl rfl ?_
      refine r_callv_1 (pc2 := 519) dL_isStep_516 rfl rs_99_74 rfl (by decide) rfl (Nat.le_of_ble_eq_true rfl) (Nat.le_of_ble_eq_true rfl) (by assumption) (by assumption) (oa_press J (1 + upZ y 999) (by unfold RG; omega)) (fun r_ w_ h_ => ?_)
      obtain ⟨e_, J⟩ := h_
      rw [e_]
      clear e_ r_
      have n_ := J.1
      obtain ⟨⟨z0, f0, z0w⟩, z33, f33, z33w⟩ := J.cells
      refine ⟨by omega, ?_⟩
      refine r_ist_9 (pc2 := 521) dL_isStep_519 rfl rfl ?_
      refine r_iload (pc2 := 523) dL_isStep_521 rfl rfl ?_
      refine r_aload_n (pc2 := 524) dL_isStep_523 rfl rfl ?_
      refine r_iload (pc2 := 526) dL_isStep_524 rfl rfl ?_
      refine r_callv_1 (pc2 := 529) dL_isStep_526 rfl rs_99_74 rfl (by decide) rfl (Nat.le_of_ble_eq_true rfl) (Nat.le_of_ble_eq_true rfl) (by assumption) (by assumption) (pa_press J (1 + upZ y 999) (by unfold RG; omega)) (fun r_ w_ h_ => ?_)
      obtain ⟨e_, J⟩ := h_
      rw [e_, q1]
      clear e_ r_
      have n_ := J.1
      obtain ⟨⟨z0, f0, z0w⟩, z33, f33, z33w⟩ := J.cells
      refine ⟨by omega, ?_⟩
      refine r_icmp_ne (pc2 := 532) (tgt := 563) dL_isStep_529 rfl (by decide) (by omega) (by omega) (fun h529 => ?_) (fun h529 => ?_)
      · exfalso
        omega
      · refine r_iload (pc2 := 534) dL_isStep_532 rfl rfl ?_
        refine r_if_lt (pc2 := 537) (tgt := 559) dL_isStep_534 rfl (by decide) (by omega) (fun h534 => ?_) (fun h534 => ?_)
        · refine r_iconst (pc2 := 560) dL_isStep_559 rfl ?_
          refine r_goto (tgt := 564) dL_isStep_560 (by decide) ?_
          refine r_retb dL_isStep_564 rfl (by first | exact Or.inl rfl | exact Or.inr rfl | exact bz_01) ?_
          exact ⟨rfl, _, _, _, _, _, _, J, q2⟩
        · refine r_iload (pc2 := 539) dL_isStep_537 rfl rfl ?_
          refine r_aload_n (pc2 := 540) dL_isStep_539 rfl rfl ?_
          refine r_bipush (pc2 := 542) dL_isStep_540 rfl (by decide) ?_
          refine r_callv_1 (pc2 := 545) dL_isStep_542 rfl rs_99_9 rfl (by decide) rfl (Nat.le_of_ble_eq_true rfl) (Nat.le_of_ble_eq_true rfl) (by assumption) (by assumption) (ot_count J 6 (by omega)) (fun r_ w_ h_ => ?_)
          obtain ⟨e_, J⟩ := h_
          rw [e_]
          clear e_ r_
          have n_ := J.1
          obtain ⟨⟨z0, f0, z0w⟩, z33, f33, z33w⟩ := J.cells
          refine ⟨by omega, ?_⟩
          refine r_iload (pc2 := 547) dL_isStep_545 rfl rfl ?_
          refine r_icmp_ne (pc2 := 550) (tgt := 555) dL_isStep_547 rfl (by decide) (by omega) (by omega) (fun h547 => ?_) (fun h547 => ?_)
          · refine r_iconst (pc2 := 556) dL_isStep_555 rfl ?_
            refine r_icmp_ne (pc2 := 559) (tgt := 563) dL_isStep_556 rfl (by decide) (by omega) (by omega) (fun h556 => ?_) (fun h556 => ?_)
            · exfalso
              omega
            · refine r_iconst (pc2 := 560) dL_isStep_559 rfl ?_
              refine r_goto (tgt := 564) dL_isStep_560 (by decide) ?_
              refine r_retb dL_isStep_564 rfl (by first | exact Or.inl rfl | exact Or.inr rfl | exact bz_01) ?_
              exact ⟨rfl, _, _, _, _, _, _, J, q2⟩
          · refine r_iload (pc2 := 552) dL_isStep_550 rfl rfl ?_
            refine r_goto (tgt := 556) dL_isStep_552 (by decide) ?_
            refine r_icmp_ne (pc2 := 559) (tgt := 563) dL_isStep_556 rfl (by decide) (by omega) (by omega) (fun h556 => ?_) (fun h556 => ?_)
            · exfalso
              omega
            · refine r_iconst (pc2 := 560) dL_isStep_559 rfl ?_
              refine r_goto (tgt := 564) dL_isStep_560 (by decide) ?_
              refine r_retb dL_isStep_564 rfl (by first | exact Or.inl rfl | exact Or.inr rfl | exact bz_01) ?_
              exact ⟨rfl, _, _, _, _, _, _, J, q2⟩
    · refine ⟨524, 565, by rw [hX12]; rfl, by decide, ?_⟩
      refine r_iload (pc2 := 567) dL_isStep_565 rfl rfl ?_
      refine r_iconst (pc2 := 568) dL_isStep_567 rfl ?_
      refine r_icmp_eq (pc2 := 571) (tgt := 579) dL_isStep_568 rfl (by decide) (by omega) (by omega) (fun h568 => ?_) (fun h568 => ?_)
      · refine r_iconst (pc2 := 580) dL_isStep_579 rfl ?_
        refine r_retb dL_isStep_580 rfl (by first | exact Or.inl rfl | exact Or.inr rfl | exact bz_01) ?_
        exact ⟨rfl, _, _, _, _, _, _, J, hMR⟩
      · refine r_iload_n (pc2 := 572) dL_isStep_571 rfl rfl ?_
        refine r_iconst (pc2 := 573) dL_isStep_572 rfl ?_
        refine r_calls_2 (pc2 := 576) dL_isStep_573 rfl rs_99_28 rfl (by decide) rfl (Nat.le_of_ble_eq_true rfl) (Nat.le_of_ble_eq_true rfl) (l_up _ _ _ (by omega)) (fun r_ w_ h_ => ?_)
        rw [h_.1, h_.2]
        clear h_ w_ r_
        refine ⟨rfl, ?_⟩
        have hu573 := up_rg (x := y) (n := 3) (by omega)
        refine r_if_le (pc2 := 579) (tgt := 581) dL_isStep_576 rfl (by decide) (by omega) (fun h576 => ?_) (fun h576 => ?_)
        · refine r_aload_n (pc2 := 582) dL_isStep_581 rfl rfl ?_
          refine r_iload (pc2 := 584) dL_isStep_582 rfl rfl ?_
          refine r_calls_2 (pc2 := 587) dL_isStep_584 rfl rs_99_18 rfl (by decide) rfl (Nat.le_of_ble_eq_true rfl) (Nat.le_of_ble_eq_true rfl) (l_thereT J vw (by unfold RG; omega)) (fun r_ w_ h_ => ?_)
          obtain ⟨e_, J⟩ := h_
          rw [e_]
          clear e_ r_
          have n_ := J.1
          obtain ⟨⟨z0, f0, z0w⟩, z33, f33, z33w⟩ := J.cells
          refine ⟨by omega, ?_⟩
          have hth := th_rg hu16
          obtain ⟨q1, q2, q3⟩ := m_remove (s2 := s2) J.kv.1 hc (a := vw) (by omega) h568
          refine r_ist_8 (pc2 := 589) dL_isStep_587 rfl rfl ?_
          refine r_aload_n (pc2 := 590) dL_isStep_589 rfl rfl ?_
          refine r_iload (pc2 := 592) dL_isStep_590 rfl rfl ?_
          refine r_callv_1 (pc2 := 595) dL_isStep_592 rfl rs_99_77 rfl (by decide) rfl (Nat.le_of_ble_eq_true rfl) (Nat.le_of_ble_eq_true rfl) (by assumption) (by assumption) (oa_removeView J vw (by unfold RG; omega)) (fun r_ w_ h_ => ?_)
          obtain ⟨e_, J⟩ := h_
          rw [e_, q1]
          clear e_ r_
          have n_ := J.1
          obtain ⟨⟨z0, f0, z0w⟩, z33, f33, z33w⟩ := J.cells
          refine ⟨by omega, ?_⟩
          refine r_iload (pc2 := 597) dL_isStep_595 rfl rfl ?_
          refine r_iconst (pc2 := 598) dL_isStep_597 rfl ?_
          refine r_isub (pc2 := 599) dL_isStep_598 rfl ?_
          refine r_icmp_ne (pc2 := 602) (tgt := 627) dL_isStep_599 rfl (by decide) (by omega) (by omega) (fun h599 => ?_) (fun h599 => ?_)
          · exfalso
            omega
          · refine r_aload_n (pc2 := 603) dL_isStep_602 rfl rfl ?_
            refine r_iload (pc2 := 605) dL_isStep_603 rfl rfl ?_
            refine r_callv_1 (pc2 := 608) dL_isStep_605 rfl rs_99_77 rfl (by decide) rfl (Nat.le_of_ble_eq_true rfl) (Nat.le_of_ble_eq_true rfl) (by assumption) (by assumption) (pa_removeView J (thZ v vw) (by unfold RG; omega)) (fun r_ w_ h_ => ?_)
            obtain ⟨e_, J⟩ := h_
            rw [e_, q2]
            clear e_ r_
            have n_ := J.1
            obtain ⟨⟨z0, f0, z0w⟩, z33, f33, z33w⟩ := J.cells
            refine ⟨by omega, ?_⟩
            refine r_iload (pc2 := 610) dL_isStep_608 rfl rfl ?_
            refine r_iconst (pc2 := 611) dL_isStep_610 rfl ?_
            refine r_isub (pc2 := 612) dL_isStep_611 rfl ?_
            refine r_icmp_ne (pc2 := 615) (tgt := 627) dL_isStep_612 rfl (by decide) (by omega) (by omega) (fun h612 => ?_) (fun h612 => ?_)
            · exfalso
              omega
            · refine r_aload_n (pc2 := 616) dL_isStep_615 rfl rfl ?_
              refine r_aload_n (pc2 := 617) dL_isStep_616 rfl rfl ?_
              refine r_calls_2 (pc2 := 620) dL_isStep_617 rfl rs_99_61 rfl (by decide) rfl (Nat.le_of_ble_eq_true rfl) (Nat.le_of_ble_eq_true rfl) (l_areSlices J q3) (fun r_ w_ h_ => ?_)
              obtain ⟨e_, U3, J, hM⟩ := h_
              rw [e_]
              clear e_ r_
              have n_ := J.1
              obtain ⟨⟨z0, f0, z0w⟩, z33, f33, z33w⟩ := J.cells
              refine ⟨by omega, ?_⟩
              refine r_if_eq (pc2 := 623) (tgt := 627) dL_isStep_620 rfl (by decide) (by omega) (fun h620 => ?_) (fun h620 => ?_)
              · exfalso
                omega
              · refine r_iconst (pc2 := 624) dL_isStep_623 rfl ?_
                refine r_goto (tgt := 628) dL_isStep_624 (by decide) ?_
                refine r_retb dL_isStep_628 rfl (by first | exact Or.inl rfl | exact Or.inr rfl | exact bz_01) ?_
                exact ⟨rfl, _, _, _, _, _, _, J, hM⟩
        · refine r_iconst (pc2 := 580) dL_isStep_579 rfl ?_
          refine r_retb dL_isStep_580 rfl (by first | exact Or.inl rfl | exact Or.inr rfl | exact bz_01) ?_
          exact ⟨rfl, _, _, _, _, _, _, J, hMR⟩

theorem l_isStep {sc : av_E} {w : av_W} (h : JM sc w) (x y : Int) : cl ML_isStep [.ref 0, .ref 33, .int (iN x), .int (iN y)] w (fun r' w' => r' = some (.int (iN 1)) ∧ JM sc w') := by
  obtain ⟨V, U, len, len2, t, t2, J, hM⟩ := h
  obtain ⟨v, p, sh, ln, pr, gd, co, c, s⟩ := V
  obtain ⟨v2, p2, sh2, ln2, pr2, gd2, co2, c2, s2⟩ := U
  obtain ⟨⟨rfl, rfl, rfl, rfl, rfl, rfl, rfl⟩, hc, hm⟩ := hM
  exact l_isStepT J hc hm x y

