/-! sites: calls, fields, constants by their numbers -/
theorem rs_0_40 : av_res 0 40 = some (0, MX0_resetSlices) := rfl
theorem rs_0_43 : av_res 0 43 = some (3, MX4_copyNumbers) := rfl
theorem rs_0_47 : av_res 0 47 = some (3, MX4_isWithin) := rfl
theorem rs_0_51 : av_res 0 51 = some (3, MX4_isRidge) := rfl
theorem rs_0_55 : av_res 0 55 = some (0, MX0_paint) := rfl
theorem rs_0_59 : av_res 0 59 = some (0, MX0_colourIn) := rfl
theorem rs_0_63 : av_res 0 63 = some (0, MX0_viewDue) := rfl
theorem rs_0_82 : av_res 0 82 = some (0, MX0_spotBehind) := rfl
theorem rs_0_85 : av_res 0 85 = some (0, MX0_sliceBehind) := rfl
theorem rs_0_88 : av_res 0 88 = some (0, MX0_viewBehind) := rfl
theorem rs_0_91 : av_res 0 91 = some (0, MX0_ridgeBehind) := rfl
theorem rs_1_22 : av_res 1 22 = some (0, MX1_charAt) := rfl
theorem rs_1_26 : av_res 1 26 = some (0, MX1_isAllowed) := rfl
theorem rs_1_30 : av_res 1 30 = some (0, MX1_isEnded) := rfl
theorem rs_1_34 : av_res 1 34 = some (0, MX1_digitAt) := rfl
theorem rs_1_38 : av_res 1 38 = some (2, MX1_viewsUpTo) := rfl
theorem rs_1_41 : av_res 1 41 = some (3, MX4_isWithin) := rfl
theorem rs_1_50 : av_res 1 50 = some (0, MX0_paint) := rfl
theorem rs_1_54 : av_res 1 54 = some (0, MX0_resetSlices) := rfl
theorem rs_1_60 : av_res 1 60 = some (0, MX0_putSlice) := rfl
theorem rs_2_21 : av_res 2 21 = some (4, MX0_init) := rfl
theorem rs_2_22 : av_res 2 22 = some (0, MX2_dropOldest) := rfl
theorem rs_2_25 : av_res 2 25 = some (0, MX2_stateAt) := rfl
theorem rs_2_29 : av_res 2 29 = some (0, MX0_copyFrom) := rfl
theorem rs_3_11 : av_res 3 11 = some (4, MX0_init) := rfl
theorem rs_3_25 : av_res 3 25 = some (0, MX0_placeSeen) := rfl
theorem rs_3_29 : av_res 3 29 = some (0, MX0_sliceBehind) := rfl
theorem rs_3_32 : av_res 3 32 = some (0, MX0_stepAt) := rfl
theorem rs_3_36 : av_res 3 36 = some (3, MX4_isWithin) := rfl
theorem rs_3_40 : av_res 3 40 = some (0, MX0_viewDue) := rfl
theorem rs_3_43 : av_res 3 43 = some (0, MX3_viewSeen) := rfl
theorem rs_3_46 : av_res 3 46 = some (0, MX3_isGhost) := rfl
theorem rs_3_54 : av_res 3 54 = some (0, MX3_ghosts) := rfl
theorem rs_3_57 : av_res 3 57 = some (0, MX3_ridgesShowing) := rfl
theorem rs_3_63 : av_res 3 63 = some (0, MX3_mostShownView) := rfl
theorem rs_3_66 : av_res 3 66 = some (0, MX3_wholeView) := rfl
theorem rs_3_69 : av_res 3 69 = some (0, MX3_anglesShowingWhole) := rfl
theorem rs_4_9 : av_res 4 9 = some (5, MX3_init) := rfl
theorem rs_4_33 : av_res 4 33 = some (4, MX2_init) := rfl
theorem rs_4_40 : av_res 4 40 = some (4, MX0_init) := rfl
theorem rs_4_50 : av_res 4 50 = some (5, MX1_init) := rfl
theorem rs_4_55 : av_res 4 55 = some (0, MX0_hasView) := rfl
theorem rs_4_59 : av_res 4 59 = some (2, MX4_isRidge) := rfl
theorem rs_4_62 : av_res 4 62 = some (2, MX4_isWithin) := rfl
theorem rs_4_66 : av_res 4 66 = some (0, MX0_colourIn) := rfl
theorem rs_4_70 : av_res 4 70 = some (0, MX2_record) := rfl
theorem rs_4_74 : av_res 4 74 = some (0, MX0_paint) := rfl
theorem rs_4_85 : av_res 4 85 = some (0, MX0_dropView) := rfl
theorem rs_4_89 : av_res 4 89 = some (0, MX0_exchangeViews) := rfl
theorem rs_4_95 : av_res 4 95 = some (0, MX0_resetSlices) := rfl
theorem rs_4_98 : av_res 4 98 = some (0, MX0_hasSlice) := rfl
theorem rs_4_101 : av_res 4 101 = some (0, MX0_viewDue) := rfl
theorem rs_4_105 : av_res 4 105 = some (0, MX0_putSlice) := rfl
theorem rs_4_126 : av_res 4 126 = some (0, MX4_look) := rfl
theorem rs_4_130 : av_res 4 130 = some (0, MX3_ghostsAtAllAngles) := rfl
theorem rs_4_134 : av_res 4 134 = some (0, MX1_findFault) := rfl
theorem rs_4_137 : av_res 4 137 = some (0, MX1_writeTo) := rfl
theorem rs_4_144 : av_res 4 144 = some (0, MX3_wholeViews) := rfl
theorem rs_4_153 : av_res 4 153 = some (0, MX1_isFull) := rfl
theorem rs_4_157 : av_res 4 157 = some (0, MX1_append) := rfl
theorem rs_4_164 : av_res 4 164 = some (0, MX1_empty) := rfl
theorem rs_4_173 : av_res 4 173 = some (0, MX0_copyFrom) := rfl
theorem rs_4_176 : av_res 4 176 = some (0, MX0_viewBehind) := rfl
theorem rs_4_179 : av_res 4 179 = some (2, MX4_noneForNothing) := rfl
theorem rs_4_182 : av_res 4 182 = some (0, MX0_colourBehind) := rfl
theorem rs_4_185 : av_res 4 185 = some (0, MX0_ridgeBehind) := rfl
theorem rs_4_188 : av_res 4 188 = some (2, MX4_isAngle) := rfl
theorem rs_4_191 : av_res 4 191 = some (0, MX0_stepAt) := rfl
theorem rs_4_194 : av_res 4 194 = some (0, MX0_placeSeen) := rfl
theorem rs_4_197 : av_res 4 197 = some (0, MX3_isGhost) := rfl
theorem rs_4_201 : av_res 4 201 = some (0, MX3_ghosts) := rfl
theorem rs_4_204 : av_res 4 204 = some (0, MX3_wholeView) := rfl
theorem rs_4_207 : av_res 4 207 = some (0, MX3_mostShownView) := rfl
theorem rs_4_210 : av_res 4 210 = some (0, MX3_mostShownRidges) := rfl
theorem rs_4_213 : av_res 4 213 = some (0, MX3_ridgesShowing) := rfl
theorem rs_4_216 : av_res 4 216 = some (0, MX0_slicesShowing) := rfl
theorem rs_4_219 : av_res 4 219 = some (0, MX3_anglesShowingWhole) := rfl
theorem rs_4_222 : av_res 4 222 = some (0, MX3_clearestAngle) := rfl
theorem rs_4_225 : av_res 4 225 = some (0, MX4_ghostsWithShift) := rfl
theorem rs_4_228 : av_res 4 228 = some (0, MX3_aim) := rfl
theorem rs_4_231 : av_res 4 231 = some (0, MX3_anglesShowingAnyWhole) := rfl
theorem rs_99_9 : av_res 99 9 = some (0, MX4_count) := rfl
theorem rs_99_15 : av_res 99 15 = some (0, MX4_viewOf) := rfl
theorem rs_99_18 : av_res 99 18 = some (2, ML_there) := rfl
theorem rs_99_24 : av_res 99 24 = some (0, MX4_slice) := rfl
theorem rs_99_28 : av_res 99 28 = some (2, ML_up) := rfl
theorem rs_99_31 : av_res 99 31 = some (0, MX4_clearText) := rfl
theorem rs_99_35 : av_res 99 35 = some (0, MX4_type) := rfl
theorem rs_99_39 : av_res 99 39 = some (0, MX4_read) := rfl
theorem rs_99_42 : av_res 99 42 = some (0, MX4_colourOf) := rfl
theorem rs_99_45 : av_res 99 45 = some (0, MX4_colour) := rfl
theorem rs_99_49 : av_res 99 49 = some (2, ML_colour) := rfl
theorem rs_99_51 : av_res 99 51 = some (2, ML_isRead) := rfl
theorem rs_99_55 : av_res 99 55 = some (0, MX4_swap) := rfl
theorem rs_99_58 : av_res 99 58 = some (0, MX4_setPitch) := rfl
theorem rs_99_61 : av_res 99 61 = some (2, ML_areSlices) := rfl
theorem rs_99_65 : av_res 99 65 = some (0, MX4_ifSlice) := rfl
theorem rs_99_68 : av_res 99 68 = some (0, MX4_setShift) := rfl
theorem rs_99_71 : av_res 99 71 = some (0, MX4_setLean) := rfl
theorem rs_99_74 : av_res 99 74 = some (0, MX4_press) := rfl
theorem rs_99_77 : av_res 99 77 = some (0, MX4_removeView) := rfl
theorem rs_99_80 : av_res 99 80 = some (0, MX4_bestShift) := rfl
theorem rs_99_83 : av_res 99 83 = some (0, MX4_at) := rfl
theorem rs_99_86 : av_res 99 86 = some (0, MX4_seen) := rfl
theorem rs_99_89 : av_res 99 89 = some (0, MX4_view) := rfl
theorem rs_99_92 : av_res 99 92 = some (0, MX4_behind) := rfl
theorem rs_99_95 : av_res 99 95 = some (4, MX4_init) := rfl
theorem rs_99_96 : av_res 99 96 = some (2, ML_cell) := rfl
theorem rs_99_100 : av_res 99 100 = some (2, ML_isStep) := rfl
theorem rs_99_103 : av_res 99 103 = some (2, ML_isWell) := rfl
theorem rs_99_107 : av_res 99 107 = some (2, ML_areAlike) := rfl
theorem fl_0_9 : av_fld 0 9 = some (0, 0, "") := rfl
theorem fl_0_15 : av_fld 0 15 = some (0, 1, "") := rfl
theorem fl_0_19 : av_fld 0 19 = some (0, 2, "") := rfl
theorem fl_0_22 : av_fld 0 22 = some (0, 3, "") := rfl
theorem fl_0_25 : av_fld 0 25 = some (0, 4, "") := rfl
theorem fl_0_28 : av_fld 0 28 = some (0, 5, "") := rfl
theorem fl_0_31 : av_fld 0 31 = some (0, 6, "") := rfl
theorem fl_0_34 : av_fld 0 34 = some (0, 7, "") := rfl
theorem fl_0_37 : av_fld 0 37 = some (0, 8, "") := rfl
theorem fl_1_9 : av_fld 1 9 = some (1, 0, "") := rfl
theorem fl_1_15 : av_fld 1 15 = some (1, 1, "") := rfl
theorem fl_1_19 : av_fld 1 19 = some (1, 2, "") := rfl
theorem fl_1_45 : av_fld 1 45 = some (0, 0, "TiltedCards") := rfl
theorem fl_1_57 : av_fld 1 57 = some (0, 2, "TiltedCards") := rfl
theorem fl_2_11 : av_fld 2 11 = some (2, 0, "") := rfl
theorem fl_2_17 : av_fld 2 17 = some (2, 1, "") := rfl
theorem fl_3_12 : av_fld 3 12 = some (3, 0, "") := rfl
theorem fl_3_18 : av_fld 3 18 = some (3, 1, "") := rfl
theorem fl_3_22 : av_fld 3 22 = some (3, 2, "") := rfl
theorem fl_3_50 : av_fld 3 50 = some (0, 2, "TiltedCards") := rfl
theorem fl_3_60 : av_fld 3 60 = some (0, 0, "TiltedCards") := rfl
theorem fl_4_10 : av_fld 4 10 = some (4, 0, "") := rfl
theorem fl_4_16 : av_fld 4 16 = some (3, 0, "TiltedCards") := rfl
theorem fl_4_20 : av_fld 4 20 = some (4, 1, "") := rfl
theorem fl_4_21 : av_fld 4 21 = some (4, 2, "") := rfl
theorem fl_4_24 : av_fld 4 24 = some (4, 3, "") := rfl
theorem fl_4_27 : av_fld 4 27 = some (4, 4, "") := rfl
theorem fl_4_34 : av_fld 4 34 = some (4, 5, "") := rfl
theorem fl_4_41 : av_fld 4 41 = some (4, 6, "") := rfl
theorem fl_4_44 : av_fld 4 44 = some (4, 7, "") := rfl
theorem fl_4_51 : av_fld 4 51 = some (4, 8, "") := rfl
theorem fl_4_78 : av_fld 4 78 = some (0, 0, "TiltedCards") := rfl
theorem fl_4_92 : av_fld 4 92 = some (0, 2, "TiltedCards") := rfl
theorem fl_4_109 : av_fld 4 109 = some (0, 4, "TiltedCards") := rfl
theorem fl_4_112 : av_fld 4 112 = some (0, 5, "TiltedCards") := rfl
theorem fl_4_140 : av_fld 4 140 = some (0, 6, "TiltedCards") := rfl
theorem fl_4_147 : av_fld 4 147 = some (0, 7, "TiltedCards") := rfl
theorem fl_4_150 : av_fld 4 150 = some (0, 8, "TiltedCards") := rfl
theorem fl_4_161 : av_fld 4 161 = some (1, 1, "TiltedCards") := rfl
theorem fl_4_167 : av_fld 4 167 = some (2, 1, "TiltedCards") := rfl
theorem mm_0_77 : av_mm 0 77 = some true := rfl
theorem mr_0_77 : av_res 0 77 = none := rfl
theorem mm_0_94 : av_mm 0 94 = some false := rfl
theorem mr_0_94 : av_res 0 94 = none := rfl
theorem ki_99_7 : av_ki 99 7 = some (iN 2145768391) := by decide +kernel
theorem ki_99_8 : av_ki 99 8 = some (iN 2147483647) := by decide +kernel
theorem ki_4_143 : av_ki 4 143 = some (iN 99999) := by decide +kernel

theorem bz_01 {c : Prop} [Decidable c] : bz c = 0 ∨ bz c = 1 := by
  unfold bz
  split
  · exact Or.inr rfl
  · exact Or.inl rfl
theorem bz_t {c : Prop} [Decidable c] (h : c) : bz c = 1 := if_pos h
theorem bz_f {c : Prop} [Decidable c] (h : ¬ c) : bz c = 0 := if_neg h
theorem bz_congr {c d : Prop} [Decidable c] [Decidable d] (h : c ↔ d) : bz c = bz d := by
  unfold bz
  by_cases hc : c
  · rw [if_pos hc, if_pos (h.mp hc)]
  · rw [if_neg hc, if_neg (fun q => hc (h.mpr q))]
def RG (z : Int) : Prop := -2147483648 ≤ z ∧ z < 2147483648
