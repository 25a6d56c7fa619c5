/-! TABLES of the machine: methods, calls, fields, constants; printed by wip/whole/gen/gen01.py -/
/-- a method: name, bytes, locals, answer, class number, height over the leaves, arguments -/
abbrev av_M : Type := MethodName × ByteArray × Nat × Option FieldType × Nat × Nat × Nat
abbrev MX0_init : av_M := (yX0_init, cX0_init, 1, none, 0, 1, 0)
abbrev MX0_copyFrom : av_M := (yX0_copyFrom, cX0_copyFrom, 2, none, 0, 1, 1)
abbrev MX0_hasView : av_M := (yX0_hasView, cX0_hasView, 2, (some .boolean), 0, 1, 1)
abbrev MX0_hasSlice : av_M := (yX0_hasSlice, cX0_hasSlice, 2, (some .boolean), 0, 1, 1)
abbrev MX0_colourIn : av_M := (yX0_colourIn, cX0_colourIn, 3, (some .int), 0, 2, 2)
abbrev MX0_paint : av_M := (yX0_paint, cX0_paint, 4, none, 0, 2, 3)
abbrev MX0_dropView : av_M := (yX0_dropView, cX0_dropView, 4, none, 0, 3, 1)
abbrev MX0_exchangeViews : av_M := (yX0_exchangeViews, cX0_exchangeViews, 7, (some .int), 0, 3, 2)
abbrev MX0_resetSlices : av_M := (yX0_resetSlices, cX0_resetSlices, 3, none, 0, 0, 0)
abbrev MX0_viewDue : av_M := (yX0_viewDue, cX0_viewDue, 2, (some .int), 0, 0, 1)
abbrev MX0_putSlice : av_M := (yX0_putSlice, cX0_putSlice, 3, none, 0, 1, 2)
abbrev MX0_slicesShowing : av_M := (yX0_slicesShowing, cX0_slicesShowing, 4, (some .int), 0, 1, 1)
abbrev MX0_spotBehind : av_M := (yX0_spotBehind, cX0_spotBehind, 4, (some .int), 0, 1, 2)
abbrev MX0_sliceBehind : av_M := (yX0_sliceBehind, cX0_sliceBehind, 4, (some .int), 0, 2, 2)
abbrev MX0_ridgeBehind : av_M := (yX0_ridgeBehind, cX0_ridgeBehind, 4, (some .int), 0, 2, 2)
abbrev MX0_viewBehind : av_M := (yX0_viewBehind, cX0_viewBehind, 3, (some .int), 0, 3, 2)
abbrev MX0_colourBehind : av_M := (yX0_colourBehind, cX0_colourBehind, 3, (some .int), 0, 4, 2)
abbrev MX0_stepAt : av_M := (yX0_stepAt, cX0_stepAt, 2, (some .int), 0, 0, 1)
abbrev MX0_placeSeen : av_M := (yX0_placeSeen, cX0_placeSeen, 4, (some .int), 0, 1, 2)
abbrev MX1_init : av_M := (yX1_init, cX1_init, 1, none, 1, 1, 0)
abbrev MX1_isFull : av_M := (yX1_isFull, cX1_isFull, 1, (some .boolean), 1, 0, 0)
abbrev MX1_append : av_M := (yX1_append, cX1_append, 2, none, 1, 0, 1)
abbrev MX1_empty : av_M := (yX1_empty, cX1_empty, 1, none, 1, 0, 0)
abbrev MX1_charAt : av_M := (yX1_charAt, cX1_charAt, 2, (some .char), 1, 0, 1)
abbrev MX1_digitAt : av_M := (yX1_digitAt, cX1_digitAt, 3, (some .int), 1, 1, 1)
abbrev MX1_findFault : av_M := (yX1_findFault, cX1_findFault, 2, (some .int), 1, 3, 0)
abbrev MX1_isAllowed : av_M := (yX1_isAllowed, cX1_isAllowed, 2, (some .boolean), 1, 2, 1)
abbrev MX1_isEnded : av_M := (yX1_isEnded, cX1_isEnded, 1, (some .boolean), 1, 1, 0)
abbrev MX1_viewsUpTo : av_M := (yX1_viewsUpTo, cX1_viewsUpTo, 1, (some .int), 1, 0, 1)
abbrev MX1_writeTo : av_M := (yX1_writeTo, cX1_writeTo, 4, none, 1, 3, 1)
abbrev MX2_init : av_M := (yX2_init, cX2_init, 2, none, 2, 2, 0)
abbrev MX2_record : av_M := (yX2_record, cX2_record, 3, none, 2, 2, 1)
abbrev MX2_dropOldest : av_M := (yX2_dropOldest, cX2_dropOldest, 3, none, 2, 0, 0)
abbrev MX2_stateAt : av_M := (yX2_stateAt, cX2_stateAt, 2, (some (.object "TiltedCards$Card")), 2, 0, 1)
abbrev MX3_init : av_M := (yX3_init, cX3_init, 1, none, 3, 2, 0)
abbrev MX3_aim : av_M := (yX3_aim, cX3_aim, 3, none, 3, 3, 0)
abbrev MX3_viewSeen : av_M := (yX3_viewSeen, cX3_viewSeen, 3, (some .int), 3, 1, 2)
abbrev MX3_isGhost : av_M := (yX3_isGhost, cX3_isGhost, 4, (some .boolean), 3, 2, 2)
abbrev MX3_ghosts : av_M := (yX3_ghosts, cX3_ghosts, 4, (some .int), 3, 3, 1)
abbrev MX3_ghostsAtAllAngles : av_M := (yX3_ghostsAtAllAngles, cX3_ghostsAtAllAngles, 3, (some .int), 3, 4, 0)
abbrev MX3_ridgesShowing : av_M := (yX3_ridgesShowing, cX3_ridgesShowing, 5, (some .int), 3, 2, 2)
abbrev MX3_wholeView : av_M := (yX3_wholeView, cX3_wholeView, 3, (some .int), 3, 3, 1)
abbrev MX3_mostShownView : av_M := (yX3_mostShownView, cX3_mostShownView, 6, (some .int), 3, 3, 1)
abbrev MX3_mostShownRidges : av_M := (yX3_mostShownRidges, cX3_mostShownRidges, 3, (some .int), 3, 4, 1)
abbrev MX3_anglesShowingWhole : av_M := (yX3_anglesShowingWhole, cX3_anglesShowingWhole, 4, (some .int), 3, 4, 1)
abbrev MX3_anglesShowingAnyWhole : av_M := (yX3_anglesShowingAnyWhole, cX3_anglesShowingAnyWhole, 1, (some .int), 3, 5, 0)
abbrev MX3_wholeViews : av_M := (yX3_wholeViews, cX3_wholeViews, 3, (some .int), 3, 5, 0)
abbrev MX3_clearestAngle : av_M := (yX3_clearestAngle, cX3_clearestAngle, 9, (some .int), 3, 4, 1)
abbrev MX4_init : av_M := (yX4_init, cX4_init, 1, none, 4, 3, 0)
abbrev MX4_colour : av_M := (yX4_colour, cX4_colour, 5, (some .int), 4, 3, 3)
abbrev MX4_removeView : av_M := (yX4_removeView, cX4_removeView, 2, (some .int), 4, 4, 1)
abbrev MX4_swap : av_M := (yX4_swap, cX4_swap, 3, (some .int), 4, 4, 2)
abbrev MX4_setPitch : av_M := (yX4_setPitch, cX4_setPitch, 3, (some .int), 4, 3, 1)
abbrev MX4_slice : av_M := (yX4_slice, cX4_slice, 4, (some .int), 4, 3, 2)
abbrev MX4_setShift : av_M := (yX4_setShift, cX4_setShift, 3, (some .int), 4, 3, 1)
abbrev MX4_setLean : av_M := (yX4_setLean, cX4_setLean, 3, (some .int), 4, 3, 1)
abbrev MX4_read : av_M := (yX4_read, cX4_read, 2, (some .int), 4, 4, 0)
abbrev MX4_press : av_M := (yX4_press, cX4_press, 3, (some .int), 4, 6, 1)
abbrev MX4_type : av_M := (yX4_type, cX4_type, 2, (some .int), 4, 1, 1)
abbrev MX4_clearText : av_M := (yX4_clearText, cX4_clearText, 2, (some .int), 4, 1, 0)
abbrev MX4_colourOf : av_M := (yX4_colourOf, cX4_colourOf, 3, (some .int), 4, 3, 2)
abbrev MX4_viewOf : av_M := (yX4_viewOf, cX4_viewOf, 2, (some .int), 4, 2, 1)
abbrev MX4_behind : av_M := (yX4_behind, cX4_behind, 4, (some .int), 4, 5, 3)
abbrev MX4_seen : av_M := (yX4_seen, cX4_seen, 6, (some .int), 4, 5, 3)
abbrev MX4_at : av_M := (yX4_at, cX4_at, 4, (some .int), 4, 5, 2)
abbrev MX4_view : av_M := (yX4_view, cX4_view, 3, (some .int), 4, 5, 2)
abbrev MX4_bestShift : av_M := (yX4_bestShift, cX4_bestShift, 6, (some .int), 4, 6, 0)
abbrev MX4_ifSlice : av_M := (yX4_ifSlice, cX4_ifSlice, 3, (some .int), 4, 5, 2)
abbrev MX4_count : av_M := (yX4_count, cX4_count, 2, (some .int), 4, 6, 1)
abbrev MX4_isWithin : av_M := (yX4_isWithin, cX4_isWithin, 3, (some .boolean), 4, 0, 3)
abbrev MX4_isRidge : av_M := (yX4_isRidge, cX4_isRidge, 1, (some .boolean), 4, 1, 1)
abbrev MX4_isAngle : av_M := (yX4_isAngle, cX4_isAngle, 1, (some .boolean), 4, 1, 1)
abbrev MX4_noneForNothing : av_M := (yX4_noneForNothing, cX4_noneForNothing, 1, (some .int), 4, 0, 1)
abbrev MX4_copyNumbers : av_M := (yX4_copyNumbers, cX4_copyNumbers, 3, none, 4, 0, 2)
abbrev MX4_look : av_M := (yX4_look, cX4_look, 1, (some (.object "TiltedCards$Sight")), 4, 4, 0)
abbrev MX4_ghostsWithShift : av_M := (yX4_ghostsWithShift, cX4_ghostsWithShift, 2, (some .int), 4, 5, 1)
abbrev ML_cell : av_M := (yL_cell, cL_cell, 2, (some .int), 99, 0, 2)
abbrev ML_up : av_M := (yL_up, cL_up, 2, (some .int), 99, 0, 2)
abbrev ML_there : av_M := (yL_there, cL_there, 2, (some .int), 99, 7, 2)
abbrev ML_colour : av_M := (yL_colour, cL_colour, 1, (some .int), 99, 0, 1)
abbrev ML_areSlices : av_M := (yL_areSlices, cL_areSlices, 4, (some .boolean), 99, 8, 2)
abbrev ML_isRead : av_M := (yL_isRead, cL_isRead, 9, (some .boolean), 99, 7, 4)
abbrev ML_isStep : av_M := (yL_isStep, cL_isStep, 13, (some .boolean), 99, 9, 4)
abbrev ML_areAlike : av_M := (yL_areAlike, cL_areAlike, 5, (some .boolean), 99, 8, 2)
abbrev ML_isWell : av_M := (yL_isWell, cL_isWell, 14, (some .boolean), 99, 7, 2)
abbrev ML_law : av_M := (yL_law, cL_law, 5, (some .boolean), 99, 10, 1)
def av_MT : List av_M := [MX0_init, MX0_copyFrom, MX0_hasView, MX0_hasSlice, MX0_colourIn, MX0_paint, MX0_dropView, MX0_exchangeViews, MX0_resetSlices, MX0_viewDue, MX0_putSlice, MX0_slicesShowing, MX0_spotBehind, MX0_sliceBehind, MX0_ridgeBehind, MX0_viewBehind, MX0_colourBehind, MX0_stepAt, MX0_placeSeen, MX1_init, MX1_isFull, MX1_append, MX1_empty, MX1_charAt, MX1_digitAt, MX1_findFault, MX1_isAllowed, MX1_isEnded, MX1_viewsUpTo, MX1_writeTo, MX2_init, MX2_record, MX2_dropOldest, MX2_stateAt, MX3_init, MX3_aim, MX3_viewSeen, MX3_isGhost, MX3_ghosts, MX3_ghostsAtAllAngles, MX3_ridgesShowing, MX3_wholeView, MX3_mostShownView, MX3_mostShownRidges, MX3_anglesShowingWhole, MX3_anglesShowingAnyWhole, MX3_wholeViews, MX3_clearestAngle, MX4_init, MX4_colour, MX4_removeView, MX4_swap, MX4_setPitch, MX4_slice, MX4_setShift, MX4_setLean, MX4_read, MX4_press, MX4_type, MX4_clearText, MX4_colourOf, MX4_viewOf, MX4_behind, MX4_seen, MX4_at, MX4_view, MX4_bestShift, MX4_ifSlice, MX4_count, MX4_isWithin, MX4_isRidge, MX4_isAngle, MX4_noneForNothing, MX4_copyNumbers, MX4_look, MX4_ghostsWithShift, ML_cell, ML_up, ML_there, ML_colour, ML_areSlices, ML_isRead, ML_isStep, ML_areAlike, ML_isWell]
set_option maxRecDepth 100000 in
theorem kX0 : Cond.code MX0_init.1 MX0_init.2.1 MX0_init.2.2.1 MX0_init.2.2.2.1 ∈ lw_tbl := List.mem_of_getElem? (i := 27) rfl
set_option maxRecDepth 100000 in
theorem kX1 : Cond.code MX0_copyFrom.1 MX0_copyFrom.2.1 MX0_copyFrom.2.2.1 MX0_copyFrom.2.2.2.1 ∈ lw_tbl := List.mem_of_getElem? (i := 225) rfl
set_option maxRecDepth 100000 in
theorem kX2 : Cond.code MX0_hasView.1 MX0_hasView.2.1 MX0_hasView.2.2.1 MX0_hasView.2.2.2.1 ∈ lw_tbl := List.mem_of_getElem? (i := 332) rfl
set_option maxRecDepth 100000 in
theorem kX3 : Cond.code MX0_hasSlice.1 MX0_hasSlice.2.1 MX0_hasSlice.2.2.1 MX0_hasSlice.2.2.2.1 ∈ lw_tbl := List.mem_of_getElem? (i := 374) rfl
set_option maxRecDepth 100000 in
theorem kX4 : Cond.code MX0_colourIn.1 MX0_colourIn.2.1 MX0_colourIn.2.2.1 MX0_colourIn.2.2.2.1 ∈ lw_tbl := List.mem_of_getElem? (i := 337) rfl
set_option maxRecDepth 100000 in
theorem kX5 : Cond.code MX0_paint.1 MX0_paint.2.1 MX0_paint.2.2.1 MX0_paint.2.2.2.1 ∈ lw_tbl := List.mem_of_getElem? (i := 236) rfl
set_option maxRecDepth 100000 in
theorem kX6 : Cond.code MX0_dropView.1 MX0_dropView.2.1 MX0_dropView.2.2.1 MX0_dropView.2.2.2.1 ∈ lw_tbl := List.mem_of_getElem? (i := 406) rfl
set_option maxRecDepth 100000 in
theorem kX7 : Cond.code MX0_exchangeViews.1 MX0_exchangeViews.2.1 MX0_exchangeViews.2.2.1 MX0_exchangeViews.2.2.2.1 ∈ lw_tbl := List.mem_of_getElem? (i := 356) rfl
set_option maxRecDepth 100000 in
theorem kX8 : Cond.code MX0_resetSlices.1 MX0_resetSlices.2.1 MX0_resetSlices.2.2.1 MX0_resetSlices.2.2.2.1 ∈ lw_tbl := List.mem_of_getElem? (i := 32) rfl
set_option maxRecDepth 100000 in
theorem kX9 : Cond.code MX0_viewDue.1 MX0_viewDue.2.1 MX0_viewDue.2.2.1 MX0_viewDue.2.2.2.1 ∈ lw_tbl := List.mem_of_getElem? (i := 301) rfl
set_option maxRecDepth 100000 in
theorem kX10 : Cond.code MX0_putSlice.1 MX0_putSlice.2.1 MX0_putSlice.2.2.1 MX0_putSlice.2.2.2.1 ∈ lw_tbl := List.mem_of_getElem? (i := 246) rfl
set_option maxRecDepth 100000 in
theorem kX11 : Cond.code MX0_slicesShowing.1 MX0_slicesShowing.2.1 MX0_slicesShowing.2.2.1 MX0_slicesShowing.2.2.2.1 ∈ lw_tbl := List.mem_of_getElem? (i := 469) rfl
set_option maxRecDepth 100000 in
theorem kX12 : Cond.code MX0_spotBehind.1 MX0_spotBehind.2.1 MX0_spotBehind.2.2.1 MX0_spotBehind.2.2.2.1 ∈ lw_tbl := List.mem_of_getElem? (i := 276) rfl
set_option maxRecDepth 100000 in
theorem kX13 : Cond.code MX0_sliceBehind.1 MX0_sliceBehind.2.1 MX0_sliceBehind.2.2.1 MX0_sliceBehind.2.2.2.1 ∈ lw_tbl := List.mem_of_getElem? (i := 272) rfl
set_option maxRecDepth 100000 in
theorem kX14 : Cond.code MX0_ridgeBehind.1 MX0_ridgeBehind.2.1 MX0_ridgeBehind.2.2.1 MX0_ridgeBehind.2.2.2.1 ∈ lw_tbl := List.mem_of_getElem? (i := 460) rfl
set_option maxRecDepth 100000 in
theorem kX15 : Cond.code MX0_viewBehind.1 MX0_viewBehind.2.1 MX0_viewBehind.2.2.1 MX0_viewBehind.2.2.2.1 ∈ lw_tbl := List.mem_of_getElem? (i := 449) rfl
set_option maxRecDepth 100000 in
theorem kX16 : Cond.code MX0_colourBehind.1 MX0_colourBehind.2.1 MX0_colourBehind.2.2.1 MX0_colourBehind.2.2.2.1 ∈ lw_tbl := List.mem_of_getElem? (i := 455) rfl
set_option maxRecDepth 100000 in
theorem kX17 : Cond.code MX0_stepAt.1 MX0_stepAt.2.1 MX0_stepAt.2.2.1 MX0_stepAt.2.2.2.1 ∈ lw_tbl := List.mem_of_getElem? (i := 280) rfl
set_option maxRecDepth 100000 in
theorem kX18 : Cond.code MX0_placeSeen.1 MX0_placeSeen.2.1 MX0_placeSeen.2.2.1 MX0_placeSeen.2.2.2.1 ∈ lw_tbl := List.mem_of_getElem? (i := 262) rfl
set_option maxRecDepth 100000 in
theorem kX19 : Cond.code MX1_init.1 MX1_init.2.1 MX1_init.2.2.1 MX1_init.2.2.2.1 ∈ lw_tbl := List.mem_of_getElem? (i := 107) rfl
set_option maxRecDepth 100000 in
theorem kX20 : Cond.code MX1_isFull.1 MX1_isFull.2.1 MX1_isFull.2.2.1 MX1_isFull.2.2.2.1 ∈ lw_tbl := List.mem_of_getElem? (i := 175) rfl
set_option maxRecDepth 100000 in
theorem kX21 : Cond.code MX1_append.1 MX1_append.2.1 MX1_append.2.2.1 MX1_append.2.2.2.1 ∈ lw_tbl := List.mem_of_getElem? (i := 179) rfl
set_option maxRecDepth 100000 in
theorem kX22 : Cond.code MX1_empty.1 MX1_empty.2.1 MX1_empty.2.2.1 MX1_empty.2.2.2.1 ∈ lw_tbl := List.mem_of_getElem? (i := 167) rfl
set_option maxRecDepth 100000 in
theorem kX23 : Cond.code MX1_charAt.1 MX1_charAt.2.1 MX1_charAt.2.2.1 MX1_charAt.2.2.2.1 ∈ lw_tbl := List.mem_of_getElem? (i := 199) rfl
set_option maxRecDepth 100000 in
theorem kX24 : Cond.code MX1_digitAt.1 MX1_digitAt.2.1 MX1_digitAt.2.2.1 MX1_digitAt.2.2.2.1 ∈ lw_tbl := List.mem_of_getElem? (i := 195) rfl
set_option maxRecDepth 100000 in
theorem kX25 : Cond.code MX1_findFault.1 MX1_findFault.2.1 MX1_findFault.2.2.1 MX1_findFault.2.2.2.1 ∈ lw_tbl := List.mem_of_getElem? (i := 187) rfl
set_option maxRecDepth 100000 in
theorem kX26 : Cond.code MX1_isAllowed.1 MX1_isAllowed.2.1 MX1_isAllowed.2.2.1 MX1_isAllowed.2.2.2.1 ∈ lw_tbl := List.mem_of_getElem? (i := 191) rfl
set_option maxRecDepth 100000 in
theorem kX27 : Cond.code MX1_isEnded.1 MX1_isEnded.2.1 MX1_isEnded.2.2.1 MX1_isEnded.2.2.2.1 ∈ lw_tbl := List.mem_of_getElem? (i := 209) rfl
set_option maxRecDepth 100000 in
theorem kX28 : Cond.code MX1_viewsUpTo.1 MX1_viewsUpTo.2.1 MX1_viewsUpTo.2.2.1 MX1_viewsUpTo.2.2.2.1 ∈ lw_tbl := List.mem_of_getElem? (i := 202) rfl
set_option maxRecDepth 100000 in
theorem kX29 : Cond.code MX1_writeTo.1 MX1_writeTo.2.1 MX1_writeTo.2.2.1 MX1_writeTo.2.2.2.1 ∈ lw_tbl := List.mem_of_getElem? (i := 232) rfl
set_option maxRecDepth 100000 in
theorem kX30 : Cond.code MX2_init.1 MX2_init.2.1 MX2_init.2.2.1 MX2_init.2.2.2.1 ∈ lw_tbl := List.mem_of_getElem? (i := 88) rfl
set_option maxRecDepth 100000 in
theorem kX31 : Cond.code MX2_record.1 MX2_record.2.1 MX2_record.2.2.1 MX2_record.2.2.2.1 ∈ lw_tbl := List.mem_of_getElem? (i := 213) rfl
set_option maxRecDepth 100000 in
theorem kX32 : Cond.code MX2_dropOldest.1 MX2_dropOldest.2.1 MX2_dropOldest.2.2.1 MX2_dropOldest.2.2.2.1 ∈ lw_tbl := List.mem_of_getElem? (i := 217) rfl
set_option maxRecDepth 100000 in
theorem kX33 : Cond.code MX2_stateAt.1 MX2_stateAt.2.1 MX2_stateAt.2.2.1 MX2_stateAt.2.2.2.1 ∈ lw_tbl := List.mem_of_getElem? (i := 221) rfl
set_option maxRecDepth 100000 in
theorem kX34 : Cond.code MX3_init.1 MX3_init.2.1 MX3_init.2.2.1 MX3_init.2.2.2.1 ∈ lw_tbl := List.mem_of_getElem? (i := 21) rfl
set_option maxRecDepth 100000 in
theorem kX35 : Cond.code MX3_aim.1 MX3_aim.2.1 MX3_aim.2.2.1 MX3_aim.2.2.2.1 ∈ lw_tbl := List.mem_of_getElem? (i := 258) rfl
set_option maxRecDepth 100000 in
theorem kX36 : Cond.code MX3_viewSeen.1 MX3_viewSeen.2.1 MX3_viewSeen.2.2.1 MX3_viewSeen.2.2.2.1 ∈ lw_tbl := List.mem_of_getElem? (i := 297) rfl
set_option maxRecDepth 100000 in
theorem kX37 : Cond.code MX3_isGhost.1 MX3_isGhost.2.1 MX3_isGhost.2.2.1 MX3_isGhost.2.2.2.1 ∈ lw_tbl := List.mem_of_getElem? (i := 293) rfl
set_option maxRecDepth 100000 in
theorem kX38 : Cond.code MX3_ghosts.1 MX3_ghosts.2.1 MX3_ghosts.2.2.1 MX3_ghosts.2.2.2.1 ∈ lw_tbl := List.mem_of_getElem? (i := 289) rfl
set_option maxRecDepth 100000 in
theorem kX39 : Cond.code MX3_ghostsAtAllAngles.1 MX3_ghostsAtAllAngles.2.1 MX3_ghostsAtAllAngles.2.2.1 MX3_ghostsAtAllAngles.2.2.2.1 ∈ lw_tbl := List.mem_of_getElem? (i := 285) rfl
set_option maxRecDepth 100000 in
theorem kX40 : Cond.code MX3_ridgesShowing.1 MX3_ridgesShowing.2.1 MX3_ridgesShowing.2.2.1 MX3_ridgesShowing.2.2.2.1 ∈ lw_tbl := List.mem_of_getElem? (i := 317) rfl
set_option maxRecDepth 100000 in
theorem kX41 : Cond.code MX3_wholeView.1 MX3_wholeView.2.1 MX3_wholeView.2.2.1 MX3_wholeView.2.2.2.1 ∈ lw_tbl := List.mem_of_getElem? (i := 313) rfl
set_option maxRecDepth 100000 in
theorem kX42 : Cond.code MX3_mostShownView.1 MX3_mostShownView.2.1 MX3_mostShownView.2.2.1 MX3_mostShownView.2.2.2.1 ∈ lw_tbl := List.mem_of_getElem? (i := 434) rfl
set_option maxRecDepth 100000 in
theorem kX43 : Cond.code MX3_mostShownRidges.1 MX3_mostShownRidges.2.1 MX3_mostShownRidges.2.2.1 MX3_mostShownRidges.2.2.2.1 ∈ lw_tbl := List.mem_of_getElem? (i := 438) rfl
set_option maxRecDepth 100000 in
theorem kX44 : Cond.code MX3_anglesShowingWhole.1 MX3_anglesShowingWhole.2.1 MX3_anglesShowingWhole.2.2.1 MX3_anglesShowingWhole.2.2.2.1 ∈ lw_tbl := List.mem_of_getElem? (i := 309) rfl
set_option maxRecDepth 100000 in
theorem kX45 : Cond.code MX3_anglesShowingAnyWhole.1 MX3_anglesShowingAnyWhole.2.1 MX3_anglesShowingAnyWhole.2.2.1 MX3_anglesShowingAnyWhole.2.2.2.1 ∈ lw_tbl := List.mem_of_getElem? (i := 305) rfl
set_option maxRecDepth 100000 in
theorem kX46 : Cond.code MX3_wholeViews.1 MX3_wholeViews.2.1 MX3_wholeViews.2.2.1 MX3_wholeViews.2.2.2.1 ∈ lw_tbl := List.mem_of_getElem? (i := 321) rfl
set_option maxRecDepth 100000 in
theorem kX47 : Cond.code MX3_clearestAngle.1 MX3_clearestAngle.2.1 MX3_clearestAngle.2.2.1 MX3_clearestAngle.2.2.2.1 ∈ lw_tbl := List.mem_of_getElem? (i := 474) rfl
set_option maxRecDepth 100000 in
theorem kX48 : Cond.code MX4_init.1 MX4_init.2.1 MX4_init.2.2.1 MX4_init.2.2.2.1 ∈ lw_tbl := List.mem_of_getElem? (i := 13) rfl
set_option maxRecDepth 100000 in
theorem kX49 : Cond.code MX4_colour.1 MX4_colour.2.1 MX4_colour.2.2.1 MX4_colour.2.2.2.1 ∈ lw_tbl := List.mem_of_getElem? (i := 341) rfl
set_option maxRecDepth 100000 in
theorem kX50 : Cond.code MX4_removeView.1 MX4_removeView.2.1 MX4_removeView.2.2.1 MX4_removeView.2.2.2.1 ∈ lw_tbl := List.mem_of_getElem? (i := 402) rfl
set_option maxRecDepth 100000 in
theorem kX51 : Cond.code MX4_swap.1 MX4_swap.2.1 MX4_swap.2.2.1 MX4_swap.2.2.2.1 ∈ lw_tbl := List.mem_of_getElem? (i := 352) rfl
set_option maxRecDepth 100000 in
theorem kX52 : Cond.code MX4_setPitch.1 MX4_setPitch.2.1 MX4_setPitch.2.2.1 MX4_setPitch.2.2.2.1 ∈ lw_tbl := List.mem_of_getElem? (i := 362) rfl
set_option maxRecDepth 100000 in
theorem kX53 : Cond.code MX4_slice.1 MX4_slice.2.1 MX4_slice.2.2.1 MX4_slice.2.2.2.1 ∈ lw_tbl := List.mem_of_getElem? (i := 379) rfl
set_option maxRecDepth 100000 in
theorem kX54 : Cond.code MX4_setShift.1 MX4_setShift.2.1 MX4_setShift.2.2.1 MX4_setShift.2.2.2.1 ∈ lw_tbl := List.mem_of_getElem? (i := 389) rfl
set_option maxRecDepth 100000 in
theorem kX55 : Cond.code MX4_setLean.1 MX4_setLean.2.1 MX4_setLean.2.2.1 MX4_setLean.2.2.2.1 ∈ lw_tbl := List.mem_of_getElem? (i := 393) rfl
set_option maxRecDepth 100000 in
theorem kX56 : Cond.code MX4_read.1 MX4_read.2.1 MX4_read.2.2.1 MX4_read.2.2.2.1 ∈ lw_tbl := List.mem_of_getElem? (i := 183) rfl
set_option maxRecDepth 100000 in
theorem kX57 : Cond.code MX4_press.1 MX4_press.2.1 MX4_press.2.2.1 MX4_press.2.2.2.1 ∈ lw_tbl := List.mem_of_getElem? (i := 397) rfl
set_option maxRecDepth 100000 in
theorem kX58 : Cond.code MX4_type.1 MX4_type.2.1 MX4_type.2.2.1 MX4_type.2.2.2.1 ∈ lw_tbl := List.mem_of_getElem? (i := 171) rfl
set_option maxRecDepth 100000 in
theorem kX59 : Cond.code MX4_clearText.1 MX4_clearText.2.1 MX4_clearText.2.2.1 MX4_clearText.2.2.2.1 ∈ lw_tbl := List.mem_of_getElem? (i := 163) rfl
set_option maxRecDepth 100000 in
theorem kX60 : Cond.code MX4_colourOf.1 MX4_colourOf.2.1 MX4_colourOf.2.2.1 MX4_colourOf.2.2.2.1 ∈ lw_tbl := List.mem_of_getElem? (i := 328) rfl
set_option maxRecDepth 100000 in
theorem kX61 : Cond.code MX4_viewOf.1 MX4_viewOf.2.1 MX4_viewOf.2.2.1 MX4_viewOf.2.2.2.1 ∈ lw_tbl := List.mem_of_getElem? (i := 370) rfl
set_option maxRecDepth 100000 in
theorem kX62 : Cond.code MX4_behind.1 MX4_behind.2.1 MX4_behind.2.2.1 MX4_behind.2.2.2.1 ∈ lw_tbl := List.mem_of_getElem? (i := 481) rfl
set_option maxRecDepth 100000 in
theorem kX63 : Cond.code MX4_seen.1 MX4_seen.2.1 MX4_seen.2.2.1 MX4_seen.2.2.2.1 ∈ lw_tbl := List.mem_of_getElem? (i := 444) rfl
set_option maxRecDepth 100000 in
theorem kX64 : Cond.code MX4_at.1 MX4_at.2.1 MX4_at.2.2.1 MX4_at.2.2.2.1 ∈ lw_tbl := List.mem_of_getElem? (i := 421) rfl
set_option maxRecDepth 100000 in
theorem kX65 : Cond.code MX4_view.1 MX4_view.2.1 MX4_view.2.2.1 MX4_view.2.2.2.1 ∈ lw_tbl := List.mem_of_getElem? (i := 465) rfl
set_option maxRecDepth 100000 in
theorem kX66 : Cond.code MX4_bestShift.1 MX4_bestShift.2.1 MX4_bestShift.2.2.1 MX4_bestShift.2.2.2.1 ∈ lw_tbl := List.mem_of_getElem? (i := 410) rfl
set_option maxRecDepth 100000 in
theorem kX67 : Cond.code MX4_ifSlice.1 MX4_ifSlice.2.1 MX4_ifSlice.2.2.1 MX4_ifSlice.2.2.2.1 ∈ lw_tbl := List.mem_of_getElem? (i := 384) rfl
set_option maxRecDepth 100000 in
theorem kX68 : Cond.code MX4_count.1 MX4_count.2.1 MX4_count.2.2.1 MX4_count.2.2.2.1 ∈ lw_tbl := List.mem_of_getElem? (i := 250) rfl
set_option maxRecDepth 100000 in
theorem kX69 : Cond.code MX4_isWithin.1 MX4_isWithin.2.1 MX4_isWithin.2.2.1 MX4_isWithin.2.2.2.1 ∈ lw_tbl := List.mem_of_getElem? (i := 205) rfl
set_option maxRecDepth 100000 in
theorem kX70 : Cond.code MX4_isRidge.1 MX4_isRidge.2.1 MX4_isRidge.2.2.1 MX4_isRidge.2.2.2.1 ∈ lw_tbl := List.mem_of_getElem? (i := 240) rfl
set_option maxRecDepth 100000 in
theorem kX71 : Cond.code MX4_isAngle.1 MX4_isAngle.2.1 MX4_isAngle.2.2.1 MX4_isAngle.2.2.2.1 ∈ lw_tbl := List.mem_of_getElem? (i := 424) rfl
set_option maxRecDepth 100000 in
theorem kX72 : Cond.code MX4_noneForNothing.1 MX4_noneForNothing.2.1 MX4_noneForNothing.2.2.1 MX4_noneForNothing.2.2.2.1 ∈ lw_tbl := List.mem_of_getElem? (i := 430) rfl
set_option maxRecDepth 100000 in
theorem kX73 : Cond.code MX4_copyNumbers.1 MX4_copyNumbers.2.1 MX4_copyNumbers.2.2.1 MX4_copyNumbers.2.2.2.1 ∈ lw_tbl := List.mem_of_getElem? (i := 228) rfl
set_option maxRecDepth 100000 in
theorem kX74 : Cond.code MX4_look.1 MX4_look.2.1 MX4_look.2.2.1 MX4_look.2.2.2.1 ∈ lw_tbl := List.mem_of_getElem? (i := 254) rfl
set_option maxRecDepth 100000 in
theorem kX75 : Cond.code MX4_ghostsWithShift.1 MX4_ghostsWithShift.2.1 MX4_ghostsWithShift.2.2.1 MX4_ghostsWithShift.2.2.2.1 ∈ lw_tbl := List.mem_of_getElem? (i := 414) rfl
set_option maxRecDepth 100000 in
theorem kX76 : Cond.code ML_cell.1 ML_cell.2.1 ML_cell.2.2.1 ML_cell.2.2.2.1 ∈ lw_tbl := List.mem_of_getElem? (i := 151) rfl
set_option maxRecDepth 100000 in
theorem kX77 : Cond.code ML_up.1 ML_up.2.1 ML_up.2.2.1 ML_up.2.2.2.1 ∈ lw_tbl := List.mem_of_getElem? (i := 158) rfl
set_option maxRecDepth 100000 in
theorem kX78 : Cond.code ML_there.1 ML_there.2.1 ML_there.2.2.1 ML_there.2.2.2.1 ∈ lw_tbl := List.mem_of_getElem? (i := 345) rfl
set_option maxRecDepth 100000 in
theorem kX79 : Cond.code ML_colour.1 ML_colour.2.1 ML_colour.2.2.1 ML_colour.2.2.2.1 ∈ lw_tbl := List.mem_of_getElem? (i := 348) rfl
set_option maxRecDepth 100000 in
theorem kX80 : Cond.code ML_areSlices.1 ML_areSlices.2.1 ML_areSlices.2.2.1 ML_areSlices.2.2.2.1 ∈ lw_tbl := List.mem_of_getElem? (i := 366) rfl
set_option maxRecDepth 100000 in
theorem kX81 : Cond.code ML_isRead.1 ML_isRead.2.1 ML_isRead.2.2.1 ML_isRead.2.2.2.1 ∈ lw_tbl := List.mem_of_getElem? (i := 155) rfl
set_option maxRecDepth 100000 in
theorem kX82 : Cond.code ML_isStep.1 ML_isStep.2.1 ML_isStep.2.2.1 ML_isStep.2.2.2.1 ∈ lw_tbl := List.mem_of_getElem? (i := 324) rfl
set_option maxRecDepth 100000 in
theorem kX83 : Cond.code ML_areAlike.1 ML_areAlike.2.1 ML_areAlike.2.2.1 ML_areAlike.2.2.2.1 ∈ lw_tbl := List.mem_of_getElem? (i := 417) rfl
set_option maxRecDepth 100000 in
theorem kX84 : Cond.code ML_isWell.1 ML_isWell.2.1 ML_isWell.2.2.1 ML_isWell.2.2.2.1 ∈ lw_tbl := List.mem_of_getElem? (i := 477) rfl
def av_MT0 : List av_M := [MX0_init, MX0_copyFrom, MX0_hasView, MX0_hasSlice, MX0_colourIn, MX0_paint, MX0_dropView, MX0_exchangeViews, MX0_resetSlices, MX0_viewDue, MX0_putSlice, MX0_slicesShowing, MX0_spotBehind, MX0_sliceBehind, MX0_ridgeBehind, MX0_viewBehind, MX0_colourBehind, MX0_stepAt, MX0_placeSeen, MX1_init, MX1_isFull, MX1_append, MX1_empty, MX1_charAt, MX1_digitAt]
theorem av_MT0_ok : ∀ M ∈ av_MT0, Cond.code M.1 M.2.1 M.2.2.1 M.2.2.2.1 ∈ lw_tbl := List.forall_mem_cons.mpr ⟨kX0, List.forall_mem_cons.mpr ⟨kX1, List.forall_mem_cons.mpr ⟨kX2, List.forall_mem_cons.mpr ⟨kX3, List.forall_mem_cons.mpr ⟨kX4, List.forall_mem_cons.mpr ⟨kX5, List.forall_mem_cons.mpr ⟨kX6, List.forall_mem_cons.mpr ⟨kX7, List.forall_mem_cons.mpr ⟨kX8, List.forall_mem_cons.mpr ⟨kX9, List.forall_mem_cons.mpr ⟨kX10, List.forall_mem_cons.mpr ⟨kX11, List.forall_mem_cons.mpr ⟨kX12, List.forall_mem_cons.mpr ⟨kX13, List.forall_mem_cons.mpr ⟨kX14, List.forall_mem_cons.mpr ⟨kX15, List.forall_mem_cons.mpr ⟨kX16, List.forall_mem_cons.mpr ⟨kX17, List.forall_mem_cons.mpr ⟨kX18, List.forall_mem_cons.mpr ⟨kX19, List.forall_mem_cons.mpr ⟨kX20, List.forall_mem_cons.mpr ⟨kX21, List.forall_mem_cons.mpr ⟨kX22, List.forall_mem_cons.mpr ⟨kX23, List.forall_mem_cons.mpr ⟨kX24, fun _ h => absurd h List.not_mem_nil⟩⟩⟩⟩⟩⟩⟩⟩⟩⟩⟩⟩⟩⟩⟩⟩⟩⟩⟩⟩⟩⟩⟩⟩⟩
def av_MT1 : List av_M := [MX1_findFault, MX1_isAllowed, MX1_isEnded, MX1_viewsUpTo, MX1_writeTo, MX2_init, MX2_record, MX2_dropOldest, MX2_stateAt, MX3_init, MX3_aim, MX3_viewSeen, MX3_isGhost, MX3_ghosts, MX3_ghostsAtAllAngles, MX3_ridgesShowing, MX3_wholeView, MX3_mostShownView, MX3_mostShownRidges, MX3_anglesShowingWhole, MX3_anglesShowingAnyWhole, MX3_wholeViews, MX3_clearestAngle, MX4_init, MX4_colour]
theorem av_MT1_ok : ∀ M ∈ av_MT1, Cond.code M.1 M.2.1 M.2.2.1 M.2.2.2.1 ∈ lw_tbl := List.forall_mem_cons.mpr ⟨kX25, List.forall_mem_cons.mpr ⟨kX26, List.forall_mem_cons.mpr ⟨kX27, List.forall_mem_cons.mpr ⟨kX28, List.forall_mem_cons.mpr ⟨kX29, List.forall_mem_cons.mpr ⟨kX30, List.forall_mem_cons.mpr ⟨kX31, List.forall_mem_cons.mpr ⟨kX32, List.forall_mem_cons.mpr ⟨kX33, List.forall_mem_cons.mpr ⟨kX34, List.forall_mem_cons.mpr ⟨kX35, List.forall_mem_cons.mpr ⟨kX36, List.forall_mem_cons.mpr ⟨kX37, List.forall_mem_cons.mpr ⟨kX38, List.forall_mem_cons.mpr ⟨kX39, List.forall_mem_cons.mpr ⟨kX40, List.forall_mem_cons.mpr ⟨kX41, List.forall_mem_cons.mpr ⟨kX42, List.forall_mem_cons.mpr ⟨kX43, List.forall_mem_cons.mpr ⟨kX44, List.forall_mem_cons.mpr ⟨kX45, List.forall_mem_cons.mpr ⟨kX46, List.forall_mem_cons.mpr ⟨kX47, List.forall_mem_cons.mpr ⟨kX48, List.forall_mem_cons.mpr ⟨kX49, fun _ h => absurd h List.not_mem_nil⟩⟩⟩⟩⟩⟩⟩⟩⟩⟩⟩⟩⟩⟩⟩⟩⟩⟩⟩⟩⟩⟩⟩⟩⟩
def av_MT2 : List av_M := [MX4_removeView, MX4_swap, MX4_setPitch, MX4_slice, MX4_setShift, MX4_setLean, MX4_read, MX4_press, MX4_type, MX4_clearText, MX4_colourOf, MX4_viewOf, MX4_behind, MX4_seen, MX4_at, MX4_view, MX4_bestShift, MX4_ifSlice, MX4_count, MX4_isWithin, MX4_isRidge, MX4_isAngle, MX4_noneForNothing, MX4_copyNumbers, MX4_look]
theorem av_MT2_ok : ∀ M ∈ av_MT2, Cond.code M.1 M.2.1 M.2.2.1 M.2.2.2.1 ∈ lw_tbl := List.forall_mem_cons.mpr ⟨kX50, List.forall_mem_cons.mpr ⟨kX51, List.forall_mem_cons.mpr ⟨kX52, List.forall_mem_cons.mpr ⟨kX53, List.forall_mem_cons.mpr ⟨kX54, List.forall_mem_cons.mpr ⟨kX55, List.forall_mem_cons.mpr ⟨kX56, List.forall_mem_cons.mpr ⟨kX57, List.forall_mem_cons.mpr ⟨kX58, List.forall_mem_cons.mpr ⟨kX59, List.forall_mem_cons.mpr ⟨kX60, List.forall_mem_cons.mpr ⟨kX61, List.forall_mem_cons.mpr ⟨kX62, List.forall_mem_cons.mpr ⟨kX63, List.forall_mem_cons.mpr ⟨kX64, List.forall_mem_cons.mpr ⟨kX65, List.forall_mem_cons.mpr ⟨kX66, List.forall_mem_cons.mpr ⟨kX67, List.forall_mem_cons.mpr ⟨kX68, List.forall_mem_cons.mpr ⟨kX69, List.forall_mem_cons.mpr ⟨kX70, List.forall_mem_cons.mpr ⟨kX71, List.forall_mem_cons.mpr ⟨kX72, List.forall_mem_cons.mpr ⟨kX73, List.forall_mem_cons.mpr ⟨kX74, fun _ h => absurd h List.not_mem_nil⟩⟩⟩⟩⟩⟩⟩⟩⟩⟩⟩⟩⟩⟩⟩⟩⟩⟩⟩⟩⟩⟩⟩⟩⟩
def av_MT3 : List av_M := [MX4_ghostsWithShift, ML_cell, ML_up, ML_there, ML_colour, ML_areSlices, ML_isRead, ML_isStep, ML_areAlike, ML_isWell]
theorem av_MT3_ok : ∀ M ∈ av_MT3, Cond.code M.1 M.2.1 M.2.2.1 M.2.2.2.1 ∈ lw_tbl := List.forall_mem_cons.mpr ⟨kX75, List.forall_mem_cons.mpr ⟨kX76, List.forall_mem_cons.mpr ⟨kX77, List.forall_mem_cons.mpr ⟨kX78, List.forall_mem_cons.mpr ⟨kX79, List.forall_mem_cons.mpr ⟨kX80, List.forall_mem_cons.mpr ⟨kX81, List.forall_mem_cons.mpr ⟨kX82, List.forall_mem_cons.mpr ⟨kX83, List.forall_mem_cons.mpr ⟨kX84, fun _ h => absurd h List.not_mem_nil⟩⟩⟩⟩⟩⟩⟩⟩⟩⟩
theorem av_code_ok : ∀ M ∈ av_MT, Cond.code M.1 M.2.1 M.2.2.1 M.2.2.2.1 ∈ lw_tbl := by
  show ∀ M ∈ av_MT0 ++ (av_MT1 ++ (av_MT2 ++ (av_MT3))), _
  exact List.forall_mem_append.mpr ⟨av_MT0_ok, List.forall_mem_append.mpr ⟨av_MT1_ok, List.forall_mem_append.mpr ⟨av_MT2_ok, av_MT3_ok⟩⟩⟩
def av_inip : List Nat := [5, 5, 5, 5, 5, 5, 5, 5, 5, 5, 5, 5, 5, 5, 5, 5, 5, 5, 5, 7, 7, 7, 7, 7, 7, 7, 7, 7, 7, 7, 6, 6, 6, 6, 4, 4, 4, 4, 4, 4, 4, 4, 4, 4, 4, 4, 4, 4, 3, 3, 3, 3, 3, 3, 3, 3, 3, 3, 3, 3, 3, 3, 3, 3, 3, 3, 3, 3, 3, 3, 3, 3, 3, 3, 3, 3, 2, 2, 2, 2, 2, 2, 2, 2, 2]
/-- a call by class and pool number: kind (0 virtual, 1 virtual of a nest mate, 2 static, 3 static of a nest mate, 4 constructor, 5 constructor of a nest mate), callee by its place in av_MT, host of the nest, places of the words -/
def av_resL : List (Nat × Nat × Nat × Nat × String × Nat × Nat × Nat) := [(99, 9, 0, 68, "", 247, 248, 249), (99, 15, 0, 61, "", 367, 368, 369), (99, 18, 2, 78, "", 343, 344, 0), (99, 24, 0, 53, "", 376, 377, 378), (99, 28, 2, 77, "", 156, 157, 0), (99, 31, 0, 59, "", 160, 161, 162), (99, 35, 0, 58, "", 168, 169, 170), (99, 39, 0, 56, "", 180, 181, 182), (99, 42, 0, 60, "", 325, 326, 327), (99, 45, 0, 49, "", 338, 339, 340), (99, 49, 2, 79, "", 346, 347, 0), (99, 51, 2, 81, "", 153, 154, 0), (99, 55, 0, 51, "", 349, 350, 351), (99, 58, 0, 52, "", 359, 360, 361), (99, 61, 2, 80, "", 364, 365, 0), (99, 65, 0, 67, "", 381, 382, 383), (99, 68, 0, 54, "", 386, 387, 388), (99, 71, 0, 55, "", 390, 391, 392), (99, 74, 0, 57, "", 394, 395, 396), (99, 77, 0, 50, "", 399, 400, 401), (99, 80, 0, 66, "", 407, 408, 409), (99, 83, 0, 64, "", 418, 419, 420), (99, 86, 0, 63, "", 441, 442, 443), (99, 89, 0, 65, "", 462, 463, 464), (99, 92, 0, 62, "", 478, 479, 480), (99, 95, 4, 48, "", 11, 12, 0), (99, 96, 2, 76, "", 149, 150, 0), (99, 100, 2, 82, "", 322, 323, 0), (99, 103, 2, 84, "", 475, 476, 0), (99, 107, 2, 83, "", 415, 416, 0), (3, 11, 4, 0, "", 25, 26, 0), (3, 25, 0, 18, "", 259, 260, 261), (3, 29, 0, 13, "", 269, 270, 271), (3, 32, 0, 17, "", 277, 278, 279), (3, 36, 3, 69, "TiltedCards", 281, 204, 0), (3, 40, 0, 9, "", 298, 299, 300), (3, 43, 0, 36, "", 294, 295, 296), (3, 46, 0, 37, "", 290, 291, 292), (3, 54, 0, 38, "", 286, 287, 288), (3, 57, 0, 40, "", 314, 315, 316), (3, 63, 0, 42, "", 439, 432, 433), (3, 66, 0, 41, "", 310, 311, 312), (3, 69, 0, 44, "", 306, 307, 308), (0, 40, 0, 8, "", 29, 30, 31), (0, 43, 3, 73, "TiltedCards", 226, 227, 0), (0, 47, 3, 69, "TiltedCards", 237, 204, 0), (0, 51, 3, 70, "TiltedCards", 238, 239, 0), (0, 55, 0, 5, "", 358, 234, 235), (0, 59, 0, 4, "", 357, 335, 336), (0, 63, 0, 9, "", 451, 299, 300), (0, 82, 0, 12, "", 273, 274, 275), (0, 85, 0, 13, "", 450, 270, 271), (0, 88, 0, 15, "", 456, 447, 448), (0, 91, 0, 14, "", 457, 458, 459), (4, 9, 5, 34, "TiltedCards", 19, 20, 0), (4, 33, 4, 30, "", 86, 87, 0), (4, 40, 4, 0, "", 102, 26, 0), (4, 50, 5, 19, "TiltedCards", 105, 106, 0), (4, 55, 0, 2, "", 329, 330, 331), (4, 59, 2, 70, "", 333, 239, 0), (4, 62, 2, 69, "", 241, 204, 0), (4, 66, 0, 4, "", 334, 335, 336), (4, 70, 0, 31, "", 210, 211, 212), (4, 74, 0, 5, "", 342, 234, 235), (4, 85, 0, 6, "", 403, 404, 405), (4, 89, 0, 7, "", 353, 354, 355), (4, 95, 0, 8, "", 363, 30, 31), (4, 98, 0, 3, "", 371, 372, 373), (4, 101, 0, 9, "", 375, 299, 300), (4, 105, 0, 10, "", 380, 244, 245), (4, 126, 0, 74, "", 251, 253, 0), (4, 130, 0, 39, "", 282, 283, 284), (4, 134, 0, 25, "", 184, 185, 186), (4, 137, 0, 29, "", 229, 230, 231), (4, 144, 0, 46, "", 318, 319, 320), (4, 153, 0, 20, "", 172, 173, 174), (4, 157, 0, 21, "", 176, 177, 178), (4, 164, 0, 22, "", 164, 165, 166), (4, 173, 0, 1, "", 385, 223, 224), (4, 176, 0, 15, "", 446, 447, 448), (4, 179, 2, 72, "", 428, 429, 0), (4, 182, 0, 16, "", 452, 453, 454), (4, 185, 0, 14, "", 482, 458, 459), (4, 188, 2, 71, "", 422, 423, 0), (4, 191, 0, 17, "", 425, 278, 279), (4, 194, 0, 18, "", 445, 260, 261), (4, 197, 0, 37, "", 461, 291, 292), (4, 201, 0, 38, "", 426, 287, 288), (4, 204, 0, 41, "", 427, 311, 312), (4, 207, 0, 42, "", 431, 432, 433), (4, 210, 0, 43, "", 435, 436, 437), (4, 213, 0, 40, "", 440, 315, 316), (4, 216, 0, 11, "", 466, 467, 468), (4, 219, 0, 44, "", 470, 307, 308), (4, 222, 0, 47, "", 471, 472, 473), (4, 225, 0, 75, "", 411, 413, 1), (4, 228, 0, 35, "", 255, 256, 257), (4, 231, 0, 45, "", 302, 303, 304), (2, 21, 4, 0, "", 92, 26, 0), (2, 22, 0, 32, "", 214, 215, 216), (2, 25, 0, 33, "", 218, 219, 220), (2, 29, 0, 1, "", 222, 223, 224), (1, 22, 0, 23, "", 196, 197, 198), (1, 26, 0, 26, "", 188, 189, 190), (1, 30, 0, 27, "", 206, 207, 208), (1, 34, 0, 24, "", 192, 193, 194), (1, 38, 2, 28, "", 200, 201, 0), (1, 41, 3, 69, "TiltedCards", 203, 204, 0), (1, 50, 0, 5, "", 233, 234, 235), (1, 54, 0, 8, "", 242, 30, 31), (1, 60, 0, 10, "", 243, 244, 245)]
/-- Math.max (true) and min -/
def av_mmL : List (Nat × Nat × Bool × Nat × Nat × Nat × Nat) := [(0, 94, false, 263, 264, 265, 8), (0, 77, true, 266, 267, 268, 8)]
-- object constructors
def av_objL : List (Nat × Nat) := [(4, 1), (3, 3), (0, 3), (2, 3), (1, 3)]
def av_fldL : List (Nat × Nat × Nat × Nat × String × Nat) := [(0, 9, 0, 0, "", 33), (0, 15, 0, 1, "", 37), (0, 19, 0, 2, "", 38), (0, 22, 0, 3, "", 42), (0, 25, 0, 4, "", 43), (0, 28, 0, 5, "", 45), (0, 31, 0, 6, "", 47), (0, 34, 0, 7, "", 49), (0, 37, 0, 8, "", 51), (3, 12, 3, 0, "", 73), (3, 18, 3, 1, "", 75), (3, 22, 3, 2, "", 76), (3, 50, 0, 2, "TiltedCards", 39), (3, 60, 0, 0, "TiltedCards", 35), (2, 11, 2, 0, "", 93), (2, 17, 2, 1, "", 94), (1, 9, 1, 0, "", 109), (1, 15, 1, 1, "", 110), (1, 19, 1, 2, "", 112), (1, 45, 0, 0, "TiltedCards", 36), (1, 57, 0, 2, "TiltedCards", 41), (4, 10, 4, 0, "", 121), (4, 16, 3, 0, "TiltedCards", 74), (4, 20, 4, 1, "", 122), (4, 21, 4, 2, "", 123), (4, 24, 4, 3, "", 124), (4, 27, 4, 4, "", 125), (4, 34, 4, 5, "", 126), (4, 41, 4, 6, "", 127), (4, 44, 4, 7, "", 128), (4, 51, 4, 8, "", 129), (4, 78, 0, 0, "TiltedCards", 34), (4, 92, 0, 2, "TiltedCards", 40), (4, 109, 0, 4, "TiltedCards", 44), (4, 112, 0, 5, "TiltedCards", 46), (4, 140, 0, 6, "TiltedCards", 48), (4, 147, 0, 7, "TiltedCards", 50), (4, 150, 0, 8, "TiltedCards", 52), (4, 161, 1, 1, "TiltedCards", 111), (4, 167, 2, 1, "TiltedCards", 95)]
def av_clsL : List (Nat × Nat × Nat) := [(99, 10, 4), (4, 7, 3), (3, 9, 0), (4, 31, 2), (2, 9, 0), (4, 38, 0), (4, 48, 1)]
def av_kiL : List (Nat × Nat × Int32) := [(99, 7, 2145768391), (99, 8, 2147483647), (4, 143, 99999)]
def av_klL : List (Nat × Nat × Int64) := []
def av_R (k : Nat) : String := match k with
  | 0 => RX0
  | 1 => RX1
  | 2 => RX2
  | 3 => RX3
  | 4 => RX4
  | 90 => RJ9
  | _ => RL
def av_T (k : Nat) : u_T := match k with
  | 0 => TX0
  | 1 => TX1
  | 2 => TX2
  | 3 => TX3
  | _ => TX4
def av_ty (k : Nat) : Nat → FieldType := match k with
  | 0 => tyX0
  | 1 => tyX1
  | 2 => tyX2
  | 3 => tyX3
  | _ => tyX4
def av_N (k : Nat) : Nat := match k with
  | 0 => 9
  | 1 => 3
  | 2 => 2
  | 3 => 3
  | _ => 9
def av_df (k : Nat) : List Value := match k with
  | 0 => [.int 0, .null, .int 0, .null, .int 0, .int 0, .int 0, .int 0, .int 0]
  | 1 => [.null, .int 0, .int 0]
  | 2 => [.null, .int 0]
  | 3 => [.null, .null, .null]
  | _ => [.null, .null, .null, .null, .null, .null, .null, .int 0, .null]
