/-! TABLES of the machine: methods, calls, fields, constants; printed by wip/whole/gen/gen01.py -/
/-- a method: name, bytes, locals, answer, class number, height over the leaves, arguments -/
abbrev av_M : Type := MethodName × ByteArray × Nat × Option FieldType × Nat × Nat × Nat
abbrev MX0_init : av_M := (yX0_init, cX0_init, 1, none, 0, 1, 0)
abbrev MX0_copyFrom : av_M := (yX0_copyFrom, cX0_copyFrom, 2, none, 0, 1, 1)
abbrev MX0_hasView : av_M := (yX0_hasView, cX0_hasView, 2, (some .boolean), 0, 1, 1)
abbrev MX0_hasSlice : av_M := (yX0_hasSlice, cX0_hasSlice, 2, (some .boolean), 0, 1, 1)
abbrev MX0_colourIn : av_M := (yX0_colourIn, cX0_colourIn, 3, (some .int), 0, 2, 2)
abbrev MX0_paint : av_M := (yX0_paint, cX0_paint, 4, none, 0, 2, 3)
abbrev MX0_appendView : av_M := (yX0_appendView, cX0_appendView, 2, none, 0, 3, 0)
abbrev MX0_dropView : av_M := (yX0_dropView, cX0_dropView, 4, none, 0, 3, 1)
abbrev MX0_exchangeViews : av_M := (yX0_exchangeViews, cX0_exchangeViews, 7, (some .int), 0, 3, 2)
abbrev MX0_resetSlices : av_M := (yX0_resetSlices, cX0_resetSlices, 3, none, 0, 0, 0)
abbrev MX0_viewDue : av_M := (yX0_viewDue, cX0_viewDue, 2, (some .int), 0, 0, 1)
abbrev MX0_putSlice : av_M := (yX0_putSlice, cX0_putSlice, 3, none, 0, 1, 2)
abbrev MX0_putSlices : av_M := (yX0_putSlices, cX0_putSlices, 2, none, 0, 1, 1)
abbrev MX0_hasSlices : av_M := (yX0_hasSlices, cX0_hasSlices, 3, (some .boolean), 0, 1, 1)
abbrev MX0_slicesShowing : av_M := (yX0_slicesShowing, cX0_slicesShowing, 4, (some .int), 0, 1, 1)
abbrev MX0_showsEachView : av_M := (yX0_showsEachView, cX0_showsEachView, 2, (some .boolean), 0, 2, 0)
abbrev MX0_startSlices : av_M := (yX0_startSlices, cX0_startSlices, 2, none, 0, 0, 0)
abbrev MX0_nextSlices : av_M := (yX0_nextSlices, cX0_nextSlices, 4, (some .boolean), 0, 2, 0)
abbrev MX0_highestViewBefore : av_M := (yX0_highestViewBefore, cX0_highestViewBefore, 4, (some .int), 0, 1, 1)
abbrev MX0_spotBehind : av_M := (yX0_spotBehind, cX0_spotBehind, 4, (some .int), 0, 1, 2)
abbrev MX0_sliceBehind : av_M := (yX0_sliceBehind, cX0_sliceBehind, 4, (some .int), 0, 2, 2)
abbrev MX0_ridgeBehind : av_M := (yX0_ridgeBehind, cX0_ridgeBehind, 4, (some .int), 0, 2, 2)
abbrev MX0_viewBehind : av_M := (yX0_viewBehind, cX0_viewBehind, 3, (some .int), 0, 3, 2)
abbrev MX0_colourBehind : av_M := (yX0_colourBehind, cX0_colourBehind, 3, (some .int), 0, 4, 2)
abbrev MX0_stepAt : av_M := (yX0_stepAt, cX0_stepAt, 2, (some .int), 0, 0, 1)
abbrev MX0_placeSeen : av_M := (yX0_placeSeen, cX0_placeSeen, 4, (some .int), 0, 1, 2)
abbrev MX1_init : av_M := (yX1_init, cX1_init, 1, none, 1, 1, 0)
abbrev MX1_isFull : av_M := (yX1_isFull, cX1_isFull, 1, (some .boolean), 1, 0, 0)
abbrev MX1_append : av_M := (yX1_append, cX1_append, 2, none, 1, 0, 1)
abbrev MX1_empty : av_M := (yX1_empty, cX1_empty, 1, none, 1, 0, 0)
abbrev MX1_charAt : av_M := (yX1_charAt, cX1_charAt, 2, (some .char), 1, 0, 1)
abbrev MX1_digitAt : av_M := (yX1_digitAt, cX1_digitAt, 3, (some .int), 1, 1, 1)
abbrev MX1_findFault : av_M := (yX1_findFault, cX1_findFault, 2, (some .int), 1, 3, 0)
abbrev MX1_isAllowed : av_M := (yX1_isAllowed, cX1_isAllowed, 2, (some .boolean), 1, 2, 1)
abbrev MX1_isEnded : av_M := (yX1_isEnded, cX1_isEnded, 1, (some .boolean), 1, 1, 0)
abbrev MX1_viewsUpTo : av_M := (yX1_viewsUpTo, cX1_viewsUpTo, 1, (some .int), 1, 0, 1)
abbrev MX1_writeTo : av_M := (yX1_writeTo, cX1_writeTo, 4, none, 1, 3, 1)
abbrev MX2_init : av_M := (yX2_init, cX2_init, 2, none, 2, 2, 0)
abbrev MX2_record : av_M := (yX2_record, cX2_record, 3, none, 2, 2, 1)
abbrev MX2_dropOldest : av_M := (yX2_dropOldest, cX2_dropOldest, 3, none, 2, 0, 0)
abbrev MX2_takeLatest : av_M := (yX2_takeLatest, cX2_takeLatest, 3, none, 2, 2, 1)
abbrev MX2_stateAt : av_M := (yX2_stateAt, cX2_stateAt, 2, (some (.object "TiltedCards$Card")), 2, 0, 1)
abbrev MX3_init : av_M := (yX3_init, cX3_init, 1, none, 3, 2, 0)
abbrev MX3_aim : av_M := (yX3_aim, cX3_aim, 3, none, 3, 3, 0)
abbrev MX3_viewSeen : av_M := (yX3_viewSeen, cX3_viewSeen, 3, (some .int), 3, 1, 2)
abbrev MX3_isGhost : av_M := (yX3_isGhost, cX3_isGhost, 4, (some .boolean), 3, 2, 2)
abbrev MX3_ghosts : av_M := (yX3_ghosts, cX3_ghosts, 4, (some .int), 3, 3, 1)
abbrev MX3_ghostsAtAllAngles : av_M := (yX3_ghostsAtAllAngles, cX3_ghostsAtAllAngles, 3, (some .int), 3, 4, 0)
abbrev MX3_ridgesShowing : av_M := (yX3_ridgesShowing, cX3_ridgesShowing, 5, (some .int), 3, 2, 2)
abbrev MX3_wholeView : av_M := (yX3_wholeView, cX3_wholeView, 3, (some .int), 3, 3, 1)
abbrev MX3_mostShownView : av_M := (yX3_mostShownView, cX3_mostShownView, 6, (some .int), 3, 3, 1)
abbrev MX3_mostShownRidges : av_M := (yX3_mostShownRidges, cX3_mostShownRidges, 3, (some .int), 3, 4, 1)
abbrev MX3_anglesShowingWhole : av_M := (yX3_anglesShowingWhole, cX3_anglesShowingWhole, 4, (some .int), 3, 4, 1)
abbrev MX3_anglesShowingAnyWhole : av_M := (yX3_anglesShowingAnyWhole, cX3_anglesShowingAnyWhole, 1, (some .int), 3, 5, 0)
abbrev MX3_wholeViews : av_M := (yX3_wholeViews, cX3_wholeViews, 3, (some .int), 3, 5, 0)
abbrev MX3_clearestAngle : av_M := (yX3_clearestAngle, cX3_clearestAngle, 9, (some .int), 3, 4, 1)
abbrev MX4_init : av_M := (yX4_init, cX4_init, 1, none, 4, 3, 0)
abbrev MX4_colour : av_M := (yX4_colour, cX4_colour, 5, (some .int), 4, 3, 3)
abbrev MX4_addView : av_M := (yX4_addView, cX4_addView, 1, (some .int), 4, 4, 0)
abbrev MX4_removeView : av_M := (yX4_removeView, cX4_removeView, 2, (some .int), 4, 4, 1)
abbrev MX4_swap : av_M := (yX4_swap, cX4_swap, 3, (some .int), 4, 4, 2)
abbrev MX4_setPitch : av_M := (yX4_setPitch, cX4_setPitch, 3, (some .int), 4, 3, 1)
abbrev MX4_slice : av_M := (yX4_slice, cX4_slice, 4, (some .int), 4, 3, 2)
abbrev MX4_setShift : av_M := (yX4_setShift, cX4_setShift, 3, (some .int), 4, 3, 1)
abbrev MX4_setLean : av_M := (yX4_setLean, cX4_setLean, 3, (some .int), 4, 3, 1)
abbrev MX4_order : av_M := (yX4_order, cX4_order, 1, (some .int), 4, 6, 0)
abbrev MX4_read : av_M := (yX4_read, cX4_read, 2, (some .int), 4, 4, 0)
abbrev MX4_press : av_M := (yX4_press, cX4_press, 3, (some .int), 4, 6, 1)
abbrev MX4_type : av_M := (yX4_type, cX4_type, 2, (some .int), 4, 1, 1)
abbrev MX4_clearText : av_M := (yX4_clearText, cX4_clearText, 2, (some .int), 4, 1, 0)
abbrev MX4_undo : av_M := (yX4_undo, cX4_undo, 1, (some .int), 4, 3, 0)
abbrev MX4_keep : av_M := (yX4_keep, cX4_keep, 1, (some .int), 4, 2, 0)
abbrev MX4_restore : av_M := (yX4_restore, cX4_restore, 1, (some .int), 4, 3, 0)
abbrev MX4_colourOf : av_M := (yX4_colourOf, cX4_colourOf, 3, (some .int), 4, 3, 2)
abbrev MX4_viewOf : av_M := (yX4_viewOf, cX4_viewOf, 2, (some .int), 4, 2, 1)
abbrev MX4_behind : av_M := (yX4_behind, cX4_behind, 4, (some .int), 4, 5, 3)
abbrev MX4_seen : av_M := (yX4_seen, cX4_seen, 6, (some .int), 4, 5, 3)
abbrev MX4_at : av_M := (yX4_at, cX4_at, 4, (some .int), 4, 5, 2)
abbrev MX4_view : av_M := (yX4_view, cX4_view, 3, (some .int), 4, 5, 2)
abbrev MX4_bestOrder : av_M := (yX4_bestOrder, cX4_bestOrder, 2, (some .int), 4, 6, 1)
abbrev MX4_bestShift : av_M := (yX4_bestShift, cX4_bestShift, 6, (some .int), 4, 6, 0)
abbrev MX4_ifSlice : av_M := (yX4_ifSlice, cX4_ifSlice, 3, (some .int), 4, 5, 2)
abbrev MX4_count : av_M := (yX4_count, cX4_count, 2, (some .int), 4, 6, 1)
abbrev MX4_isWithin : av_M := (yX4_isWithin, cX4_isWithin, 3, (some .boolean), 4, 0, 3)
abbrev MX4_isRidge : av_M := (yX4_isRidge, cX4_isRidge, 1, (some .boolean), 4, 1, 1)
abbrev MX4_isAngle : av_M := (yX4_isAngle, cX4_isAngle, 1, (some .boolean), 4, 1, 1)
abbrev MX4_noneForNothing : av_M := (yX4_noneForNothing, cX4_noneForNothing, 1, (some .int), 4, 0, 1)
abbrev MX4_copyNumbers : av_M := (yX4_copyNumbers, cX4_copyNumbers, 3, none, 4, 0, 2)
abbrev MX4_look : av_M := (yX4_look, cX4_look, 1, (some (.object "TiltedCards$Sight")), 4, 4, 0)
abbrev MX4_ghostsWithShift : av_M := (yX4_ghostsWithShift, cX4_ghostsWithShift, 2, (some .int), 4, 5, 1)
abbrev MX4_findBestSlices : av_M := (yX4_findBestSlices, cX4_findBestSlices, 7, none, 4, 5, 0)
abbrev MX5_init : av_M := (yX5_init, cX5_init, 1, none, 5, 1, 0)
abbrev MX5_in : av_M := (yX5_in, cX5_in, 6, (some .boolean), 5, 0, 3)
abbrev MX5_remember : av_M := (yX5_remember, cX5_remember, 2, none, 5, 0, 0)
abbrev MX5_acted : av_M := (yX5_acted, cX5_acted, 3, (some .int), 5, 0, 1)
abbrev MX5_isView : av_M := (yX5_isView, cX5_isView, 2, (some .boolean), 5, 1, 1)
abbrev MX5_isRidge : av_M := (yX5_isRidge, cX5_isRidge, 1, (some .boolean), 5, 1, 1)
abbrev MX5_isSlice : av_M := (yX5_isSlice, cX5_isSlice, 2, (some .boolean), 5, 1, 1)
abbrev MX5_isAngle : av_M := (yX5_isAngle, cX5_isAngle, 1, (some .boolean), 5, 1, 1)
abbrev MX5_colourAt : av_M := (yX5_colourAt, cX5_colourAt, 3, (some .int), 5, 0, 2)
abbrev MX5_ordersAsFirst : av_M := (yX5_ordersAsFirst, cX5_ordersAsFirst, 2, none, 5, 0, 0)
abbrev MX5_dueAt : av_M := (yX5_dueAt, cX5_dueAt, 4, (some .int), 5, 1, 2)
abbrev MX5_placeSeen : av_M := (yX5_placeSeen, cX5_placeSeen, 4, (some .int), 5, 0, 2)
abbrev MX5_laysSlots : av_M := (yX5_laysSlots, cX5_laysSlots, 4, none, 5, 2, 0)
abbrev MX5_viewSeen : av_M := (yX5_viewSeen, cX5_viewSeen, 4, (some .int), 5, 0, 2)
abbrev MX5_isGhost : av_M := (yX5_isGhost, cX5_isGhost, 4, (some .boolean), 5, 1, 2)
abbrev MX5_ghostsAt : av_M := (yX5_ghostsAt, cX5_ghostsAt, 4, (some .int), 5, 2, 1)
abbrev MX5_ghosts : av_M := (yX5_ghosts, cX5_ghosts, 3, (some .int), 5, 3, 0)
abbrev MX5_ghostsNow : av_M := (yX5_ghostsNow, cX5_ghostsNow, 1, (some .int), 5, 4, 0)
abbrev MX5_showing : av_M := (yX5_showing, cX5_showing, 5, (some .int), 5, 1, 2)
abbrev MX5_wholeAngles : av_M := (yX5_wholeAngles, cX5_wholeAngles, 4, (some .int), 5, 2, 1)
abbrev MX5_whole : av_M := (yX5_whole, cX5_whole, 5, (some .int), 5, 3, 1)
abbrev MX5_colour : av_M := (yX5_colour, cX5_colour, 5, (some .int), 5, 2, 3)
abbrev MX5_addView : av_M := (yX5_addView, cX5_addView, 1, (some .int), 5, 1, 0)
abbrev MX5_removeView : av_M := (yX5_removeView, cX5_removeView, 3, (some .int), 5, 2, 1)
abbrev MX5_swap : av_M := (yX5_swap, cX5_swap, 6, (some .int), 5, 2, 2)
abbrev MX5_settles : av_M := (yX5_settles, cX5_settles, 5, (some .int), 5, 1, 3)
abbrev MX5_setPitch : av_M := (yX5_setPitch, cX5_setPitch, 2, (some .int), 5, 2, 1)
abbrev MX5_setShift : av_M := (yX5_setShift, cX5_setShift, 2, (some .int), 5, 2, 1)
abbrev MX5_setLean : av_M := (yX5_setLean, cX5_setLean, 2, (some .int), 5, 2, 1)
abbrev MX5_slice : av_M := (yX5_slice, cX5_slice, 4, (some .int), 5, 2, 2)
abbrev MX5_laysOrder : av_M := (yX5_laysOrder, cX5_laysOrder, 5, (some .boolean), 5, 0, 1)
abbrev MX5_findsOrder : av_M := (yX5_findsOrder, cX5_findsOrder, 6, none, 5, 4, 0)
abbrev MX5_order : av_M := (yX5_order, cX5_order, 3, (some .int), 5, 5, 0)
abbrev MX5_press : av_M := (yX5_press, cX5_press, 3, (some .int), 5, 4, 1)
abbrev MX5_type : av_M := (yX5_type, cX5_type, 2, (some .int), 5, 0, 1)
abbrev MX5_clearText : av_M := (yX5_clearText, cX5_clearText, 2, (some .int), 5, 0, 0)
abbrev MX5_isHere : av_M := (yX5_isHere, cX5_isHere, 3, (some .boolean), 5, 1, 2)
abbrev MX5_takes : av_M := (yX5_takes, cX5_takes, 3, (some .boolean), 5, 2, 1)
abbrev MX5_readsDigits : av_M := (yX5_readsDigits, cX5_readsDigits, 4, (some .int), 5, 2, 2)
abbrev MX5_fault : av_M := (yX5_fault, cX5_fault, 2, (some .int), 5, 3, 0)
abbrev MX5_read : av_M := (yX5_read, cX5_read, 4, (some .int), 5, 4, 0)
abbrev MX5_undo : av_M := (yX5_undo, cX5_undo, 2, (some .int), 5, 0, 0)
abbrev MX5_keep : av_M := (yX5_keep, cX5_keep, 2, (some .int), 5, 0, 0)
abbrev MX5_restore : av_M := (yX5_restore, cX5_restore, 2, (some .int), 5, 1, 0)
abbrev MX5_colourOf : av_M := (yX5_colourOf, cX5_colourOf, 3, (some .int), 5, 2, 2)
abbrev MX5_viewOf : av_M := (yX5_viewOf, cX5_viewOf, 2, (some .int), 5, 2, 1)
abbrev MX5_dueOf : av_M := (yX5_dueOf, cX5_dueOf, 5, (some .int), 5, 1, 2)
abbrev MX5_behind : av_M := (yX5_behind, cX5_behind, 4, (some .int), 5, 2, 3)
abbrev MX5_seen : av_M := (yX5_seen, cX5_seen, 5, (some .int), 5, 3, 3)
abbrev MX5_wholeAt : av_M := (yX5_wholeAt, cX5_wholeAt, 4, (some .int), 5, 2, 1)
abbrev MX5_mostAt : av_M := (yX5_mostAt, cX5_mostAt, 6, (some .int), 5, 2, 1)
abbrev MX5_at : av_M := (yX5_at, cX5_at, 4, (some .int), 5, 3, 2)
abbrev MX5_clearest : av_M := (yX5_clearest, cX5_clearest, 5, (some .int), 5, 3, 1)
abbrev MX5_slicesOf : av_M := (yX5_slicesOf, cX5_slicesOf, 4, (some .int), 5, 0, 1)
abbrev MX5_view : av_M := (yX5_view, cX5_view, 3, (some .int), 5, 4, 2)
abbrev MX5_bestOrder : av_M := (yX5_bestOrder, cX5_bestOrder, 2, (some .int), 5, 5, 1)
abbrev MX5_bestShift : av_M := (yX5_bestShift, cX5_bestShift, 7, (some .int), 5, 5, 0)
abbrev MX5_ifSlice : av_M := (yX5_ifSlice, cX5_ifSlice, 5, (some .int), 5, 5, 2)
abbrev MX5_count : av_M := (yX5_count, cX5_count, 2, (some .int), 5, 5, 1)
abbrev ML_law : av_M := (yL_law, cL_law, 4, (some .boolean), 99, 7, 1)
def av_MT : List av_M := [MX0_init, MX0_copyFrom, MX0_hasView, MX0_hasSlice, MX0_colourIn, MX0_paint, MX0_appendView, MX0_dropView, MX0_exchangeViews, MX0_resetSlices, MX0_viewDue, MX0_putSlice, MX0_putSlices, MX0_hasSlices, MX0_slicesShowing, MX0_showsEachView, MX0_startSlices, MX0_nextSlices, MX0_highestViewBefore, MX0_spotBehind, MX0_sliceBehind, MX0_ridgeBehind, MX0_viewBehind, MX0_colourBehind, MX0_stepAt, MX0_placeSeen, MX1_init, MX1_isFull, MX1_append, MX1_empty, MX1_charAt, MX1_digitAt, MX1_findFault, MX1_isAllowed, MX1_isEnded, MX1_viewsUpTo, MX1_writeTo, MX2_init, MX2_record, MX2_dropOldest, MX2_takeLatest, MX2_stateAt, MX3_init, MX3_aim, MX3_viewSeen, MX3_isGhost, MX3_ghosts, MX3_ghostsAtAllAngles, MX3_ridgesShowing, MX3_wholeView, MX3_mostShownView, MX3_mostShownRidges, MX3_anglesShowingWhole, MX3_anglesShowingAnyWhole, MX3_wholeViews, MX3_clearestAngle, MX4_init, MX4_colour, MX4_addView, MX4_removeView, MX4_swap, MX4_setPitch, MX4_slice, MX4_setShift, MX4_setLean, MX4_order, MX4_read, MX4_press, MX4_type, MX4_clearText, MX4_undo, MX4_keep, MX4_restore, MX4_colourOf, MX4_viewOf, MX4_behind, MX4_seen, MX4_at, MX4_view, MX4_bestOrder, MX4_bestShift, MX4_ifSlice, MX4_count, MX4_isWithin, MX4_isRidge, MX4_isAngle, MX4_noneForNothing, MX4_copyNumbers, MX4_look, MX4_ghostsWithShift, MX4_findBestSlices, MX5_init, MX5_in, MX5_remember, MX5_acted, MX5_isView, MX5_isRidge, MX5_isSlice, MX5_isAngle, MX5_colourAt, MX5_ordersAsFirst, MX5_dueAt, MX5_placeSeen, MX5_laysSlots, MX5_viewSeen, MX5_isGhost, MX5_ghostsAt, MX5_ghosts, MX5_ghostsNow, MX5_showing, MX5_wholeAngles, MX5_whole, MX5_colour, MX5_addView, MX5_removeView, MX5_swap, MX5_settles, MX5_setPitch, MX5_setShift, MX5_setLean, MX5_slice, MX5_laysOrder, MX5_findsOrder, MX5_order, MX5_press, MX5_type, MX5_clearText, MX5_isHere, MX5_takes, MX5_readsDigits, MX5_fault, MX5_read, MX5_undo, MX5_keep, MX5_restore, MX5_colourOf, MX5_viewOf, MX5_dueOf, MX5_behind, MX5_seen, MX5_wholeAt, MX5_mostAt, MX5_at, MX5_clearest, MX5_slicesOf, MX5_view, MX5_bestOrder, MX5_bestShift, MX5_ifSlice, MX5_count]
set_option maxRecDepth 100000 in
theorem kX0 : Cond.code MX0_init.1 MX0_init.2.1 MX0_init.2.2.1 MX0_init.2.2.2.1 ∈ lw_tbl := List.mem_of_getElem? (i := 58) rfl
set_option maxRecDepth 100000 in
theorem kX1 : Cond.code MX0_copyFrom.1 MX0_copyFrom.2.1 MX0_copyFrom.2.2.1 MX0_copyFrom.2.2.2.1 ∈ lw_tbl := List.mem_of_getElem? (i := 216) rfl
set_option maxRecDepth 100000 in
theorem kX2 : Cond.code MX0_hasView.1 MX0_hasView.2.1 MX0_hasView.2.2.1 MX0_hasView.2.2.2.1 ∈ lw_tbl := List.mem_of_getElem? (i := 188) rfl
set_option maxRecDepth 100000 in
theorem kX3 : Cond.code MX0_hasSlice.1 MX0_hasSlice.2.1 MX0_hasSlice.2.2.1 MX0_hasSlice.2.2.2.1 ∈ lw_tbl := List.mem_of_getElem? (i := 262) rfl
set_option maxRecDepth 100000 in
theorem kX4 : Cond.code MX0_colourIn.1 MX0_colourIn.2.1 MX0_colourIn.2.2.1 MX0_colourIn.2.2.2.1 ∈ lw_tbl := List.mem_of_getElem? (i := 199) rfl
set_option maxRecDepth 100000 in
theorem kX5 : Cond.code MX0_paint.1 MX0_paint.2.1 MX0_paint.2.2.1 MX0_paint.2.2.2.1 ∈ lw_tbl := List.mem_of_getElem? (i := 223) rfl
set_option maxRecDepth 100000 in
theorem kX6 : Cond.code MX0_appendView.1 MX0_appendView.2.1 MX0_appendView.2.2.1 MX0_appendView.2.2.2.1 ∈ lw_tbl := List.mem_of_getElem? (i := 231) rfl
set_option maxRecDepth 100000 in
theorem kX7 : Cond.code MX0_dropView.1 MX0_dropView.2.1 MX0_dropView.2.2.1 MX0_dropView.2.2.2.1 ∈ lw_tbl := List.mem_of_getElem? (i := 240) rfl
set_option maxRecDepth 100000 in
theorem kX8 : Cond.code MX0_exchangeViews.1 MX0_exchangeViews.2.1 MX0_exchangeViews.2.2.1 MX0_exchangeViews.2.2.2.1 ∈ lw_tbl := List.mem_of_getElem? (i := 249) rfl
set_option maxRecDepth 100000 in
theorem kX9 : Cond.code MX0_resetSlices.1 MX0_resetSlices.2.1 MX0_resetSlices.2.2.1 MX0_resetSlices.2.2.2.1 ∈ lw_tbl := List.mem_of_getElem? (i := 63) rfl
set_option maxRecDepth 100000 in
theorem kX10 : Cond.code MX0_viewDue.1 MX0_viewDue.2.1 MX0_viewDue.2.2.1 MX0_viewDue.2.2.2.1 ∈ lw_tbl := List.mem_of_getElem? (i := 266) rfl
set_option maxRecDepth 100000 in
theorem kX11 : Cond.code MX0_putSlice.1 MX0_putSlice.2.1 MX0_putSlice.2.2.1 MX0_putSlice.2.2.2.1 ∈ lw_tbl := List.mem_of_getElem? (i := 270) rfl
set_option maxRecDepth 100000 in
theorem kX12 : Cond.code MX0_putSlices.1 MX0_putSlices.2.1 MX0_putSlices.2.2.1 MX0_putSlices.2.2.2.1 ∈ lw_tbl := List.mem_of_getElem? (i := 362) rfl
set_option maxRecDepth 100000 in
theorem kX13 : Cond.code MX0_hasSlices.1 MX0_hasSlices.2.1 MX0_hasSlices.2.2.1 MX0_hasSlices.2.2.2.1 ∈ lw_tbl := List.mem_of_getElem? (i := 358) rfl
set_option maxRecDepth 100000 in
theorem kX14 : Cond.code MX0_slicesShowing.1 MX0_slicesShowing.2.1 MX0_slicesShowing.2.2.1 MX0_slicesShowing.2.2.2.1 ∈ lw_tbl := List.mem_of_getElem? (i := 326) rfl
set_option maxRecDepth 100000 in
theorem kX15 : Cond.code MX0_showsEachView.1 MX0_showsEachView.2.1 MX0_showsEachView.2.2.1 MX0_showsEachView.2.2.2.1 ∈ lw_tbl := List.mem_of_getElem? (i := 322) rfl
set_option maxRecDepth 100000 in
theorem kX16 : Cond.code MX0_startSlices.1 MX0_startSlices.2.1 MX0_startSlices.2.2.1 MX0_startSlices.2.2.2.1 ∈ lw_tbl := List.mem_of_getElem? (i := 291) rfl
set_option maxRecDepth 100000 in
theorem kX17 : Cond.code MX0_nextSlices.1 MX0_nextSlices.2.1 MX0_nextSlices.2.2.1 MX0_nextSlices.2.2.2.1 ∈ lw_tbl := List.mem_of_getElem? (i := 349) rfl
set_option maxRecDepth 100000 in
theorem kX18 : Cond.code MX0_highestViewBefore.1 MX0_highestViewBefore.2.1 MX0_highestViewBefore.2.2.1 MX0_highestViewBefore.2.2.2.1 ∈ lw_tbl := List.mem_of_getElem? (i := 353) rfl
set_option maxRecDepth 100000 in
theorem kX19 : Cond.code MX0_spotBehind.1 MX0_spotBehind.2.1 MX0_spotBehind.2.2.1 MX0_spotBehind.2.2.2.1 ∈ lw_tbl := List.mem_of_getElem? (i := 313) rfl
set_option maxRecDepth 100000 in
theorem kX20 : Cond.code MX0_sliceBehind.1 MX0_sliceBehind.2.1 MX0_sliceBehind.2.2.1 MX0_sliceBehind.2.2.2.1 ∈ lw_tbl := List.mem_of_getElem? (i := 309) rfl
set_option maxRecDepth 100000 in
theorem kX21 : Cond.code MX0_ridgeBehind.1 MX0_ridgeBehind.2.1 MX0_ridgeBehind.2.2.1 MX0_ridgeBehind.2.2.2.1 ∈ lw_tbl := List.mem_of_getElem? (i := 487) rfl
set_option maxRecDepth 100000 in
theorem kX22 : Cond.code MX0_viewBehind.1 MX0_viewBehind.2.1 MX0_viewBehind.2.2.1 MX0_viewBehind.2.2.2.1 ∈ lw_tbl := List.mem_of_getElem? (i := 474) rfl
set_option maxRecDepth 100000 in
theorem kX23 : Cond.code MX0_colourBehind.1 MX0_colourBehind.2.1 MX0_colourBehind.2.2.1 MX0_colourBehind.2.2.2.1 ∈ lw_tbl := List.mem_of_getElem? (i := 482) rfl
set_option maxRecDepth 100000 in
theorem kX24 : Cond.code MX0_stepAt.1 MX0_stepAt.2.1 MX0_stepAt.2.2.1 MX0_stepAt.2.2.2.1 ∈ lw_tbl := List.mem_of_getElem? (i := 317) rfl
set_option maxRecDepth 100000 in
theorem kX25 : Cond.code MX0_placeSeen.1 MX0_placeSeen.2.1 MX0_placeSeen.2.2.1 MX0_placeSeen.2.2.2.1 ∈ lw_tbl := List.mem_of_getElem? (i := 299) rfl
set_option maxRecDepth 100000 in
theorem kX26 : Cond.code MX1_init.1 MX1_init.2.1 MX1_init.2.2.1 MX1_init.2.2.2.1 ∈ lw_tbl := List.mem_of_getElem? (i := 139) rfl
set_option maxRecDepth 100000 in
theorem kX27 : Cond.code MX1_isFull.1 MX1_isFull.2.1 MX1_isFull.2.2.1 MX1_isFull.2.2.2.1 ∈ lw_tbl := List.mem_of_getElem? (i := 430) rfl
set_option maxRecDepth 100000 in
theorem kX28 : Cond.code MX1_append.1 MX1_append.2.1 MX1_append.2.2.1 MX1_append.2.2.2.1 ∈ lw_tbl := List.mem_of_getElem? (i := 434) rfl
set_option maxRecDepth 100000 in
theorem kX29 : Cond.code MX1_empty.1 MX1_empty.2.1 MX1_empty.2.2.1 MX1_empty.2.2.2.1 ∈ lw_tbl := List.mem_of_getElem? (i := 442) rfl
set_option maxRecDepth 100000 in
theorem kX30 : Cond.code MX1_charAt.1 MX1_charAt.2.1 MX1_charAt.2.2.1 MX1_charAt.2.2.2.1 ∈ lw_tbl := List.mem_of_getElem? (i := 386) rfl
set_option maxRecDepth 100000 in
theorem kX31 : Cond.code MX1_digitAt.1 MX1_digitAt.2.1 MX1_digitAt.2.2.1 MX1_digitAt.2.2.2.1 ∈ lw_tbl := List.mem_of_getElem? (i := 382) rfl
set_option maxRecDepth 100000 in
theorem kX32 : Cond.code MX1_findFault.1 MX1_findFault.2.1 MX1_findFault.2.2.1 MX1_findFault.2.2.2.1 ∈ lw_tbl := List.mem_of_getElem? (i := 374) rfl
set_option maxRecDepth 100000 in
theorem kX33 : Cond.code MX1_isAllowed.1 MX1_isAllowed.2.1 MX1_isAllowed.2.2.1 MX1_isAllowed.2.2.2.1 ∈ lw_tbl := List.mem_of_getElem? (i := 378) rfl
set_option maxRecDepth 100000 in
theorem kX34 : Cond.code MX1_isEnded.1 MX1_isEnded.2.1 MX1_isEnded.2.2.1 MX1_isEnded.2.2.2.1 ∈ lw_tbl := List.mem_of_getElem? (i := 394) rfl
set_option maxRecDepth 100000 in
theorem kX35 : Cond.code MX1_viewsUpTo.1 MX1_viewsUpTo.2.1 MX1_viewsUpTo.2.2.1 MX1_viewsUpTo.2.2.2.1 ∈ lw_tbl := List.mem_of_getElem? (i := 389) rfl
set_option maxRecDepth 100000 in
theorem kX36 : Cond.code MX1_writeTo.1 MX1_writeTo.2.1 MX1_writeTo.2.2.1 MX1_writeTo.2.2.2.1 ∈ lw_tbl := List.mem_of_getElem? (i := 398) rfl
set_option maxRecDepth 100000 in
theorem kX37 : Cond.code MX2_init.1 MX2_init.2.1 MX2_init.2.2.1 MX2_init.2.2.2.1 ∈ lw_tbl := List.mem_of_getElem? (i := 120) rfl
set_option maxRecDepth 100000 in
theorem kX38 : Cond.code MX2_record.1 MX2_record.2.1 MX2_record.2.2.1 MX2_record.2.2.2.1 ∈ lw_tbl := List.mem_of_getElem? (i := 204) rfl
set_option maxRecDepth 100000 in
theorem kX39 : Cond.code MX2_dropOldest.1 MX2_dropOldest.2.1 MX2_dropOldest.2.2.1 MX2_dropOldest.2.2.2.1 ∈ lw_tbl := List.mem_of_getElem? (i := 208) rfl
set_option maxRecDepth 100000 in
theorem kX40 : Cond.code MX2_takeLatest.1 MX2_takeLatest.2.1 MX2_takeLatest.2.2.1 MX2_takeLatest.2.2.2.1 ∈ lw_tbl := List.mem_of_getElem? (i := 450) rfl
set_option maxRecDepth 100000 in
theorem kX41 : Cond.code MX2_stateAt.1 MX2_stateAt.2.1 MX2_stateAt.2.2.1 MX2_stateAt.2.2.2.1 ∈ lw_tbl := List.mem_of_getElem? (i := 212) rfl
set_option maxRecDepth 100000 in
theorem kX42 : Cond.code MX3_init.1 MX3_init.2.1 MX3_init.2.2.1 MX3_init.2.2.2.1 ∈ lw_tbl := List.mem_of_getElem? (i := 52) rfl
set_option maxRecDepth 100000 in
theorem kX43 : Cond.code MX3_aim.1 MX3_aim.2.1 MX3_aim.2.2.1 MX3_aim.2.2.2.1 ∈ lw_tbl := List.mem_of_getElem? (i := 295) rfl
set_option maxRecDepth 100000 in
theorem kX44 : Cond.code MX3_viewSeen.1 MX3_viewSeen.2.1 MX3_viewSeen.2.2.1 MX3_viewSeen.2.2.2.1 ∈ lw_tbl := List.mem_of_getElem? (i := 343) rfl
set_option maxRecDepth 100000 in
theorem kX45 : Cond.code MX3_isGhost.1 MX3_isGhost.2.1 MX3_isGhost.2.2.1 MX3_isGhost.2.2.2.1 ∈ lw_tbl := List.mem_of_getElem? (i := 339) rfl
set_option maxRecDepth 100000 in
theorem kX46 : Cond.code MX3_ghosts.1 MX3_ghosts.2.1 MX3_ghosts.2.2.1 MX3_ghosts.2.2.2.1 ∈ lw_tbl := List.mem_of_getElem? (i := 335) rfl
set_option maxRecDepth 100000 in
theorem kX47 : Cond.code MX3_ghostsAtAllAngles.1 MX3_ghostsAtAllAngles.2.1 MX3_ghostsAtAllAngles.2.2.1 MX3_ghostsAtAllAngles.2.2.2.1 ∈ lw_tbl := List.mem_of_getElem? (i := 331) rfl
set_option maxRecDepth 100000 in
theorem kX48 : Cond.code MX3_ridgesShowing.1 MX3_ridgesShowing.2.1 MX3_ridgesShowing.2.2.1 MX3_ridgesShowing.2.2.2.1 ∈ lw_tbl := List.mem_of_getElem? (i := 422) rfl
set_option maxRecDepth 100000 in
theorem kX49 : Cond.code MX3_wholeView.1 MX3_wholeView.2.1 MX3_wholeView.2.2.1 MX3_wholeView.2.2.2.1 ∈ lw_tbl := List.mem_of_getElem? (i := 418) rfl
set_option maxRecDepth 100000 in
theorem kX50 : Cond.code MX3_mostShownView.1 MX3_mostShownView.2.1 MX3_mostShownView.2.2.1 MX3_mostShownView.2.2.2.1 ∈ lw_tbl := List.mem_of_getElem? (i := 508) rfl
set_option maxRecDepth 100000 in
theorem kX51 : Cond.code MX3_mostShownRidges.1 MX3_mostShownRidges.2.1 MX3_mostShownRidges.2.2.1 MX3_mostShownRidges.2.2.2.1 ∈ lw_tbl := List.mem_of_getElem? (i := 512) rfl
set_option maxRecDepth 100000 in
theorem kX52 : Cond.code MX3_anglesShowingWhole.1 MX3_anglesShowingWhole.2.1 MX3_anglesShowingWhole.2.2.1 MX3_anglesShowingWhole.2.2.2.1 ∈ lw_tbl := List.mem_of_getElem? (i := 414) rfl
set_option maxRecDepth 100000 in
theorem kX53 : Cond.code MX3_anglesShowingAnyWhole.1 MX3_anglesShowingAnyWhole.2.1 MX3_anglesShowingAnyWhole.2.2.1 MX3_anglesShowingAnyWhole.2.2.2.1 ∈ lw_tbl := List.mem_of_getElem? (i := 548) rfl
set_option maxRecDepth 100000 in
theorem kX54 : Cond.code MX3_wholeViews.1 MX3_wholeViews.2.1 MX3_wholeViews.2.2.1 MX3_wholeViews.2.2.2.1 ∈ lw_tbl := List.mem_of_getElem? (i := 410) rfl
set_option maxRecDepth 100000 in
theorem kX55 : Cond.code MX3_clearestAngle.1 MX3_clearestAngle.2.1 MX3_clearestAngle.2.2.1 MX3_clearestAngle.2.2.2.1 ∈ lw_tbl := List.mem_of_getElem? (i := 524) rfl
set_option maxRecDepth 100000 in
theorem kX56 : Cond.code MX4_init.1 MX4_init.2.1 MX4_init.2.2.1 MX4_init.2.2.2.1 ∈ lw_tbl := List.mem_of_getElem? (i := 44) rfl
set_option maxRecDepth 100000 in
theorem kX57 : Cond.code MX4_colour.1 MX4_colour.2.1 MX4_colour.2.2.1 MX4_colour.2.2.2.1 ∈ lw_tbl := List.mem_of_getElem? (i := 184) rfl
set_option maxRecDepth 100000 in
theorem kX58 : Cond.code MX4_addView.1 MX4_addView.2.1 MX4_addView.2.2.1 MX4_addView.2.2.2.1 ∈ lw_tbl := List.mem_of_getElem? (i := 227) rfl
set_option maxRecDepth 100000 in
theorem kX59 : Cond.code MX4_removeView.1 MX4_removeView.2.1 MX4_removeView.2.2.1 MX4_removeView.2.2.2.1 ∈ lw_tbl := List.mem_of_getElem? (i := 236) rfl
set_option maxRecDepth 100000 in
theorem kX60 : Cond.code MX4_swap.1 MX4_swap.2.1 MX4_swap.2.2.1 MX4_swap.2.2.2.1 ∈ lw_tbl := List.mem_of_getElem? (i := 245) rfl
set_option maxRecDepth 100000 in
theorem kX61 : Cond.code MX4_setPitch.1 MX4_setPitch.2.1 MX4_setPitch.2.2.1 MX4_setPitch.2.2.2.1 ∈ lw_tbl := List.mem_of_getElem? (i := 253) rfl
set_option maxRecDepth 100000 in
theorem kX62 : Cond.code MX4_slice.1 MX4_slice.2.1 MX4_slice.2.2.1 MX4_slice.2.2.2.1 ∈ lw_tbl := List.mem_of_getElem? (i := 258) rfl
set_option maxRecDepth 100000 in
theorem kX63 : Cond.code MX4_setShift.1 MX4_setShift.2.1 MX4_setShift.2.2.1 MX4_setShift.2.2.2.1 ∈ lw_tbl := List.mem_of_getElem? (i := 274) rfl
set_option maxRecDepth 100000 in
theorem kX64 : Cond.code MX4_setLean.1 MX4_setLean.2.1 MX4_setLean.2.2.1 MX4_setLean.2.2.2.1 ∈ lw_tbl := List.mem_of_getElem? (i := 278) rfl
set_option maxRecDepth 100000 in
theorem kX65 : Cond.code MX4_order.1 MX4_order.2.1 MX4_order.2.2.1 MX4_order.2.2.2.1 ∈ lw_tbl := List.mem_of_getElem? (i := 282) rfl
set_option maxRecDepth 100000 in
theorem kX66 : Cond.code MX4_read.1 MX4_read.2.1 MX4_read.2.2.1 MX4_read.2.2.2.1 ∈ lw_tbl := List.mem_of_getElem? (i := 370) rfl
set_option maxRecDepth 100000 in
theorem kX67 : Cond.code MX4_press.1 MX4_press.2.1 MX4_press.2.2.1 MX4_press.2.2.2.1 ∈ lw_tbl := List.mem_of_getElem? (i := 405) rfl
set_option maxRecDepth 100000 in
theorem kX68 : Cond.code MX4_type.1 MX4_type.2.1 MX4_type.2.2.1 MX4_type.2.2.2.1 ∈ lw_tbl := List.mem_of_getElem? (i := 426) rfl
set_option maxRecDepth 100000 in
theorem kX69 : Cond.code MX4_clearText.1 MX4_clearText.2.1 MX4_clearText.2.2.1 MX4_clearText.2.2.2.1 ∈ lw_tbl := List.mem_of_getElem? (i := 438) rfl
set_option maxRecDepth 100000 in
theorem kX70 : Cond.code MX4_undo.1 MX4_undo.2.1 MX4_undo.2.2.1 MX4_undo.2.2.2.1 ∈ lw_tbl := List.mem_of_getElem? (i := 446) rfl
set_option maxRecDepth 100000 in
theorem kX71 : Cond.code MX4_keep.1 MX4_keep.2.1 MX4_keep.2.2.1 MX4_keep.2.2.2.1 ∈ lw_tbl := List.mem_of_getElem? (i := 454) rfl
set_option maxRecDepth 100000 in
theorem kX72 : Cond.code MX4_restore.1 MX4_restore.2.1 MX4_restore.2.2.1 MX4_restore.2.2.2.1 ∈ lw_tbl := List.mem_of_getElem? (i := 458) rfl
set_option maxRecDepth 100000 in
theorem kX73 : Cond.code MX4_colourOf.1 MX4_colourOf.2.1 MX4_colourOf.2.2.1 MX4_colourOf.2.2.2.1 ∈ lw_tbl := List.mem_of_getElem? (i := 462) rfl
set_option maxRecDepth 100000 in
theorem kX74 : Cond.code MX4_viewOf.1 MX4_viewOf.2.1 MX4_viewOf.2.2.1 MX4_viewOf.2.2.2.1 ∈ lw_tbl := List.mem_of_getElem? (i := 466) rfl
set_option maxRecDepth 100000 in
theorem kX75 : Cond.code MX4_behind.1 MX4_behind.2.1 MX4_behind.2.2.1 MX4_behind.2.2.2.1 ∈ lw_tbl := List.mem_of_getElem? (i := 470) rfl
set_option maxRecDepth 100000 in
theorem kX76 : Cond.code MX4_seen.1 MX4_seen.2.1 MX4_seen.2.2.1 MX4_seen.2.2.2.1 ∈ lw_tbl := List.mem_of_getElem? (i := 492) rfl
set_option maxRecDepth 100000 in
theorem kX77 : Cond.code MX4_at.1 MX4_at.2.1 MX4_at.2.2.1 MX4_at.2.2.2.1 ∈ lw_tbl := List.mem_of_getElem? (i := 502) rfl
set_option maxRecDepth 100000 in
theorem kX78 : Cond.code MX4_view.1 MX4_view.2.1 MX4_view.2.2.1 MX4_view.2.2.2.1 ∈ lw_tbl := List.mem_of_getElem? (i := 518) rfl
set_option maxRecDepth 100000 in
theorem kX79 : Cond.code MX4_bestOrder.1 MX4_bestOrder.2.1 MX4_bestOrder.2.2.1 MX4_bestOrder.2.2.2.1 ∈ lw_tbl := List.mem_of_getElem? (i := 528) rfl
set_option maxRecDepth 100000 in
theorem kX80 : Cond.code MX4_bestShift.1 MX4_bestShift.2.1 MX4_bestShift.2.2.1 MX4_bestShift.2.2.2.1 ∈ lw_tbl := List.mem_of_getElem? (i := 532) rfl
set_option maxRecDepth 100000 in
theorem kX81 : Cond.code MX4_ifSlice.1 MX4_ifSlice.2.1 MX4_ifSlice.2.2.1 MX4_ifSlice.2.2.2.1 ∈ lw_tbl := List.mem_of_getElem? (i := 540) rfl
set_option maxRecDepth 100000 in
theorem kX82 : Cond.code MX4_count.1 MX4_count.2.1 MX4_count.2.2.1 MX4_count.2.2.2.1 ∈ lw_tbl := List.mem_of_getElem? (i := 544) rfl
set_option maxRecDepth 100000 in
theorem kX83 : Cond.code MX4_isWithin.1 MX4_isWithin.2.1 MX4_isWithin.2.2.1 MX4_isWithin.2.2.2.1 ∈ lw_tbl := List.mem_of_getElem? (i := 191) rfl
set_option maxRecDepth 100000 in
theorem kX84 : Cond.code MX4_isRidge.1 MX4_isRidge.2.1 MX4_isRidge.2.2.1 MX4_isRidge.2.2.2.1 ∈ lw_tbl := List.mem_of_getElem? (i := 194) rfl
set_option maxRecDepth 100000 in
theorem kX85 : Cond.code MX4_isAngle.1 MX4_isAngle.2.1 MX4_isAngle.2.2.1 MX4_isAngle.2.2.2.1 ∈ lw_tbl := List.mem_of_getElem? (i := 495) rfl
set_option maxRecDepth 100000 in
theorem kX86 : Cond.code MX4_noneForNothing.1 MX4_noneForNothing.2.1 MX4_noneForNothing.2.2.1 MX4_noneForNothing.2.2.2.1 ∈ lw_tbl := List.mem_of_getElem? (i := 478) rfl
set_option maxRecDepth 100000 in
theorem kX87 : Cond.code MX4_copyNumbers.1 MX4_copyNumbers.2.1 MX4_copyNumbers.2.2.1 MX4_copyNumbers.2.2.2.1 ∈ lw_tbl := List.mem_of_getElem? (i := 219) rfl
set_option maxRecDepth 100000 in
theorem kX88 : Cond.code MX4_look.1 MX4_look.2.1 MX4_look.2.2.1 MX4_look.2.2.2.1 ∈ lw_tbl := List.mem_of_getElem? (i := 366) rfl
set_option maxRecDepth 100000 in
theorem kX89 : Cond.code MX4_ghostsWithShift.1 MX4_ghostsWithShift.2.1 MX4_ghostsWithShift.2.2.1 MX4_ghostsWithShift.2.2.2.1 ∈ lw_tbl := List.mem_of_getElem? (i := 536) rfl
set_option maxRecDepth 100000 in
theorem kX90 : Cond.code MX4_findBestSlices.1 MX4_findBestSlices.2.1 MX4_findBestSlices.2.2.1 MX4_findBestSlices.2.2.2.1 ∈ lw_tbl := List.mem_of_getElem? (i := 286) rfl
set_option maxRecDepth 100000 in
theorem kX91 : Cond.code MX5_init.1 MX5_init.2.1 MX5_init.2.2.1 MX5_init.2.2.2.1 ∈ lw_tbl := List.mem_of_getElem? (i := 553) rfl
set_option maxRecDepth 100000 in
theorem kX92 : Cond.code MX5_in.1 MX5_in.2.1 MX5_in.2.2.1 MX5_in.2.2.2.1 ∈ lw_tbl := List.mem_of_getElem? (i := 615) rfl
set_option maxRecDepth 100000 in
theorem kX93 : Cond.code MX5_remember.1 MX5_remember.2.1 MX5_remember.2.2.1 MX5_remember.2.2.2.1 ∈ lw_tbl := List.mem_of_getElem? (i := 628) rfl
set_option maxRecDepth 100000 in
theorem kX94 : Cond.code MX5_acted.1 MX5_acted.2.1 MX5_acted.2.2.1 MX5_acted.2.2.2.1 ∈ lw_tbl := List.mem_of_getElem? (i := 632) rfl
set_option maxRecDepth 100000 in
theorem kX95 : Cond.code MX5_isView.1 MX5_isView.2.1 MX5_isView.2.2.1 MX5_isView.2.2.2.1 ∈ lw_tbl := List.mem_of_getElem? (i := 612) rfl
set_option maxRecDepth 100000 in
theorem kX96 : Cond.code MX5_isRidge.1 MX5_isRidge.2.1 MX5_isRidge.2.2.1 MX5_isRidge.2.2.2.1 ∈ lw_tbl := List.mem_of_getElem? (i := 618) rfl
set_option maxRecDepth 100000 in
theorem kX97 : Cond.code MX5_isSlice.1 MX5_isSlice.2.1 MX5_isSlice.2.2.1 MX5_isSlice.2.2.2.1 ∈ lw_tbl := List.mem_of_getElem? (i := 672) rfl
set_option maxRecDepth 100000 in
theorem kX98 : Cond.code MX5_isAngle.1 MX5_isAngle.2.1 MX5_isAngle.2.2.1 MX5_isAngle.2.2.2.1 ∈ lw_tbl := List.mem_of_getElem? (i := 798) rfl
set_option maxRecDepth 100000 in
theorem kX99 : Cond.code MX5_colourAt.1 MX5_colourAt.2.1 MX5_colourAt.2.2.1 MX5_colourAt.2.2.2.1 ∈ lw_tbl := List.mem_of_getElem? (i := 624) rfl
set_option maxRecDepth 100000 in
theorem kX100 : Cond.code MX5_ordersAsFirst.1 MX5_ordersAsFirst.2.1 MX5_ordersAsFirst.2.2.1 MX5_ordersAsFirst.2.2.2.1 ∈ lw_tbl := List.mem_of_getElem? (i := 558) rfl
set_option maxRecDepth 100000 in
theorem kX101 : Cond.code MX5_dueAt.1 MX5_dueAt.2.1 MX5_dueAt.2.2.1 MX5_dueAt.2.2.2.1 ∈ lw_tbl := List.mem_of_getElem? (i := 692) rfl
set_option maxRecDepth 100000 in
theorem kX102 : Cond.code MX5_placeSeen.1 MX5_placeSeen.2.1 MX5_placeSeen.2.2.1 MX5_placeSeen.2.2.2.1 ∈ lw_tbl := List.mem_of_getElem? (i := 688) rfl
set_option maxRecDepth 100000 in
theorem kX103 : Cond.code MX5_laysSlots.1 MX5_laysSlots.2.1 MX5_laysSlots.2.2.1 MX5_laysSlots.2.2.2.1 ∈ lw_tbl := List.mem_of_getElem? (i := 684) rfl
set_option maxRecDepth 100000 in
theorem kX104 : Cond.code MX5_viewSeen.1 MX5_viewSeen.2.1 MX5_viewSeen.2.2.1 MX5_viewSeen.2.2.2.1 ∈ lw_tbl := List.mem_of_getElem? (i := 713) rfl
set_option maxRecDepth 100000 in
theorem kX105 : Cond.code MX5_isGhost.1 MX5_isGhost.2.1 MX5_isGhost.2.2.1 MX5_isGhost.2.2.2.1 ∈ lw_tbl := List.mem_of_getElem? (i := 709) rfl
set_option maxRecDepth 100000 in
theorem kX106 : Cond.code MX5_ghostsAt.1 MX5_ghostsAt.2.1 MX5_ghostsAt.2.2.1 MX5_ghostsAt.2.2.2.1 ∈ lw_tbl := List.mem_of_getElem? (i := 705) rfl
set_option maxRecDepth 100000 in
theorem kX107 : Cond.code MX5_ghosts.1 MX5_ghosts.2.1 MX5_ghosts.2.2.1 MX5_ghosts.2.2.2.1 ∈ lw_tbl := List.mem_of_getElem? (i := 701) rfl
set_option maxRecDepth 100000 in
theorem kX108 : Cond.code MX5_ghostsNow.1 MX5_ghostsNow.2.1 MX5_ghostsNow.2.2.1 MX5_ghostsNow.2.2.2.1 ∈ lw_tbl := List.mem_of_getElem? (i := 717) rfl
set_option maxRecDepth 100000 in
theorem kX109 : Cond.code MX5_showing.1 MX5_showing.2.1 MX5_showing.2.2.1 MX5_showing.2.2.2.1 ∈ lw_tbl := List.mem_of_getElem? (i := 735) rfl
set_option maxRecDepth 100000 in
theorem kX110 : Cond.code MX5_wholeAngles.1 MX5_wholeAngles.2.1 MX5_wholeAngles.2.2.1 MX5_wholeAngles.2.2.2.1 ∈ lw_tbl := List.mem_of_getElem? (i := 731) rfl
set_option maxRecDepth 100000 in
theorem kX111 : Cond.code MX5_whole.1 MX5_whole.2.1 MX5_whole.2.2.1 MX5_whole.2.2.2.1 ∈ lw_tbl := List.mem_of_getElem? (i := 727) rfl
set_option maxRecDepth 100000 in
theorem kX112 : Cond.code MX5_colour.1 MX5_colour.2.1 MX5_colour.2.2.1 MX5_colour.2.2.2.1 ∈ lw_tbl := List.mem_of_getElem? (i := 608) rfl
set_option maxRecDepth 100000 in
theorem kX113 : Cond.code MX5_addView.1 MX5_addView.2.1 MX5_addView.2.2.1 MX5_addView.2.2.2.1 ∈ lw_tbl := List.mem_of_getElem? (i := 636) rfl
set_option maxRecDepth 100000 in
theorem kX114 : Cond.code MX5_removeView.1 MX5_removeView.2.1 MX5_removeView.2.2.1 MX5_removeView.2.2.2.1 ∈ lw_tbl := List.mem_of_getElem? (i := 640) rfl
set_option maxRecDepth 100000 in
theorem kX115 : Cond.code MX5_swap.1 MX5_swap.2.1 MX5_swap.2.2.1 MX5_swap.2.2.2.1 ∈ lw_tbl := List.mem_of_getElem? (i := 644) rfl
set_option maxRecDepth 100000 in
theorem kX116 : Cond.code MX5_settles.1 MX5_settles.2.1 MX5_settles.2.2.1 MX5_settles.2.2.2.1 ∈ lw_tbl := List.mem_of_getElem? (i := 654) rfl
set_option maxRecDepth 100000 in
theorem kX117 : Cond.code MX5_setPitch.1 MX5_setPitch.2.1 MX5_setPitch.2.2.1 MX5_setPitch.2.2.2.1 ∈ lw_tbl := List.mem_of_getElem? (i := 648) rfl
set_option maxRecDepth 100000 in
theorem kX118 : Cond.code MX5_setShift.1 MX5_setShift.2.1 MX5_setShift.2.2.1 MX5_setShift.2.2.2.1 ∈ lw_tbl := List.mem_of_getElem? (i := 658) rfl
set_option maxRecDepth 100000 in
theorem kX119 : Cond.code MX5_setLean.1 MX5_setLean.2.1 MX5_setLean.2.2.1 MX5_setLean.2.2.2.1 ∈ lw_tbl := List.mem_of_getElem? (i := 664) rfl
set_option maxRecDepth 100000 in
theorem kX120 : Cond.code MX5_slice.1 MX5_slice.2.1 MX5_slice.2.2.1 MX5_slice.2.2.2.1 ∈ lw_tbl := List.mem_of_getElem? (i := 668) rfl
set_option maxRecDepth 100000 in
theorem kX121 : Cond.code MX5_laysOrder.1 MX5_laysOrder.2.1 MX5_laysOrder.2.2.1 MX5_laysOrder.2.2.2.1 ∈ lw_tbl := List.mem_of_getElem? (i := 697) rfl
set_option maxRecDepth 100000 in
theorem kX122 : Cond.code MX5_findsOrder.1 MX5_findsOrder.2.1 MX5_findsOrder.2.2.1 MX5_findsOrder.2.2.2.1 ∈ lw_tbl := List.mem_of_getElem? (i := 680) rfl
set_option maxRecDepth 100000 in
theorem kX123 : Cond.code MX5_order.1 MX5_order.2.1 MX5_order.2.2.1 MX5_order.2.2.2.1 ∈ lw_tbl := List.mem_of_getElem? (i := 676) rfl
set_option maxRecDepth 100000 in
theorem kX124 : Cond.code MX5_press.1 MX5_press.2.1 MX5_press.2.2.1 MX5_press.2.2.2.1 ∈ lw_tbl := List.mem_of_getElem? (i := 721) rfl
set_option maxRecDepth 100000 in
theorem kX125 : Cond.code MX5_type.1 MX5_type.2.1 MX5_type.2.2.1 MX5_type.2.2.2.1 ∈ lw_tbl := List.mem_of_getElem? (i := 739) rfl
set_option maxRecDepth 100000 in
theorem kX126 : Cond.code MX5_clearText.1 MX5_clearText.2.1 MX5_clearText.2.2.1 MX5_clearText.2.2.2.1 ∈ lw_tbl := List.mem_of_getElem? (i := 743) rfl
set_option maxRecDepth 100000 in
theorem kX127 : Cond.code MX5_isHere.1 MX5_isHere.2.1 MX5_isHere.2.2.1 MX5_isHere.2.2.2.1 ∈ lw_tbl := List.mem_of_getElem? (i := 759) rfl
set_option maxRecDepth 100000 in
theorem kX128 : Cond.code MX5_takes.1 MX5_takes.2.1 MX5_takes.2.2.1 MX5_takes.2.2.2.1 ∈ lw_tbl := List.mem_of_getElem? (i := 763) rfl
set_option maxRecDepth 100000 in
theorem kX129 : Cond.code MX5_readsDigits.1 MX5_readsDigits.2.1 MX5_readsDigits.2.2.1 MX5_readsDigits.2.2.2.1 ∈ lw_tbl := List.mem_of_getElem? (i := 755) rfl
set_option maxRecDepth 100000 in
theorem kX130 : Cond.code MX5_fault.1 MX5_fault.2.1 MX5_fault.2.2.1 MX5_fault.2.2.2.1 ∈ lw_tbl := List.mem_of_getElem? (i := 751) rfl
set_option maxRecDepth 100000 in
theorem kX131 : Cond.code MX5_read.1 MX5_read.2.1 MX5_read.2.2.1 MX5_read.2.2.2.1 ∈ lw_tbl := List.mem_of_getElem? (i := 747) rfl
set_option maxRecDepth 100000 in
theorem kX132 : Cond.code MX5_undo.1 MX5_undo.2.1 MX5_undo.2.2.1 MX5_undo.2.2.2.1 ∈ lw_tbl := List.mem_of_getElem? (i := 767) rfl
set_option maxRecDepth 100000 in
theorem kX133 : Cond.code MX5_keep.1 MX5_keep.2.1 MX5_keep.2.2.1 MX5_keep.2.2.2.1 ∈ lw_tbl := List.mem_of_getElem? (i := 771) rfl
set_option maxRecDepth 100000 in
theorem kX134 : Cond.code MX5_restore.1 MX5_restore.2.1 MX5_restore.2.2.1 MX5_restore.2.2.2.1 ∈ lw_tbl := List.mem_of_getElem? (i := 775) rfl
set_option maxRecDepth 100000 in
theorem kX135 : Cond.code MX5_colourOf.1 MX5_colourOf.2.1 MX5_colourOf.2.2.1 MX5_colourOf.2.2.2.1 ∈ lw_tbl := List.mem_of_getElem? (i := 779) rfl
set_option maxRecDepth 100000 in
theorem kX136 : Cond.code MX5_viewOf.1 MX5_viewOf.2.1 MX5_viewOf.2.2.1 MX5_viewOf.2.2.2.1 ∈ lw_tbl := List.mem_of_getElem? (i := 783) rfl
set_option maxRecDepth 100000 in
theorem kX137 : Cond.code MX5_dueOf.1 MX5_dueOf.2.1 MX5_dueOf.2.2.1 MX5_dueOf.2.2.2.1 ∈ lw_tbl := List.mem_of_getElem? (i := 791) rfl
set_option maxRecDepth 100000 in
theorem kX138 : Cond.code MX5_behind.1 MX5_behind.2.1 MX5_behind.2.2.1 MX5_behind.2.2.2.1 ∈ lw_tbl := List.mem_of_getElem? (i := 787) rfl
set_option maxRecDepth 100000 in
theorem kX139 : Cond.code MX5_seen.1 MX5_seen.2.1 MX5_seen.2.2.1 MX5_seen.2.2.2.1 ∈ lw_tbl := List.mem_of_getElem? (i := 795) rfl
set_option maxRecDepth 100000 in
theorem kX140 : Cond.code MX5_wholeAt.1 MX5_wholeAt.2.1 MX5_wholeAt.2.2.1 MX5_wholeAt.2.2.2.1 ∈ lw_tbl := List.mem_of_getElem? (i := 807) rfl
set_option maxRecDepth 100000 in
theorem kX141 : Cond.code MX5_mostAt.1 MX5_mostAt.2.1 MX5_mostAt.2.2.1 MX5_mostAt.2.2.2.1 ∈ lw_tbl := List.mem_of_getElem? (i := 811) rfl
set_option maxRecDepth 100000 in
theorem kX142 : Cond.code MX5_at.1 MX5_at.2.1 MX5_at.2.2.1 MX5_at.2.2.2.1 ∈ lw_tbl := List.mem_of_getElem? (i := 803) rfl
set_option maxRecDepth 100000 in
theorem kX143 : Cond.code MX5_clearest.1 MX5_clearest.2.1 MX5_clearest.2.2.1 MX5_clearest.2.2.2.1 ∈ lw_tbl := List.mem_of_getElem? (i := 823) rfl
set_option maxRecDepth 100000 in
theorem kX144 : Cond.code MX5_slicesOf.1 MX5_slicesOf.2.1 MX5_slicesOf.2.2.1 MX5_slicesOf.2.2.2.1 ∈ lw_tbl := List.mem_of_getElem? (i := 819) rfl
set_option maxRecDepth 100000 in
theorem kX145 : Cond.code MX5_view.1 MX5_view.2.1 MX5_view.2.2.1 MX5_view.2.2.2.1 ∈ lw_tbl := List.mem_of_getElem? (i := 815) rfl
set_option maxRecDepth 100000 in
theorem kX146 : Cond.code MX5_bestOrder.1 MX5_bestOrder.2.1 MX5_bestOrder.2.2.1 MX5_bestOrder.2.2.2.1 ∈ lw_tbl := List.mem_of_getElem? (i := 827) rfl
set_option maxRecDepth 100000 in
theorem kX147 : Cond.code MX5_bestShift.1 MX5_bestShift.2.1 MX5_bestShift.2.2.1 MX5_bestShift.2.2.2.1 ∈ lw_tbl := List.mem_of_getElem? (i := 831) rfl
set_option maxRecDepth 100000 in
theorem kX148 : Cond.code MX5_ifSlice.1 MX5_ifSlice.2.1 MX5_ifSlice.2.2.1 MX5_ifSlice.2.2.2.1 ∈ lw_tbl := List.mem_of_getElem? (i := 835) rfl
set_option maxRecDepth 100000 in
theorem kX149 : Cond.code MX5_count.1 MX5_count.2.1 MX5_count.2.2.1 MX5_count.2.2.2.1 ∈ lw_tbl := List.mem_of_getElem? (i := 839) rfl
def av_MT0 : List av_M := [MX0_init, MX0_copyFrom, MX0_hasView, MX0_hasSlice, MX0_colourIn, MX0_paint, MX0_appendView, MX0_dropView, MX0_exchangeViews, MX0_resetSlices, MX0_viewDue, MX0_putSlice, MX0_putSlices, MX0_hasSlices, MX0_slicesShowing, MX0_showsEachView, MX0_startSlices, MX0_nextSlices, MX0_highestViewBefore, MX0_spotBehind, MX0_sliceBehind, MX0_ridgeBehind, MX0_viewBehind, MX0_colourBehind, MX0_stepAt]
theorem av_MT0_ok : ∀ M ∈ av_MT0, Cond.code M.1 M.2.1 M.2.2.1 M.2.2.2.1 ∈ lw_tbl := List.forall_mem_cons.mpr ⟨kX0, List.forall_mem_cons.mpr ⟨kX1, List.forall_mem_cons.mpr ⟨kX2, List.forall_mem_cons.mpr ⟨kX3, List.forall_mem_cons.mpr ⟨kX4, List.forall_mem_cons.mpr ⟨kX5, List.forall_mem_cons.mpr ⟨kX6, List.forall_mem_cons.mpr ⟨kX7, List.forall_mem_cons.mpr ⟨kX8, List.forall_mem_cons.mpr ⟨kX9, List.forall_mem_cons.mpr ⟨kX10, List.forall_mem_cons.mpr ⟨kX11, List.forall_mem_cons.mpr ⟨kX12, List.forall_mem_cons.mpr ⟨kX13, List.forall_mem_cons.mpr ⟨kX14, List.forall_mem_cons.mpr ⟨kX15, List.forall_mem_cons.mpr ⟨kX16, List.forall_mem_cons.mpr ⟨kX17, List.forall_mem_cons.mpr ⟨kX18, List.forall_mem_cons.mpr ⟨kX19, List.forall_mem_cons.mpr ⟨kX20, List.forall_mem_cons.mpr ⟨kX21, List.forall_mem_cons.mpr ⟨kX22, List.forall_mem_cons.mpr ⟨kX23, List.forall_mem_cons.mpr ⟨kX24, fun _ h => absurd h List.not_mem_nil⟩⟩⟩⟩⟩⟩⟩⟩⟩⟩⟩⟩⟩⟩⟩⟩⟩⟩⟩⟩⟩⟩⟩⟩⟩
def av_MT1 : List av_M := [MX0_placeSeen, MX1_init, MX1_isFull, MX1_append, MX1_empty, MX1_charAt, MX1_digitAt, MX1_findFault, MX1_isAllowed, MX1_isEnded, MX1_viewsUpTo, MX1_writeTo, MX2_init, MX2_record, MX2_dropOldest, MX2_takeLatest, MX2_stateAt, MX3_init, MX3_aim, MX3_viewSeen, MX3_isGhost, MX3_ghosts, MX3_ghostsAtAllAngles, MX3_ridgesShowing, MX3_wholeView]
theorem av_MT1_ok : ∀ M ∈ av_MT1, Cond.code M.1 M.2.1 M.2.2.1 M.2.2.2.1 ∈ lw_tbl := List.forall_mem_cons.mpr ⟨kX25, List.forall_mem_cons.mpr ⟨kX26, List.forall_mem_cons.mpr ⟨kX27, List.forall_mem_cons.mpr ⟨kX28, List.forall_mem_cons.mpr ⟨kX29, List.forall_mem_cons.mpr ⟨kX30, List.forall_mem_cons.mpr ⟨kX31, List.forall_mem_cons.mpr ⟨kX32, List.forall_mem_cons.mpr ⟨kX33, List.forall_mem_cons.mpr ⟨kX34, List.forall_mem_cons.mpr ⟨kX35, List.forall_mem_cons.mpr ⟨kX36, List.forall_mem_cons.mpr ⟨kX37, List.forall_mem_cons.mpr ⟨kX38, List.forall_mem_cons.mpr ⟨kX39, List.forall_mem_cons.mpr ⟨kX40, List.forall_mem_cons.mpr ⟨kX41, List.forall_mem_cons.mpr ⟨kX42, List.forall_mem_cons.mpr ⟨kX43, List.forall_mem_cons.mpr ⟨kX44, List.forall_mem_cons.mpr ⟨kX45, List.forall_mem_cons.mpr ⟨kX46, List.forall_mem_cons.mpr ⟨kX47, List.forall_mem_cons.mpr ⟨kX48, List.forall_mem_cons.mpr ⟨kX49, fun _ h => absurd h List.not_mem_nil⟩⟩⟩⟩⟩⟩⟩⟩⟩⟩⟩⟩⟩⟩⟩⟩⟩⟩⟩⟩⟩⟩⟩⟩⟩
def av_MT2 : List av_M := [MX3_mostShownView, MX3_mostShownRidges, MX3_anglesShowingWhole, MX3_anglesShowingAnyWhole, MX3_wholeViews, MX3_clearestAngle, MX4_init, MX4_colour, MX4_addView, MX4_removeView, MX4_swap, MX4_setPitch, MX4_slice, MX4_setShift, MX4_setLean, MX4_order, MX4_read, MX4_press, MX4_type, MX4_clearText, MX4_undo, MX4_keep, MX4_restore, MX4_colourOf, MX4_viewOf]
theorem av_MT2_ok : ∀ M ∈ av_MT2, Cond.code M.1 M.2.1 M.2.2.1 M.2.2.2.1 ∈ lw_tbl := List.forall_mem_cons.mpr ⟨kX50, List.forall_mem_cons.mpr ⟨kX51, List.forall_mem_cons.mpr ⟨kX52, List.forall_mem_cons.mpr ⟨kX53, List.forall_mem_cons.mpr ⟨kX54, List.forall_mem_cons.mpr ⟨kX55, List.forall_mem_cons.mpr ⟨kX56, List.forall_mem_cons.mpr ⟨kX57, List.forall_mem_cons.mpr ⟨kX58, List.forall_mem_cons.mpr ⟨kX59, List.forall_mem_cons.mpr ⟨kX60, List.forall_mem_cons.mpr ⟨kX61, List.forall_mem_cons.mpr ⟨kX62, List.forall_mem_cons.mpr ⟨kX63, List.forall_mem_cons.mpr ⟨kX64, List.forall_mem_cons.mpr ⟨kX65, List.forall_mem_cons.mpr ⟨kX66, List.forall_mem_cons.mpr ⟨kX67, List.forall_mem_cons.mpr ⟨kX68, List.forall_mem_cons.mpr ⟨kX69, List.forall_mem_cons.mpr ⟨kX70, List.forall_mem_cons.mpr ⟨kX71, List.forall_mem_cons.mpr ⟨kX72, List.forall_mem_cons.mpr ⟨kX73, List.forall_mem_cons.mpr ⟨kX74, fun _ h => absurd h List.not_mem_nil⟩⟩⟩⟩⟩⟩⟩⟩⟩⟩⟩⟩⟩⟩⟩⟩⟩⟩⟩⟩⟩⟩⟩⟩⟩
def av_MT3 : List av_M := [MX4_behind, MX4_seen, MX4_at, MX4_view, MX4_bestOrder, MX4_bestShift, MX4_ifSlice, MX4_count, MX4_isWithin, MX4_isRidge, MX4_isAngle, MX4_noneForNothing, MX4_copyNumbers, MX4_look, MX4_ghostsWithShift, MX4_findBestSlices, MX5_init, MX5_in, MX5_remember, MX5_acted, MX5_isView, MX5_isRidge, MX5_isSlice, MX5_isAngle, MX5_colourAt]
theorem av_MT3_ok : ∀ M ∈ av_MT3, Cond.code M.1 M.2.1 M.2.2.1 M.2.2.2.1 ∈ lw_tbl := List.forall_mem_cons.mpr ⟨kX75, List.forall_mem_cons.mpr ⟨kX76, List.forall_mem_cons.mpr ⟨kX77, List.forall_mem_cons.mpr ⟨kX78, List.forall_mem_cons.mpr ⟨kX79, List.forall_mem_cons.mpr ⟨kX80, List.forall_mem_cons.mpr ⟨kX81, List.forall_mem_cons.mpr ⟨kX82, List.forall_mem_cons.mpr ⟨kX83, List.forall_mem_cons.mpr ⟨kX84, List.forall_mem_cons.mpr ⟨kX85, List.forall_mem_cons.mpr ⟨kX86, List.forall_mem_cons.mpr ⟨kX87, List.forall_mem_cons.mpr ⟨kX88, List.forall_mem_cons.mpr ⟨kX89, List.forall_mem_cons.mpr ⟨kX90, List.forall_mem_cons.mpr ⟨kX91, List.forall_mem_cons.mpr ⟨kX92, List.forall_mem_cons.mpr ⟨kX93, List.forall_mem_cons.mpr ⟨kX94, List.forall_mem_cons.mpr ⟨kX95, List.forall_mem_cons.mpr ⟨kX96, List.forall_mem_cons.mpr ⟨kX97, List.forall_mem_cons.mpr ⟨kX98, List.forall_mem_cons.mpr ⟨kX99, fun _ h => absurd h List.not_mem_nil⟩⟩⟩⟩⟩⟩⟩⟩⟩⟩⟩⟩⟩⟩⟩⟩⟩⟩⟩⟩⟩⟩⟩⟩⟩
def av_MT4 : List av_M := [MX5_ordersAsFirst, MX5_dueAt, MX5_placeSeen, MX5_laysSlots, MX5_viewSeen, MX5_isGhost, MX5_ghostsAt, MX5_ghosts, MX5_ghostsNow, MX5_showing, MX5_wholeAngles, MX5_whole, MX5_colour, MX5_addView, MX5_removeView, MX5_swap, MX5_settles, MX5_setPitch, MX5_setShift, MX5_setLean, MX5_slice, MX5_laysOrder, MX5_findsOrder, MX5_order, MX5_press]
theorem av_MT4_ok : ∀ M ∈ av_MT4, Cond.code M.1 M.2.1 M.2.2.1 M.2.2.2.1 ∈ lw_tbl := List.forall_mem_cons.mpr ⟨kX100, List.forall_mem_cons.mpr ⟨kX101, List.forall_mem_cons.mpr ⟨kX102, List.forall_mem_cons.mpr ⟨kX103, List.forall_mem_cons.mpr ⟨kX104, List.forall_mem_cons.mpr ⟨kX105, List.forall_mem_cons.mpr ⟨kX106, List.forall_mem_cons.mpr ⟨kX107, List.forall_mem_cons.mpr ⟨kX108, List.forall_mem_cons.mpr ⟨kX109, List.forall_mem_cons.mpr ⟨kX110, List.forall_mem_cons.mpr ⟨kX111, List.forall_mem_cons.mpr ⟨kX112, List.forall_mem_cons.mpr ⟨kX113, List.forall_mem_cons.mpr ⟨kX114, List.forall_mem_cons.mpr ⟨kX115, List.forall_mem_cons.mpr ⟨kX116, List.forall_mem_cons.mpr ⟨kX117, List.forall_mem_cons.mpr ⟨kX118, List.forall_mem_cons.mpr ⟨kX119, List.forall_mem_cons.mpr ⟨kX120, List.forall_mem_cons.mpr ⟨kX121, List.forall_mem_cons.mpr ⟨kX122, List.forall_mem_cons.mpr ⟨kX123, List.forall_mem_cons.mpr ⟨kX124, fun _ h => absurd h List.not_mem_nil⟩⟩⟩⟩⟩⟩⟩⟩⟩⟩⟩⟩⟩⟩⟩⟩⟩⟩⟩⟩⟩⟩⟩⟩⟩
def av_MT5 : List av_M := [MX5_type, MX5_clearText, MX5_isHere, MX5_takes, MX5_readsDigits, MX5_fault, MX5_read, MX5_undo, MX5_keep, MX5_restore, MX5_colourOf, MX5_viewOf, MX5_dueOf, MX5_behind, MX5_seen, MX5_wholeAt, MX5_mostAt, MX5_at, MX5_clearest, MX5_slicesOf, MX5_view, MX5_bestOrder, MX5_bestShift, MX5_ifSlice, MX5_count]
theorem av_MT5_ok : ∀ M ∈ av_MT5, Cond.code M.1 M.2.1 M.2.2.1 M.2.2.2.1 ∈ lw_tbl := List.forall_mem_cons.mpr ⟨kX125, List.forall_mem_cons.mpr ⟨kX126, List.forall_mem_cons.mpr ⟨kX127, List.forall_mem_cons.mpr ⟨kX128, List.forall_mem_cons.mpr ⟨kX129, List.forall_mem_cons.mpr ⟨kX130, List.forall_mem_cons.mpr ⟨kX131, List.forall_mem_cons.mpr ⟨kX132, List.forall_mem_cons.mpr ⟨kX133, List.forall_mem_cons.mpr ⟨kX134, List.forall_mem_cons.mpr ⟨kX135, List.forall_mem_cons.mpr ⟨kX136, List.forall_mem_cons.mpr ⟨kX137, List.forall_mem_cons.mpr ⟨kX138, List.forall_mem_cons.mpr ⟨kX139, List.forall_mem_cons.mpr ⟨kX140, List.forall_mem_cons.mpr ⟨kX141, List.forall_mem_cons.mpr ⟨kX142, List.forall_mem_cons.mpr ⟨kX143, List.forall_mem_cons.mpr ⟨kX144, List.forall_mem_cons.mpr ⟨kX145, List.forall_mem_cons.mpr ⟨kX146, List.forall_mem_cons.mpr ⟨kX147, List.forall_mem_cons.mpr ⟨kX148, List.forall_mem_cons.mpr ⟨kX149, fun _ h => absurd h List.not_mem_nil⟩⟩⟩⟩⟩⟩⟩⟩⟩⟩⟩⟩⟩⟩⟩⟩⟩⟩⟩⟩⟩⟩⟩⟩⟩
theorem av_code_ok : ∀ M ∈ av_MT, Cond.code M.1 M.2.1 M.2.2.1 M.2.2.2.1 ∈ lw_tbl := by
  show ∀ M ∈ av_MT0 ++ (av_MT1 ++ (av_MT2 ++ (av_MT3 ++ (av_MT4 ++ (av_MT5))))), _
  exact List.forall_mem_append.mpr ⟨av_MT0_ok, List.forall_mem_append.mpr ⟨av_MT1_ok, List.forall_mem_append.mpr ⟨av_MT2_ok, List.forall_mem_append.mpr ⟨av_MT3_ok, List.forall_mem_append.mpr ⟨av_MT4_ok, av_MT5_ok⟩⟩⟩⟩⟩
def av_inip : List Nat := [35, 35, 35, 35, 35, 35, 35, 35, 35, 35, 35, 35, 35, 35, 35, 35, 35, 35, 35, 35, 35, 35, 35, 35, 35, 35, 37, 37, 37, 37, 37, 37, 37, 37, 37, 37, 37, 36, 36, 36, 36, 36, 34, 34, 34, 34, 34, 34, 34, 34, 34, 34, 34, 34, 34, 34, 33, 33, 33, 33, 33, 33, 33, 33, 33, 33, 33, 33, 33, 33, 33, 33, 33, 33, 33, 33, 33, 33, 33, 33, 33, 33, 33, 33, 33, 33, 33, 33, 33, 33, 33, 38, 38, 38, 38, 38, 38, 38, 38, 38, 38, 38, 38, 38, 38, 38, 38, 38, 38, 38, 38, 38, 38, 38, 38, 38, 38, 38, 38, 38, 38, 38, 38, 38, 38, 38, 38, 38, 38, 38, 38, 38, 38, 38, 38, 38, 38, 38, 38, 38, 38, 38, 38, 38, 38, 38, 38, 38, 38, 38]
/-- a call by class and pool number: kind (0 virtual, 1 virtual of a nest mate, 2 static, 3 static of a nest mate, 4 constructor, 5 constructor of a nest mate), callee by its place in av_MT, host of the nest, places of the words -/
def av_resL : List (Nat × Nat × Nat × Nat × String × Nat × Nat × Nat) := [(99, 9, 4, 56, "", 42, 43, 0), (99, 12, 4, 91, "", 551, 552, 0), (99, 13, 0, 57, "", 181, 182, 183), (99, 17, 0, 112, "", 605, 606, 607), (99, 18, 0, 58, "", 224, 225, 226), (99, 22, 0, 113, "", 633, 634, 635), (99, 23, 0, 59, "", 233, 234, 235), (99, 27, 0, 114, "", 637, 638, 639), (99, 28, 0, 60, "", 242, 243, 244), (99, 32, 0, 115, "", 641, 642, 643), (99, 33, 0, 61, "", 250, 251, 252), (99, 36, 0, 117, "", 645, 646, 647), (99, 37, 0, 62, "", 255, 256, 257), (99, 40, 0, 120, "", 665, 666, 667), (99, 41, 0, 63, "", 271, 272, 273), (99, 44, 0, 118, "", 655, 656, 657), (99, 45, 0, 64, "", 275, 276, 277), (99, 48, 0, 119, "", 661, 662, 663), (99, 49, 0, 65, "", 279, 280, 281), (99, 52, 0, 123, "", 673, 674, 675), (99, 53, 0, 66, "", 367, 368, 369), (99, 56, 0, 131, "", 744, 745, 746), (99, 57, 0, 67, "", 402, 403, 404), (99, 60, 0, 124, "", 718, 719, 720), (99, 61, 0, 68, "", 423, 424, 425), (99, 65, 0, 125, "", 736, 737, 738), (99, 66, 0, 69, "", 435, 436, 437), (99, 69, 0, 126, "", 740, 741, 742), (99, 70, 0, 70, "", 443, 444, 445), (99, 73, 0, 132, "", 764, 765, 766), (99, 74, 0, 71, "", 451, 452, 453), (99, 77, 0, 133, "", 768, 769, 770), (99, 78, 0, 72, "", 455, 456, 457), (99, 81, 0, 134, "", 772, 773, 774), (99, 82, 0, 73, "", 459, 460, 461), (99, 85, 0, 135, "", 776, 777, 778), (99, 86, 0, 74, "", 463, 464, 465), (99, 89, 0, 136, "", 780, 781, 782), (99, 90, 0, 75, "", 467, 468, 469), (99, 93, 0, 138, "", 784, 785, 786), (99, 94, 0, 76, "", 489, 490, 491), (99, 97, 0, 139, "", 792, 793, 794), (99, 98, 0, 77, "", 499, 500, 501), (99, 101, 0, 142, "", 800, 801, 802), (99, 102, 0, 78, "", 515, 516, 517), (99, 105, 0, 145, "", 812, 813, 814), (99, 106, 0, 79, "", 525, 526, 527), (99, 109, 0, 146, "", 824, 825, 826), (99, 110, 0, 80, "", 529, 530, 531), (99, 113, 0, 147, "", 828, 829, 830), (99, 114, 0, 81, "", 537, 538, 539), (99, 117, 0, 148, "", 832, 833, 834), (99, 118, 0, 82, "", 541, 542, 543), (99, 121, 0, 149, "", 836, 837, 838), (3, 11, 4, 0, "", 56, 57, 0), (3, 25, 0, 25, "", 296, 297, 298), (3, 29, 0, 20, "", 306, 307, 308), (3, 32, 0, 24, "", 314, 315, 316), (3, 36, 3, 83, "TiltedCards", 318, 190, 0), (3, 40, 0, 10, "", 344, 264, 265), (3, 43, 0, 44, "", 340, 341, 342), (3, 46, 0, 45, "", 336, 337, 338), (3, 54, 0, 46, "", 332, 333, 334), (3, 57, 0, 48, "", 419, 420, 421), (3, 63, 0, 50, "", 513, 506, 507), (3, 66, 0, 49, "", 415, 416, 417), (3, 69, 0, 52, "", 411, 412, 413), (0, 40, 0, 9, "", 60, 61, 62), (0, 43, 3, 87, "TiltedCards", 217, 218, 0), (0, 47, 3, 83, "TiltedCards", 189, 190, 0), (0, 51, 3, 84, "TiltedCards", 200, 193, 0), (0, 55, 0, 5, "", 232, 221, 222), (0, 59, 0, 4, "", 241, 197, 198), (0, 63, 0, 10, "", 327, 264, 265), (0, 67, 0, 14, "", 323, 324, 325), (0, 70, 0, 18, "", 350, 351, 352), (0, 73, 0, 11, "", 354, 268, 269), (0, 82, 0, 19, "", 310, 311, 312), (0, 85, 0, 20, "", 475, 307, 308), (0, 88, 0, 22, "", 483, 472, 473), (0, 91, 0, 21, "", 484, 485, 486), (4, 9, 5, 42, "TiltedCards", 50, 51, 0), (4, 33, 4, 37, "", 118, 119, 0), (4, 40, 4, 0, "", 134, 57, 0), (4, 50, 5, 26, "TiltedCards", 137, 138, 0), (4, 55, 0, 2, "", 185, 186, 187), (4, 59, 2, 84, "", 192, 193, 0), (4, 62, 2, 83, "", 195, 190, 0), (4, 66, 0, 4, "", 196, 197, 198), (4, 70, 0, 38, "", 201, 202, 203), (4, 74, 0, 5, "", 220, 221, 222), (4, 82, 0, 6, "", 228, 229, 230), (4, 85, 0, 7, "", 237, 238, 239), (4, 89, 0, 8, "", 246, 247, 248), (4, 95, 0, 9, "", 254, 61, 62), (4, 98, 0, 3, "", 259, 260, 261), (4, 101, 0, 10, "", 263, 264, 265), (4, 105, 0, 11, "", 267, 268, 269), (4, 115, 0, 90, "", 283, 285, 0), (4, 118, 0, 13, "", 355, 356, 357), (4, 122, 0, 12, "", 359, 360, 361), (4, 126, 0, 88, "", 363, 365, 1), (4, 130, 0, 47, "", 328, 329, 330), (4, 134, 0, 32, "", 371, 372, 373), (4, 137, 0, 36, "", 395, 396, 397), (4, 144, 0, 54, "", 407, 408, 409), (4, 153, 0, 27, "", 427, 428, 429), (4, 157, 0, 28, "", 431, 432, 433), (4, 164, 0, 29, "", 439, 440, 441), (4, 170, 0, 40, "", 447, 448, 449), (4, 173, 0, 1, "", 287, 214, 215), (4, 176, 0, 22, "", 471, 472, 473), (4, 179, 2, 86, "", 476, 477, 0), (4, 182, 0, 23, "", 479, 480, 481), (4, 185, 0, 21, "", 488, 485, 486), (4, 188, 2, 85, "", 493, 494, 0), (4, 191, 0, 24, "", 496, 315, 316), (4, 194, 0, 25, "", 497, 297, 298), (4, 197, 0, 45, "", 498, 337, 338), (4, 201, 0, 46, "", 503, 333, 334), (4, 204, 0, 49, "", 504, 416, 417), (4, 207, 0, 50, "", 505, 506, 507), (4, 210, 0, 51, "", 509, 510, 511), (4, 213, 0, 48, "", 514, 420, 421), (4, 216, 0, 14, "", 519, 324, 325), (4, 219, 0, 52, "", 520, 412, 413), (4, 222, 0, 55, "", 521, 522, 523), (4, 225, 0, 89, "", 533, 535, 2), (4, 228, 0, 43, "", 292, 293, 294), (4, 231, 0, 53, "", 545, 546, 547), (4, 234, 0, 16, "", 288, 289, 290), (4, 237, 0, 15, "", 319, 320, 321), (4, 243, 2, 87, "", 345, 218, 0), (4, 247, 0, 17, "", 346, 347, 348), (2, 21, 4, 0, "", 124, 57, 0), (2, 22, 0, 39, "", 205, 206, 207), (2, 25, 0, 41, "", 209, 210, 211), (2, 29, 0, 1, "", 213, 214, 215), (1, 22, 0, 30, "", 383, 384, 385), (1, 26, 0, 33, "", 375, 376, 377), (1, 30, 0, 34, "", 391, 392, 393), (1, 34, 0, 31, "", 379, 380, 381), (1, 38, 2, 35, "", 387, 388, 0), (1, 41, 3, 83, "TiltedCards", 390, 190, 0), (1, 50, 0, 5, "", 399, 221, 222), (1, 54, 0, 9, "", 400, 61, 62), (1, 60, 0, 11, "", 401, 268, 269), (5, 34, 0, 100, "", 555, 557, 3), (5, 41, 2, 92, "", 613, 614, 0), (5, 53, 0, 102, "", 685, 687, 12), (5, 57, 0, 101, "", 689, 691, 13), (5, 60, 0, 104, "", 710, 712, 18), (5, 63, 0, 105, "", 706, 708, 17), (5, 67, 0, 106, "", 702, 704, 16), (5, 71, 0, 103, "", 681, 683, 11), (5, 74, 0, 107, "", 698, 700, 15), (5, 78, 0, 109, "", 732, 734, 22), (5, 81, 0, 110, "", 728, 730, 21), (5, 84, 0, 95, "", 609, 611, 4), (5, 88, 2, 96, "", 616, 617, 0), (5, 91, 0, 99, "", 621, 623, 5), (5, 94, 0, 93, "", 625, 627, 6), (5, 97, 0, 94, "", 629, 631, 7), (5, 104, 0, 116, "", 651, 653, 8), (5, 112, 0, 97, "", 669, 671, 9), (5, 115, 0, 121, "", 694, 696, 14), (5, 118, 0, 122, "", 677, 679, 10), (5, 121, 0, 108, "", 714, 716, 19), (5, 127, 0, 111, "", 724, 726, 20), (5, 137, 0, 127, "", 756, 758, 25), (5, 146, 0, 129, "", 752, 754, 24), (5, 149, 0, 128, "", 760, 762, 26), (5, 155, 0, 130, "", 748, 750, 23), (5, 161, 0, 137, "", 788, 790, 27), (5, 164, 2, 98, "", 796, 797, 0), (5, 167, 0, 140, "", 804, 806, 28), (5, 170, 0, 141, "", 808, 810, 29), (5, 173, 0, 144, "", 816, 818, 30), (5, 176, 0, 143, "", 820, 822, 31)]
/-- Math.max (true) and min -/
def av_mmL : List (Nat × Nat × Bool × Nat × Nat × Nat × Nat) := [(0, 94, false, 300, 301, 302, 39), (0, 77, true, 303, 304, 305, 39)]
-- object constructors
def av_objL : List (Nat × Nat) := [(4, 1), (3, 3), (0, 3), (2, 3), (1, 3), (5, 1)]
def av_fldL : List (Nat × Nat × Nat × Nat × String × Nat) := [(0, 9, 0, 0, "", 64), (0, 15, 0, 1, "", 68), (0, 19, 0, 2, "", 69), (0, 22, 0, 3, "", 73), (0, 25, 0, 4, "", 75), (0, 28, 0, 5, "", 77), (0, 31, 0, 6, "", 79), (0, 34, 0, 7, "", 81), (0, 37, 0, 8, "", 83), (3, 12, 3, 0, "", 105), (3, 18, 3, 1, "", 107), (3, 22, 3, 2, "", 108), (3, 50, 0, 2, "TiltedCards", 70), (3, 60, 0, 0, "TiltedCards", 66), (2, 11, 2, 0, "", 125), (2, 17, 2, 1, "", 126), (1, 9, 1, 0, "", 141), (1, 15, 1, 1, "", 142), (1, 19, 1, 2, "", 144), (1, 45, 0, 0, "TiltedCards", 67), (1, 57, 0, 2, "TiltedCards", 72), (4, 10, 4, 0, "", 153), (4, 16, 3, 0, "TiltedCards", 106), (4, 20, 4, 1, "", 154), (4, 21, 4, 2, "", 155), (4, 24, 4, 3, "", 156), (4, 27, 4, 4, "", 157), (4, 34, 4, 5, "", 158), (4, 41, 4, 6, "", 159), (4, 44, 4, 7, "", 160), (4, 51, 4, 8, "", 161), (4, 78, 0, 0, "TiltedCards", 65), (4, 92, 0, 2, "TiltedCards", 71), (4, 109, 0, 4, "TiltedCards", 76), (4, 112, 0, 5, "TiltedCards", 78), (4, 140, 0, 6, "TiltedCards", 80), (4, 147, 0, 7, "TiltedCards", 82), (4, 150, 0, 8, "TiltedCards", 84), (4, 161, 1, 1, "TiltedCards", 143), (4, 167, 2, 1, "TiltedCards", 127), (4, 240, 0, 3, "TiltedCards", 74), (5, 7, 5, 0, "", 559), (5, 13, 5, 1, "", 560), (5, 16, 5, 2, "", 561), (5, 19, 5, 4, "", 563), (5, 22, 5, 6, "", 565), (5, 25, 5, 7, "", 566), (5, 28, 5, 8, "", 567), (5, 31, 5, 9, "", 568), (5, 37, 5, 3, "", 562), (5, 131, 5, 10, "", 569), (5, 134, 5, 11, "", 570), (5, 140, 5, 12, "", 571), (5, 143, 5, 13, "", 572), (5, 152, 5, 14, "", 573), (5, 158, 5, 5, "", 564)]
def av_clsL : List (Nat × Nat × Nat) := [(99, 7, 4), (4, 7, 3), (3, 9, 0), (4, 31, 2), (2, 9, 0), (4, 38, 0), (4, 48, 1), (99, 10, 5)]
def av_kiL : List (Nat × Nat × Int32) := [(4, 143, 99999), (5, 126, 99999)]
def av_klL : List (Nat × Nat × Int64) := [(5, 45, 11), (5, 49, 9), (5, 100, 2), (5, 102, 6), (5, 108, -3), (5, 110, 3), (5, 51, 12), (5, 124, 999), (5, 47, -9)]
def av_R (k : Nat) : String := match k with
  | 0 => RX0
  | 1 => RX1
  | 2 => RX2
  | 3 => RX3
  | 4 => RX4
  | 5 => RX5
  | 90 => RJ9
  | _ => RL
def av_T (k : Nat) : u_T := match k with
  | 0 => TX0
  | 1 => TX1
  | 2 => TX2
  | 3 => TX3
  | 4 => TX4
  | _ => TX5
def av_ty (k : Nat) : Nat → FieldType := match k with
  | 0 => tyX0
  | 1 => tyX1
  | 2 => tyX2
  | 3 => tyX3
  | 4 => tyX4
  | _ => tyX5
def av_N (k : Nat) : Nat := match k with
  | 0 => 9
  | 1 => 3
  | 2 => 2
  | 3 => 3
  | 4 => 9
  | _ => 15
def av_df (k : Nat) : List Value := match k with
  | 0 => [.int 0, .null, .int 0, .null, .int 0, .int 0, .int 0, .int 0, .int 0]
  | 1 => [.null, .int 0, .int 0]
  | 2 => [.null, .int 0]
  | 3 => [.null, .null, .null]
  | 4 => [.null, .null, .null, .null, .null, .null, .null, .int 0, .null]
  | _ => [.null, .null, .null, .int 0, .null, .int 0, .null, .null, .null, .null, .int 0, .int 0, .int 0, .int 0, .int 0]
