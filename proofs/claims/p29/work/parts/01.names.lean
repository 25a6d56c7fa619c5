-- ===== PART A: goes FIRST, ahead of the names: the tables' words, and 'selects' of the private methods out of them =====
/-- a private method of a class that the tables say can be made, by its rows of tables_1 -/
def lw_okq (q : MethodName × Nat) : Prop := (q.1.cls ≠ "java/lang/invoke/MethodHandle" ∧ q.1.cls ≠ "java/lang/invoke/VarHandle") ∧ Cond.instantiable q.1.cls q.2 ∈ tables_1 ∧ Cond.privateMethod q.1 ∈ tables_1 ∧ Cond.instanceMethod q.1 ∈ tables_1
theorem lw_p0 : lw_okq (⟨"TiltedCards", "look", "()LTiltedCards$Sight;"⟩, 9) := ⟨⟨by decide +kernel, by decide +kernel⟩, List.mem_of_getElem? (i := 8) (by decide +kernel), List.mem_of_getElem? (i := 250) (by decide +kernel), List.mem_of_getElem? (i := 251) (by decide +kernel)⟩
theorem lw_p1 : lw_okq (⟨"TiltedCards", "ghostsWithShift", "(I)I"⟩, 9) := ⟨⟨by decide +kernel, by decide +kernel⟩, List.mem_of_getElem? (i := 8) (by decide +kernel), List.mem_of_getElem? (i := 410) (by decide +kernel), List.mem_of_getElem? (i := 411) (by decide +kernel)⟩
def lw_privs_1 : List (MethodName × Nat) := [(⟨"TiltedCards", "look", "()LTiltedCards$Sight;"⟩, 9), (⟨"TiltedCards", "ghostsWithShift", "(I)I"⟩, 9)]
theorem lw_r1 : ∀ q ∈ lw_privs_1, lw_okq q := List.forall_mem_cons.mpr ⟨lw_p0, List.forall_mem_cons.mpr ⟨lw_p1, fun _ h => absurd h List.not_mem_nil⟩⟩
def lw_privs : List (MethodName × Nat) := lw_privs_1
def lw_tbl : List Cond := k2_sels lw_privs ++ tables_1
theorem lw_privs_ok : ∀ q ∈ lw_privs, lw_okq q := lw_r1

-- ===== end of PART A =====
def RX0 : String := "TiltedCards$Card"
def TX0 : u_T := fun k => match k with
  | 0 => ("TiltedCards$Card", "views", "I", false)
  | 1 => ("TiltedCards$Card", "colours", "[I", true)
  | 2 => ("TiltedCards$Card", "pitch", "I", false)
  | 3 => ("TiltedCards$Card", "sliceViews", "[I", true)
  | 4 => ("TiltedCards$Card", "shift", "I", false)
  | 5 => ("TiltedCards$Card", "lean", "I", false)
  | 6 => ("TiltedCards$Card", "pressed", "I", false)
  | 7 => ("TiltedCards$Card", "good", "I", false)
  | _ => ("TiltedCards$Card", "cost", "I", false)
def tyX0 : Nat → FieldType := fun k => match k with
  | 0 => .int
  | 1 => .array .int
  | 2 => .int
  | 3 => .array .int
  | 4 => .int
  | 5 => .int
  | 6 => .int
  | 7 => .int
  | _ => .int
theorem nmX0 : ∀ a, a < 9 → ∀ b, b < 9 → a ≠ b → (TX0 a).2.1 ≠ (TX0 b).2.1 := by decide +kernel
theorem tyX0_ok : ∀ k, k < 9 → parseFieldDescriptor (TX0 k).2.2.1 = some (tyX0 k) := by decide +kernel
abbrev cX0_init : ByteArray := prog_2_method_1_code
def yX0_init : MethodName := ⟨RX0, "<init>", "()V"⟩
abbrev cX0_copyFrom : ByteArray := prog_2_method_2_code
def yX0_copyFrom : MethodName := ⟨RX0, "copyFrom", "(LTiltedCards$Card;)V"⟩
abbrev cX0_hasView : ByteArray := prog_2_method_3_code
def yX0_hasView : MethodName := ⟨RX0, "hasView", "(I)Z"⟩
abbrev cX0_hasSlice : ByteArray := prog_2_method_4_code
def yX0_hasSlice : MethodName := ⟨RX0, "hasSlice", "(I)Z"⟩
abbrev cX0_colourIn : ByteArray := prog_2_method_5_code
def yX0_colourIn : MethodName := ⟨RX0, "colourIn", "(II)I"⟩
abbrev cX0_paint : ByteArray := prog_2_method_6_code
def yX0_paint : MethodName := ⟨RX0, "paint", "(III)V"⟩
abbrev cX0_dropView : ByteArray := prog_2_method_8_code
def yX0_dropView : MethodName := ⟨RX0, "dropView", "(I)V"⟩
abbrev cX0_exchangeViews : ByteArray := prog_2_method_9_code
def yX0_exchangeViews : MethodName := ⟨RX0, "exchangeViews", "(II)I"⟩
abbrev cX0_resetSlices : ByteArray := prog_2_method_10_code
def yX0_resetSlices : MethodName := ⟨RX0, "resetSlices", "()V"⟩
abbrev cX0_viewDue : ByteArray := prog_2_method_11_code
def yX0_viewDue : MethodName := ⟨RX0, "viewDue", "(I)I"⟩
abbrev cX0_putSlice : ByteArray := prog_2_method_12_code
def yX0_putSlice : MethodName := ⟨RX0, "putSlice", "(II)V"⟩
abbrev cX0_slicesShowing : ByteArray := prog_2_method_15_code
def yX0_slicesShowing : MethodName := ⟨RX0, "slicesShowing", "(I)I"⟩
abbrev cX0_spotBehind : ByteArray := prog_2_method_20_code
def yX0_spotBehind : MethodName := ⟨RX0, "spotBehind", "(II)I"⟩
abbrev cX0_sliceBehind : ByteArray := prog_2_method_21_code
def yX0_sliceBehind : MethodName := ⟨RX0, "sliceBehind", "(II)I"⟩
abbrev cX0_ridgeBehind : ByteArray := prog_2_method_22_code
def yX0_ridgeBehind : MethodName := ⟨RX0, "ridgeBehind", "(II)I"⟩
abbrev cX0_viewBehind : ByteArray := prog_2_method_23_code
def yX0_viewBehind : MethodName := ⟨RX0, "viewBehind", "(II)I"⟩
abbrev cX0_colourBehind : ByteArray := prog_2_method_24_code
def yX0_colourBehind : MethodName := ⟨RX0, "colourBehind", "(II)I"⟩
abbrev cX0_stepAt : ByteArray := prog_2_method_25_code
def yX0_stepAt : MethodName := ⟨RX0, "stepAt", "(I)I"⟩
abbrev cX0_placeSeen : ByteArray := prog_2_method_26_code
def yX0_placeSeen : MethodName := ⟨RX0, "placeSeen", "(II)I"⟩
def RX1 : String := "TiltedCards$CardText"
def TX1 : u_T := fun k => match k with
  | 0 => ("TiltedCards$CardText", "characters", "[C", true)
  | 1 => ("TiltedCards$CardText", "length", "I", false)
  | _ => ("TiltedCards$CardText", "colon", "I", false)
def tyX1 : Nat → FieldType := fun k => match k with
  | 0 => .array .char
  | 1 => .int
  | _ => .int
theorem nmX1 : ∀ a, a < 3 → ∀ b, b < 3 → a ≠ b → (TX1 a).2.1 ≠ (TX1 b).2.1 := by decide +kernel
theorem tyX1_ok : ∀ k, k < 3 → parseFieldDescriptor (TX1 k).2.2.1 = some (tyX1 k) := by decide +kernel
abbrev cX1_init : ByteArray := prog_3_method_1_code
def yX1_init : MethodName := ⟨RX1, "<init>", "()V"⟩
abbrev cX1_isFull : ByteArray := prog_3_method_2_code
def yX1_isFull : MethodName := ⟨RX1, "isFull", "()Z"⟩
abbrev cX1_append : ByteArray := prog_3_method_3_code
def yX1_append : MethodName := ⟨RX1, "append", "(C)V"⟩
abbrev cX1_empty : ByteArray := prog_3_method_4_code
def yX1_empty : MethodName := ⟨RX1, "empty", "()V"⟩
abbrev cX1_charAt : ByteArray := prog_3_method_5_code
def yX1_charAt : MethodName := ⟨RX1, "charAt", "(I)C"⟩
abbrev cX1_digitAt : ByteArray := prog_3_method_6_code
def yX1_digitAt : MethodName := ⟨RX1, "digitAt", "(I)I"⟩
abbrev cX1_findFault : ByteArray := prog_3_method_7_code
def yX1_findFault : MethodName := ⟨RX1, "findFault", "()I"⟩
abbrev cX1_isAllowed : ByteArray := prog_3_method_8_code
def yX1_isAllowed : MethodName := ⟨RX1, "isAllowed", "(I)Z"⟩
abbrev cX1_isEnded : ByteArray := prog_3_method_9_code
def yX1_isEnded : MethodName := ⟨RX1, "isEnded", "()Z"⟩
abbrev cX1_viewsUpTo : ByteArray := prog_3_method_10_code
def yX1_viewsUpTo : MethodName := ⟨RX1, "viewsUpTo", "(I)I"⟩
abbrev cX1_writeTo : ByteArray := prog_3_method_11_code
def yX1_writeTo : MethodName := ⟨RX1, "writeTo", "(LTiltedCards$Card;)V"⟩
def RX2 : String := "TiltedCards$History"
def TX2 : u_T := fun k => match k with
  | 0 => ("TiltedCards$History", "states", "[LTiltedCards$Card;", true)
  | _ => ("TiltedCards$History", "size", "I", false)
def tyX2 : Nat → FieldType := fun k => match k with
  | 0 => .array (.object "TiltedCards$Card")
  | _ => .int
theorem nmX2 : ∀ a, a < 2 → ∀ b, b < 2 → a ≠ b → (TX2 a).2.1 ≠ (TX2 b).2.1 := by decide +kernel
theorem tyX2_ok : ∀ k, k < 2 → parseFieldDescriptor (TX2 k).2.2.1 = some (tyX2 k) := by decide +kernel
abbrev cX2_init : ByteArray := prog_4_method_1_code
def yX2_init : MethodName := ⟨RX2, "<init>", "()V"⟩
abbrev cX2_record : ByteArray := prog_4_method_2_code
def yX2_record : MethodName := ⟨RX2, "record", "(LTiltedCards$Card;)V"⟩
abbrev cX2_dropOldest : ByteArray := prog_4_method_3_code
def yX2_dropOldest : MethodName := ⟨RX2, "dropOldest", "()V"⟩
abbrev cX2_stateAt : ByteArray := prog_4_method_5_code
def yX2_stateAt : MethodName := ⟨RX2, "stateAt", "(I)LTiltedCards$Card;"⟩
def RX3 : String := "TiltedCards$Sight"
def TX3 : u_T := fun k => match k with
  | 0 => ("TiltedCards$Sight", "card", "LTiltedCards$Card;", true)
  | 1 => ("TiltedCards$Sight", "slicesSeen", "[I", true)
  | _ => ("TiltedCards$Sight", "anglesOfStep", "[I", true)
def tyX3 : Nat → FieldType := fun k => match k with
  | 0 => .object "TiltedCards$Card"
  | 1 => .array .int
  | _ => .array .int
theorem nmX3 : ∀ a, a < 3 → ∀ b, b < 3 → a ≠ b → (TX3 a).2.1 ≠ (TX3 b).2.1 := by decide +kernel
theorem tyX3_ok : ∀ k, k < 3 → parseFieldDescriptor (TX3 k).2.2.1 = some (tyX3 k) := by decide +kernel
abbrev cX3_init : ByteArray := prog_5_method_1_code
def yX3_init : MethodName := ⟨RX3, "<init>", "()V"⟩
abbrev cX3_aim : ByteArray := prog_5_method_2_code
def yX3_aim : MethodName := ⟨RX3, "aim", "()V"⟩
abbrev cX3_viewSeen : ByteArray := prog_5_method_3_code
def yX3_viewSeen : MethodName := ⟨RX3, "viewSeen", "(II)I"⟩
abbrev cX3_isGhost : ByteArray := prog_5_method_4_code
def yX3_isGhost : MethodName := ⟨RX3, "isGhost", "(II)Z"⟩
abbrev cX3_ghosts : ByteArray := prog_5_method_5_code
def yX3_ghosts : MethodName := ⟨RX3, "ghosts", "(I)I"⟩
abbrev cX3_ghostsAtAllAngles : ByteArray := prog_5_method_6_code
def yX3_ghostsAtAllAngles : MethodName := ⟨RX3, "ghostsAtAllAngles", "()I"⟩
abbrev cX3_ridgesShowing : ByteArray := prog_5_method_7_code
def yX3_ridgesShowing : MethodName := ⟨RX3, "ridgesShowing", "(II)I"⟩
abbrev cX3_wholeView : ByteArray := prog_5_method_8_code
def yX3_wholeView : MethodName := ⟨RX3, "wholeView", "(I)I"⟩
abbrev cX3_mostShownView : ByteArray := prog_5_method_9_code
def yX3_mostShownView : MethodName := ⟨RX3, "mostShownView", "(I)I"⟩
abbrev cX3_mostShownRidges : ByteArray := prog_5_method_10_code
def yX3_mostShownRidges : MethodName := ⟨RX3, "mostShownRidges", "(I)I"⟩
abbrev cX3_anglesShowingWhole : ByteArray := prog_5_method_11_code
def yX3_anglesShowingWhole : MethodName := ⟨RX3, "anglesShowingWhole", "(I)I"⟩
abbrev cX3_anglesShowingAnyWhole : ByteArray := prog_5_method_12_code
def yX3_anglesShowingAnyWhole : MethodName := ⟨RX3, "anglesShowingAnyWhole", "()I"⟩
abbrev cX3_wholeViews : ByteArray := prog_5_method_13_code
def yX3_wholeViews : MethodName := ⟨RX3, "wholeViews", "()I"⟩
abbrev cX3_clearestAngle : ByteArray := prog_5_method_14_code
def yX3_clearestAngle : MethodName := ⟨RX3, "clearestAngle", "(I)I"⟩
def RX4 : String := "TiltedCards"
def TX4 : u_T := fun k => match k with
  | 0 => ("TiltedCards", "sight", "LTiltedCards$Sight;", true)
  | 1 => ("TiltedCards", "card", "LTiltedCards$Card;", true)
  | 2 => ("TiltedCards", "trialSight", "LTiltedCards$Sight;", true)
  | 3 => ("TiltedCards", "trial", "LTiltedCards$Card;", true)
  | 4 => ("TiltedCards", "bestSlices", "[I", true)
  | 5 => ("TiltedCards", "history", "LTiltedCards$History;", true)
  | 6 => ("TiltedCards", "snapshot", "LTiltedCards$Card;", true)
  | 7 => ("TiltedCards", "hasSnapshot", "Z", false)
  | _ => ("TiltedCards", "text", "LTiltedCards$CardText;", true)
def tyX4 : Nat → FieldType := fun k => match k with
  | 0 => .object "TiltedCards$Sight"
  | 1 => .object "TiltedCards$Card"
  | 2 => .object "TiltedCards$Sight"
  | 3 => .object "TiltedCards$Card"
  | 4 => .array .int
  | 5 => .object "TiltedCards$History"
  | 6 => .object "TiltedCards$Card"
  | 7 => .boolean
  | _ => .object "TiltedCards$CardText"
theorem nmX4 : ∀ a, a < 9 → ∀ b, b < 9 → a ≠ b → (TX4 a).2.1 ≠ (TX4 b).2.1 := by decide +kernel
theorem tyX4_ok : ∀ k, k < 9 → parseFieldDescriptor (TX4 k).2.2.1 = some (tyX4 k) := by decide +kernel
abbrev cX4_init : ByteArray := prog_1_method_1_code
def yX4_init : MethodName := ⟨RX4, "<init>", "()V"⟩
abbrev cX4_colour : ByteArray := prog_1_method_2_code
def yX4_colour : MethodName := ⟨RX4, "colour", "(III)I"⟩
abbrev cX4_removeView : ByteArray := prog_1_method_4_code
def yX4_removeView : MethodName := ⟨RX4, "removeView", "(I)I"⟩
abbrev cX4_swap : ByteArray := prog_1_method_5_code
def yX4_swap : MethodName := ⟨RX4, "swap", "(II)I"⟩
abbrev cX4_setPitch : ByteArray := prog_1_method_6_code
def yX4_setPitch : MethodName := ⟨RX4, "setPitch", "(I)I"⟩
abbrev cX4_slice : ByteArray := prog_1_method_7_code
def yX4_slice : MethodName := ⟨RX4, "slice", "(II)I"⟩
abbrev cX4_setShift : ByteArray := prog_1_method_8_code
def yX4_setShift : MethodName := ⟨RX4, "setShift", "(I)I"⟩
abbrev cX4_setLean : ByteArray := prog_1_method_9_code
def yX4_setLean : MethodName := ⟨RX4, "setLean", "(I)I"⟩
abbrev cX4_read : ByteArray := prog_1_method_11_code
def yX4_read : MethodName := ⟨RX4, "read", "()I"⟩
abbrev cX4_press : ByteArray := prog_1_method_12_code
def yX4_press : MethodName := ⟨RX4, "press", "(I)I"⟩
abbrev cX4_type : ByteArray := prog_1_method_13_code
def yX4_type : MethodName := ⟨RX4, "type", "(C)I"⟩
abbrev cX4_clearText : ByteArray := prog_1_method_14_code
def yX4_clearText : MethodName := ⟨RX4, "clearText", "()I"⟩
abbrev cX4_colourOf : ByteArray := prog_1_method_18_code
def yX4_colourOf : MethodName := ⟨RX4, "colourOf", "(II)I"⟩
abbrev cX4_viewOf : ByteArray := prog_1_method_19_code
def yX4_viewOf : MethodName := ⟨RX4, "viewOf", "(I)I"⟩
abbrev cX4_behind : ByteArray := prog_1_method_20_code
def yX4_behind : MethodName := ⟨RX4, "behind", "(III)I"⟩
abbrev cX4_seen : ByteArray := prog_1_method_21_code
def yX4_seen : MethodName := ⟨RX4, "seen", "(III)I"⟩
abbrev cX4_at : ByteArray := prog_1_method_22_code
def yX4_at : MethodName := ⟨RX4, "at", "(II)I"⟩
abbrev cX4_view : ByteArray := prog_1_method_23_code
def yX4_view : MethodName := ⟨RX4, "view", "(II)I"⟩
abbrev cX4_bestShift : ByteArray := prog_1_method_25_code
def yX4_bestShift : MethodName := ⟨RX4, "bestShift", "()I"⟩
abbrev cX4_ifSlice : ByteArray := prog_1_method_26_code
def yX4_ifSlice : MethodName := ⟨RX4, "ifSlice", "(II)I"⟩
abbrev cX4_count : ByteArray := prog_1_method_27_code
def yX4_count : MethodName := ⟨RX4, "count", "(I)I"⟩
abbrev cX4_isWithin : ByteArray := prog_1_method_28_code
def yX4_isWithin : MethodName := ⟨RX4, "isWithin", "(III)Z"⟩
abbrev cX4_isRidge : ByteArray := prog_1_method_29_code
def yX4_isRidge : MethodName := ⟨RX4, "isRidge", "(I)Z"⟩
abbrev cX4_isAngle : ByteArray := prog_1_method_30_code
def yX4_isAngle : MethodName := ⟨RX4, "isAngle", "(I)Z"⟩
abbrev cX4_noneForNothing : ByteArray := prog_1_method_31_code
def yX4_noneForNothing : MethodName := ⟨RX4, "noneForNothing", "(I)I"⟩
abbrev cX4_copyNumbers : ByteArray := prog_1_method_32_code
def yX4_copyNumbers : MethodName := ⟨RX4, "copyNumbers", "([I[I)V"⟩
abbrev cX4_look : ByteArray := prog_1_method_33_code
def yX4_look : MethodName := ⟨RX4, "look", "()LTiltedCards$Sight;"⟩
abbrev cX4_ghostsWithShift : ByteArray := prog_1_method_34_code
def yX4_ghostsWithShift : MethodName := ⟨RX4, "ghostsWithShift", "(I)I"⟩
def RX5 : String := "TiltedCardsModel"
def TX5 : u_T := fun k => match k with
  | _ => ("", "", "", false)
def tyX5 : Nat → FieldType := fun k => match k with
  | _ => .int
theorem nmX5 : ∀ a, a < 0 → ∀ b, b < 0 → a ≠ b → (TX5 a).2.1 ≠ (TX5 b).2.1 := by decide +kernel
theorem tyX5_ok : ∀ k, k < 0 → parseFieldDescriptor (TX5 k).2.2.1 = some (tyX5 k) := by decide +kernel
def RJ9 : String := "java/lang/Math"
def TJ9 : u_T := fun k => match k with
  | _ => ("", "", "", false)
def tyJ9 : Nat → FieldType := fun k => match k with
  | _ => .int
theorem nmJ9 : ∀ a, a < 0 → ∀ b, b < 0 → a ≠ b → (TJ9 a).2.1 ≠ (TJ9 b).2.1 := by decide +kernel
theorem tyJ9_ok : ∀ k, k < 0 → parseFieldDescriptor (TJ9 k).2.2.1 = some (tyJ9 k) := by decide +kernel
abbrev cJ9_max_7cf53 : ByteArray := prog_8_method_65_code
def yJ9_max_7cf53 : MethodName := ⟨RJ9, "max", "(II)I"⟩
abbrev cJ9_min_7cf53 : ByteArray := prog_8_method_69_code
def yJ9_min_7cf53 : MethodName := ⟨RJ9, "min", "(II)I"⟩
def RL : String := "TiltedCardsLaw"
abbrev cL_cell : ByteArray := method_2_code
def yL_cell : MethodName := ⟨RL, "cell", "([II)I"⟩
abbrev cL_up : ByteArray := method_3_code
def yL_up : MethodName := ⟨RL, "up", "(II)I"⟩
abbrev cL_there : ByteArray := method_4_code
def yL_there : MethodName := ⟨RL, "there", "(LTiltedCards;I)I"⟩
abbrev cL_colour : ByteArray := method_5_code
def yL_colour : MethodName := ⟨RL, "colour", "(I)I"⟩
abbrev cL_areSlices : ByteArray := method_6_code
def yL_areSlices : MethodName := ⟨RL, "areSlices", "(LTiltedCards;LTiltedCards;)Z"⟩
abbrev cL_isRead : ByteArray := method_7_code
def yL_isRead : MethodName := ⟨RL, "isRead", "(LTiltedCards;LTiltedCards;II)Z"⟩
abbrev cL_isStep : ByteArray := method_8_code
def yL_isStep : MethodName := ⟨RL, "isStep", "(LTiltedCards;LTiltedCards;II)Z"⟩
abbrev cL_areAlike : ByteArray := method_9_code
def yL_areAlike : MethodName := ⟨RL, "areAlike", "(LTiltedCards;LTiltedCards;)Z"⟩
abbrev cL_isWell : ByteArray := method_10_code
def yL_isWell : MethodName := ⟨RL, "isWell", "(LTiltedCards;I)Z"⟩
abbrev cL_law : ByteArray := code
def yL_law : MethodName := ⟨RL, "law", "([I)Z"⟩
abbrev vwCl : List vw_C := [(RX0, TX0, 9), (RX1, TX1, 3), (RX2, TX2, 2), (RX3, TX3, 3), (RX4, TX4, 9)]
def R_law : String := "TiltedCardsLaw"
