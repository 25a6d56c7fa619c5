-- ===== PART A: goes FIRST, ahead of the names: the tables' words, and 'selects' of the private methods out of them =====
/-- a private method of a class that the tables say can be made, by its rows of tables_1 -/
def lw_okq (q : MethodName × Nat) : Prop := (q.1.cls ≠ "java/lang/invoke/MethodHandle" ∧ q.1.cls ≠ "java/lang/invoke/VarHandle") ∧ Cond.instantiable q.1.cls q.2 ∈ tables_1 ∧ Cond.privateMethod q.1 ∈ tables_1 ∧ Cond.instanceMethod q.1 ∈ tables_1
theorem lw_p0 : lw_okq (⟨"TiltedCards", "findBestSlices", "()V"⟩, 9) := ⟨⟨by decide +kernel, by decide +kernel⟩, List.mem_of_getElem? (i := 9) (by decide +kernel), List.mem_of_getElem? (i := 252) (by decide +kernel), List.mem_of_getElem? (i := 253) (by decide +kernel)⟩
theorem lw_p1 : lw_okq (⟨"TiltedCards", "look", "()LTiltedCards$Sight;"⟩, 9) := ⟨⟨by decide +kernel, by decide +kernel⟩, List.mem_of_getElem? (i := 9) (by decide +kernel), List.mem_of_getElem? (i := 332) (by decide +kernel), List.mem_of_getElem? (i := 333) (by decide +kernel)⟩
theorem lw_p2 : lw_okq (⟨"TiltedCards", "ghostsWithShift", "(I)I"⟩, 9) := ⟨⟨by decide +kernel, by decide +kernel⟩, List.mem_of_getElem? (i := 9) (by decide +kernel), List.mem_of_getElem? (i := 502) (by decide +kernel), List.mem_of_getElem? (i := 503) (by decide +kernel)⟩
theorem lw_p3 : lw_okq (⟨"TiltedCardsModel", "ordersAsFirst", "()V"⟩, 15) := ⟨⟨by decide +kernel, by decide +kernel⟩, List.mem_of_getElem? (i := 518) (by decide +kernel), List.mem_of_getElem? (i := 524) (by decide +kernel), List.mem_of_getElem? (i := 525) (by decide +kernel)⟩
theorem lw_p4 : lw_okq (⟨"TiltedCardsModel", "isView", "(I)Z"⟩, 15) := ⟨⟨by decide +kernel, by decide +kernel⟩, List.mem_of_getElem? (i := 518) (by decide +kernel), List.mem_of_getElem? (i := 578) (by decide +kernel), List.mem_of_getElem? (i := 579) (by decide +kernel)⟩
theorem lw_p5 : lw_okq (⟨"TiltedCardsModel", "colourAt", "(II)I"⟩, 15) := ⟨⟨by decide +kernel, by decide +kernel⟩, List.mem_of_getElem? (i := 518) (by decide +kernel), List.mem_of_getElem? (i := 590) (by decide +kernel), List.mem_of_getElem? (i := 591) (by decide +kernel)⟩
theorem lw_p6 : lw_okq (⟨"TiltedCardsModel", "remember", "()V"⟩, 15) := ⟨⟨by decide +kernel, by decide +kernel⟩, List.mem_of_getElem? (i := 518) (by decide +kernel), List.mem_of_getElem? (i := 594) (by decide +kernel), List.mem_of_getElem? (i := 595) (by decide +kernel)⟩
theorem lw_p7 : lw_okq (⟨"TiltedCardsModel", "acted", "(I)I"⟩, 15) := ⟨⟨by decide +kernel, by decide +kernel⟩, List.mem_of_getElem? (i := 518) (by decide +kernel), List.mem_of_getElem? (i := 598) (by decide +kernel), List.mem_of_getElem? (i := 599) (by decide +kernel)⟩
theorem lw_p8 : lw_okq (⟨"TiltedCardsModel", "settles", "(IIZ)I"⟩, 15) := ⟨⟨by decide +kernel, by decide +kernel⟩, List.mem_of_getElem? (i := 518) (by decide +kernel), List.mem_of_getElem? (i := 620) (by decide +kernel), List.mem_of_getElem? (i := 621) (by decide +kernel)⟩
theorem lw_p9 : lw_okq (⟨"TiltedCardsModel", "isSlice", "(I)Z"⟩, 15) := ⟨⟨by decide +kernel, by decide +kernel⟩, List.mem_of_getElem? (i := 518) (by decide +kernel), List.mem_of_getElem? (i := 638) (by decide +kernel), List.mem_of_getElem? (i := 639) (by decide +kernel)⟩
theorem lw_p10 : lw_okq (⟨"TiltedCardsModel", "findsOrder", "()V"⟩, 15) := ⟨⟨by decide +kernel, by decide +kernel⟩, List.mem_of_getElem? (i := 518) (by decide +kernel), List.mem_of_getElem? (i := 646) (by decide +kernel), List.mem_of_getElem? (i := 647) (by decide +kernel)⟩
theorem lw_p11 : lw_okq (⟨"TiltedCardsModel", "laysSlots", "()V"⟩, 15) := ⟨⟨by decide +kernel, by decide +kernel⟩, List.mem_of_getElem? (i := 518) (by decide +kernel), List.mem_of_getElem? (i := 650) (by decide +kernel), List.mem_of_getElem? (i := 651) (by decide +kernel)⟩
theorem lw_p12 : lw_okq (⟨"TiltedCardsModel", "placeSeen", "(II)I"⟩, 15) := ⟨⟨by decide +kernel, by decide +kernel⟩, List.mem_of_getElem? (i := 518) (by decide +kernel), List.mem_of_getElem? (i := 654) (by decide +kernel), List.mem_of_getElem? (i := 655) (by decide +kernel)⟩
theorem lw_p13 : lw_okq (⟨"TiltedCardsModel", "dueAt", "(II)I"⟩, 15) := ⟨⟨by decide +kernel, by decide +kernel⟩, List.mem_of_getElem? (i := 518) (by decide +kernel), List.mem_of_getElem? (i := 658) (by decide +kernel), List.mem_of_getElem? (i := 659) (by decide +kernel)⟩
theorem lw_p14 : lw_okq (⟨"TiltedCardsModel", "laysOrder", "(I)Z"⟩, 15) := ⟨⟨by decide +kernel, by decide +kernel⟩, List.mem_of_getElem? (i := 518) (by decide +kernel), List.mem_of_getElem? (i := 663) (by decide +kernel), List.mem_of_getElem? (i := 664) (by decide +kernel)⟩
theorem lw_p15 : lw_okq (⟨"TiltedCardsModel", "ghosts", "()I"⟩, 15) := ⟨⟨by decide +kernel, by decide +kernel⟩, List.mem_of_getElem? (i := 518) (by decide +kernel), List.mem_of_getElem? (i := 667) (by decide +kernel), List.mem_of_getElem? (i := 668) (by decide +kernel)⟩
def lw_privs_1 : List (MethodName × Nat) := [(⟨"TiltedCards", "findBestSlices", "()V"⟩, 9), (⟨"TiltedCards", "look", "()LTiltedCards$Sight;"⟩, 9), (⟨"TiltedCards", "ghostsWithShift", "(I)I"⟩, 9), (⟨"TiltedCardsModel", "ordersAsFirst", "()V"⟩, 15), (⟨"TiltedCardsModel", "isView", "(I)Z"⟩, 15), (⟨"TiltedCardsModel", "colourAt", "(II)I"⟩, 15), (⟨"TiltedCardsModel", "remember", "()V"⟩, 15), (⟨"TiltedCardsModel", "acted", "(I)I"⟩, 15), (⟨"TiltedCardsModel", "settles", "(IIZ)I"⟩, 15), (⟨"TiltedCardsModel", "isSlice", "(I)Z"⟩, 15), (⟨"TiltedCardsModel", "findsOrder", "()V"⟩, 15), (⟨"TiltedCardsModel", "laysSlots", "()V"⟩, 15), (⟨"TiltedCardsModel", "placeSeen", "(II)I"⟩, 15), (⟨"TiltedCardsModel", "dueAt", "(II)I"⟩, 15), (⟨"TiltedCardsModel", "laysOrder", "(I)Z"⟩, 15), (⟨"TiltedCardsModel", "ghosts", "()I"⟩, 15)]
theorem lw_r1 : ∀ q ∈ lw_privs_1, lw_okq q := List.forall_mem_cons.mpr ⟨lw_p0, List.forall_mem_cons.mpr ⟨lw_p1, List.forall_mem_cons.mpr ⟨lw_p2, List.forall_mem_cons.mpr ⟨lw_p3, List.forall_mem_cons.mpr ⟨lw_p4, List.forall_mem_cons.mpr ⟨lw_p5, List.forall_mem_cons.mpr ⟨lw_p6, List.forall_mem_cons.mpr ⟨lw_p7, List.forall_mem_cons.mpr ⟨lw_p8, List.forall_mem_cons.mpr ⟨lw_p9, List.forall_mem_cons.mpr ⟨lw_p10, List.forall_mem_cons.mpr ⟨lw_p11, List.forall_mem_cons.mpr ⟨lw_p12, List.forall_mem_cons.mpr ⟨lw_p13, List.forall_mem_cons.mpr ⟨lw_p14, List.forall_mem_cons.mpr ⟨lw_p15, fun _ h => absurd h List.not_mem_nil⟩⟩⟩⟩⟩⟩⟩⟩⟩⟩⟩⟩⟩⟩⟩⟩
theorem lw_p16 : lw_okq (⟨"TiltedCardsModel", "ghostsAt", "(I)I"⟩, 15) := ⟨⟨by decide +kernel, by decide +kernel⟩, List.mem_of_getElem? (i := 518) (by decide +kernel), List.mem_of_getElem? (i := 671) (by decide +kernel), List.mem_of_getElem? (i := 672) (by decide +kernel)⟩
theorem lw_p17 : lw_okq (⟨"TiltedCardsModel", "isGhost", "(II)Z"⟩, 15) := ⟨⟨by decide +kernel, by decide +kernel⟩, List.mem_of_getElem? (i := 518) (by decide +kernel), List.mem_of_getElem? (i := 675) (by decide +kernel), List.mem_of_getElem? (i := 676) (by decide +kernel)⟩
theorem lw_p18 : lw_okq (⟨"TiltedCardsModel", "viewSeen", "(II)I"⟩, 15) := ⟨⟨by decide +kernel, by decide +kernel⟩, List.mem_of_getElem? (i := 518) (by decide +kernel), List.mem_of_getElem? (i := 679) (by decide +kernel), List.mem_of_getElem? (i := 680) (by decide +kernel)⟩
theorem lw_p19 : lw_okq (⟨"TiltedCardsModel", "ghostsNow", "()I"⟩, 15) := ⟨⟨by decide +kernel, by decide +kernel⟩, List.mem_of_getElem? (i := 518) (by decide +kernel), List.mem_of_getElem? (i := 683) (by decide +kernel), List.mem_of_getElem? (i := 684) (by decide +kernel)⟩
theorem lw_p20 : lw_okq (⟨"TiltedCardsModel", "whole", "(Z)I"⟩, 15) := ⟨⟨by decide +kernel, by decide +kernel⟩, List.mem_of_getElem? (i := 518) (by decide +kernel), List.mem_of_getElem? (i := 693) (by decide +kernel), List.mem_of_getElem? (i := 694) (by decide +kernel)⟩
theorem lw_p21 : lw_okq (⟨"TiltedCardsModel", "wholeAngles", "(I)I"⟩, 15) := ⟨⟨by decide +kernel, by decide +kernel⟩, List.mem_of_getElem? (i := 518) (by decide +kernel), List.mem_of_getElem? (i := 697) (by decide +kernel), List.mem_of_getElem? (i := 698) (by decide +kernel)⟩
theorem lw_p22 : lw_okq (⟨"TiltedCardsModel", "showing", "(II)I"⟩, 15) := ⟨⟨by decide +kernel, by decide +kernel⟩, List.mem_of_getElem? (i := 518) (by decide +kernel), List.mem_of_getElem? (i := 701) (by decide +kernel), List.mem_of_getElem? (i := 702) (by decide +kernel)⟩
theorem lw_p23 : lw_okq (⟨"TiltedCardsModel", "fault", "()I"⟩, 15) := ⟨⟨by decide +kernel, by decide +kernel⟩, List.mem_of_getElem? (i := 518) (by decide +kernel), List.mem_of_getElem? (i := 717) (by decide +kernel), List.mem_of_getElem? (i := 718) (by decide +kernel)⟩
theorem lw_p24 : lw_okq (⟨"TiltedCardsModel", "readsDigits", "(II)I"⟩, 15) := ⟨⟨by decide +kernel, by decide +kernel⟩, List.mem_of_getElem? (i := 518) (by decide +kernel), List.mem_of_getElem? (i := 721) (by decide +kernel), List.mem_of_getElem? (i := 722) (by decide +kernel)⟩
theorem lw_p25 : lw_okq (⟨"TiltedCardsModel", "isHere", "(II)Z"⟩, 15) := ⟨⟨by decide +kernel, by decide +kernel⟩, List.mem_of_getElem? (i := 518) (by decide +kernel), List.mem_of_getElem? (i := 725) (by decide +kernel), List.mem_of_getElem? (i := 726) (by decide +kernel)⟩
theorem lw_p26 : lw_okq (⟨"TiltedCardsModel", "takes", "(I)Z"⟩, 15) := ⟨⟨by decide +kernel, by decide +kernel⟩, List.mem_of_getElem? (i := 518) (by decide +kernel), List.mem_of_getElem? (i := 729) (by decide +kernel), List.mem_of_getElem? (i := 730) (by decide +kernel)⟩
theorem lw_p27 : lw_okq (⟨"TiltedCardsModel", "dueOf", "(II)I"⟩, 15) := ⟨⟨by decide +kernel, by decide +kernel⟩, List.mem_of_getElem? (i := 518) (by decide +kernel), List.mem_of_getElem? (i := 757) (by decide +kernel), List.mem_of_getElem? (i := 758) (by decide +kernel)⟩
theorem lw_p28 : lw_okq (⟨"TiltedCardsModel", "wholeAt", "(I)I"⟩, 15) := ⟨⟨by decide +kernel, by decide +kernel⟩, List.mem_of_getElem? (i := 518) (by decide +kernel), List.mem_of_getElem? (i := 773) (by decide +kernel), List.mem_of_getElem? (i := 774) (by decide +kernel)⟩
theorem lw_p29 : lw_okq (⟨"TiltedCardsModel", "mostAt", "(I)I"⟩, 15) := ⟨⟨by decide +kernel, by decide +kernel⟩, List.mem_of_getElem? (i := 518) (by decide +kernel), List.mem_of_getElem? (i := 777) (by decide +kernel), List.mem_of_getElem? (i := 778) (by decide +kernel)⟩
theorem lw_p30 : lw_okq (⟨"TiltedCardsModel", "slicesOf", "(I)I"⟩, 15) := ⟨⟨by decide +kernel, by decide +kernel⟩, List.mem_of_getElem? (i := 518) (by decide +kernel), List.mem_of_getElem? (i := 785) (by decide +kernel), List.mem_of_getElem? (i := 786) (by decide +kernel)⟩
theorem lw_p31 : lw_okq (⟨"TiltedCardsModel", "clearest", "(I)I"⟩, 15) := ⟨⟨by decide +kernel, by decide +kernel⟩, List.mem_of_getElem? (i := 518) (by decide +kernel), List.mem_of_getElem? (i := 789) (by decide +kernel), List.mem_of_getElem? (i := 790) (by decide +kernel)⟩
def lw_privs_2 : List (MethodName × Nat) := [(⟨"TiltedCardsModel", "ghostsAt", "(I)I"⟩, 15), (⟨"TiltedCardsModel", "isGhost", "(II)Z"⟩, 15), (⟨"TiltedCardsModel", "viewSeen", "(II)I"⟩, 15), (⟨"TiltedCardsModel", "ghostsNow", "()I"⟩, 15), (⟨"TiltedCardsModel", "whole", "(Z)I"⟩, 15), (⟨"TiltedCardsModel", "wholeAngles", "(I)I"⟩, 15), (⟨"TiltedCardsModel", "showing", "(II)I"⟩, 15), (⟨"TiltedCardsModel", "fault", "()I"⟩, 15), (⟨"TiltedCardsModel", "readsDigits", "(II)I"⟩, 15), (⟨"TiltedCardsModel", "isHere", "(II)Z"⟩, 15), (⟨"TiltedCardsModel", "takes", "(I)Z"⟩, 15), (⟨"TiltedCardsModel", "dueOf", "(II)I"⟩, 15), (⟨"TiltedCardsModel", "wholeAt", "(I)I"⟩, 15), (⟨"TiltedCardsModel", "mostAt", "(I)I"⟩, 15), (⟨"TiltedCardsModel", "slicesOf", "(I)I"⟩, 15), (⟨"TiltedCardsModel", "clearest", "(I)I"⟩, 15)]
theorem lw_r2 : ∀ q ∈ lw_privs_2, lw_okq q := List.forall_mem_cons.mpr ⟨lw_p16, List.forall_mem_cons.mpr ⟨lw_p17, List.forall_mem_cons.mpr ⟨lw_p18, List.forall_mem_cons.mpr ⟨lw_p19, List.forall_mem_cons.mpr ⟨lw_p20, List.forall_mem_cons.mpr ⟨lw_p21, List.forall_mem_cons.mpr ⟨lw_p22, List.forall_mem_cons.mpr ⟨lw_p23, List.forall_mem_cons.mpr ⟨lw_p24, List.forall_mem_cons.mpr ⟨lw_p25, List.forall_mem_cons.mpr ⟨lw_p26, List.forall_mem_cons.mpr ⟨lw_p27, List.forall_mem_cons.mpr ⟨lw_p28, List.forall_mem_cons.mpr ⟨lw_p29, List.forall_mem_cons.mpr ⟨lw_p30, List.forall_mem_cons.mpr ⟨lw_p31, fun _ h => absurd h List.not_mem_nil⟩⟩⟩⟩⟩⟩⟩⟩⟩⟩⟩⟩⟩⟩⟩⟩
def lw_privs : List (MethodName × Nat) := lw_privs_1 ++ (lw_privs_2)
def lw_tbl : List Cond := k2_sels lw_privs ++ tables_1
theorem lw_privs_ok : ∀ q ∈ lw_privs, lw_okq q := by
  show ∀ q ∈ lw_privs_1 ++ (lw_privs_2), lw_okq q
  exact List.forall_mem_append.mpr ⟨lw_r1, lw_r2⟩

-- ===== end of PART A =====
def RX0 : String := "TiltedCards$Card"
def TX0 : u_T := fun k => match k with
  | 0 => ("TiltedCards$Card", "views", "I", false)
  | 1 => ("TiltedCards$Card", "colours", "[I", true)
  | 2 => ("TiltedCards$Card", "pitch", "I", false)
  | 3 => ("TiltedCards$Card", "sliceViews", "[I", true)
  | 4 => ("TiltedCards$Card", "shift", "I", false)
  | 5 => ("TiltedCards$Card", "lean", "I", false)
  | 6 => ("TiltedCards$Card", "pressed", "I", false)
  | 7 => ("TiltedCards$Card", "good", "I", false)
  | _ => ("TiltedCards$Card", "cost", "I", false)
def tyX0 : Nat → FieldType := fun k => match k with
  | 0 => .int
  | 1 => .array .int
  | 2 => .int
  | 3 => .array .int
  | 4 => .int
  | 5 => .int
  | 6 => .int
  | 7 => .int
  | _ => .int
theorem nmX0 : ∀ a, a < 9 → ∀ b, b < 9 → a ≠ b → (TX0 a).2.1 ≠ (TX0 b).2.1 := by decide +kernel
theorem tyX0_ok : ∀ k, k < 9 → parseFieldDescriptor (TX0 k).2.2.1 = some (tyX0 k) := by decide +kernel
abbrev cX0_init : ByteArray := prog_2_method_1_code
def yX0_init : MethodName := ⟨RX0, "<init>", "()V"⟩
abbrev cX0_copyFrom : ByteArray := prog_2_method_2_code
def yX0_copyFrom : MethodName := ⟨RX0, "copyFrom", "(LTiltedCards$Card;)V"⟩
abbrev cX0_hasView : ByteArray := prog_2_method_3_code
def yX0_hasView : MethodName := ⟨RX0, "hasView", "(I)Z"⟩
abbrev cX0_hasSlice : ByteArray := prog_2_method_4_code
def yX0_hasSlice : MethodName := ⟨RX0, "hasSlice", "(I)Z"⟩
abbrev cX0_colourIn : ByteArray := prog_2_method_5_code
def yX0_colourIn : MethodName := ⟨RX0, "colourIn", "(II)I"⟩
abbrev cX0_paint : ByteArray := prog_2_method_6_code
def yX0_paint : MethodName := ⟨RX0, "paint", "(III)V"⟩
abbrev cX0_appendView : ByteArray := prog_2_method_7_code
def yX0_appendView : MethodName := ⟨RX0, "appendView", "()V"⟩
abbrev cX0_dropView : ByteArray := prog_2_method_8_code
def yX0_dropView : MethodName := ⟨RX0, "dropView", "(I)V"⟩
abbrev cX0_exchangeViews : ByteArray := prog_2_method_9_code
def yX0_exchangeViews : MethodName := ⟨RX0, "exchangeViews", "(II)I"⟩
abbrev cX0_resetSlices : ByteArray := prog_2_method_10_code
def yX0_resetSlices : MethodName := ⟨RX0, "resetSlices", "()V"⟩
abbrev cX0_viewDue : ByteArray := prog_2_method_11_code
def yX0_viewDue : MethodName := ⟨RX0, "viewDue", "(I)I"⟩
abbrev cX0_putSlice : ByteArray := prog_2_method_12_code
def yX0_putSlice : MethodName := ⟨RX0, "putSlice", "(II)V"⟩
abbrev cX0_putSlices : ByteArray := prog_2_method_13_code
def yX0_putSlices : MethodName := ⟨RX0, "putSlices", "([I)V"⟩
abbrev cX0_hasSlices : ByteArray := prog_2_method_14_code
def yX0_hasSlices : MethodName := ⟨RX0, "hasSlices", "([I)Z"⟩
abbrev cX0_slicesShowing : ByteArray := prog_2_method_15_code
def yX0_slicesShowing : MethodName := ⟨RX0, "slicesShowing", "(I)I"⟩
abbrev cX0_showsEachView : ByteArray := prog_2_method_16_code
def yX0_showsEachView : MethodName := ⟨RX0, "showsEachView", "()Z"⟩
abbrev cX0_startSlices : ByteArray := prog_2_method_17_code
def yX0_startSlices : MethodName := ⟨RX0, "startSlices", "()V"⟩
abbrev cX0_nextSlices : ByteArray := prog_2_method_18_code
def yX0_nextSlices : MethodName := ⟨RX0, "nextSlices", "()Z"⟩
abbrev cX0_highestViewBefore : ByteArray := prog_2_method_19_code
def yX0_highestViewBefore : MethodName := ⟨RX0, "highestViewBefore", "(I)I"⟩
abbrev cX0_spotBehind : ByteArray := prog_2_method_20_code
def yX0_spotBehind : MethodName := ⟨RX0, "spotBehind", "(II)I"⟩
abbrev cX0_sliceBehind : ByteArray := prog_2_method_21_code
def yX0_sliceBehind : MethodName := ⟨RX0, "sliceBehind", "(II)I"⟩
abbrev cX0_ridgeBehind : ByteArray := prog_2_method_22_code
def yX0_ridgeBehind : MethodName := ⟨RX0, "ridgeBehind", "(II)I"⟩
abbrev cX0_viewBehind : ByteArray := prog_2_method_23_code
def yX0_viewBehind : MethodName := ⟨RX0, "viewBehind", "(II)I"⟩
abbrev cX0_colourBehind : ByteArray := prog_2_method_24_code
def yX0_colourBehind : MethodName := ⟨RX0, "colourBehind", "(II)I"⟩
abbrev cX0_stepAt : ByteArray := prog_2_method_25_code
def yX0_stepAt : MethodName := ⟨RX0, "stepAt", "(I)I"⟩
abbrev cX0_placeSeen : ByteArray := prog_2_method_26_code
def yX0_placeSeen : MethodName := ⟨RX0, "placeSeen", "(II)I"⟩
def RX1 : String := "TiltedCards$CardText"
def TX1 : u_T := fun k => match k with
  | 0 => ("TiltedCards$CardText", "characters", "[C", true)
  | 1 => ("TiltedCards$CardText", "length", "I", false)
  | _ => ("TiltedCards$CardText", "colon", "I", false)
def tyX1 : Nat → FieldType := fun k => match k with
  | 0 => .array .char
  | 1 => .int
  | _ => .int
theorem nmX1 : ∀ a, a < 3 → ∀ b, b < 3 → a ≠ b → (TX1 a).2.1 ≠ (TX1 b).2.1 := by decide +kernel
theorem tyX1_ok : ∀ k, k < 3 → parseFieldDescriptor (TX1 k).2.2.1 = some (tyX1 k) := by decide +kernel
abbrev cX1_init : ByteArray := prog_3_method_1_code
def yX1_init : MethodName := ⟨RX1, "<init>", "()V"⟩
abbrev cX1_isFull : ByteArray := prog_3_method_2_code
def yX1_isFull : MethodName := ⟨RX1, "isFull", "()Z"⟩
abbrev cX1_append : ByteArray := prog_3_method_3_code
def yX1_append : MethodName := ⟨RX1, "append", "(C)V"⟩
abbrev cX1_empty : ByteArray := prog_3_method_4_code
def yX1_empty : MethodName := ⟨RX1, "empty", "()V"⟩
abbrev cX1_charAt : ByteArray := prog_3_method_5_code
def yX1_charAt : MethodName := ⟨RX1, "charAt", "(I)C"⟩
abbrev cX1_digitAt : ByteArray := prog_3_method_6_code
def yX1_digitAt : MethodName := ⟨RX1, "digitAt", "(I)I"⟩
abbrev cX1_findFault : ByteArray := prog_3_method_7_code
def yX1_findFault : MethodName := ⟨RX1, "findFault", "()I"⟩
abbrev cX1_isAllowed : ByteArray := prog_3_method_8_code
def yX1_isAllowed : MethodName := ⟨RX1, "isAllowed", "(I)Z"⟩
abbrev cX1_isEnded : ByteArray := prog_3_method_9_code
def yX1_isEnded : MethodName := ⟨RX1, "isEnded", "()Z"⟩
abbrev cX1_viewsUpTo : ByteArray := prog_3_method_10_code
def yX1_viewsUpTo : MethodName := ⟨RX1, "viewsUpTo", "(I)I"⟩
abbrev cX1_writeTo : ByteArray := prog_3_method_11_code
def yX1_writeTo : MethodName := ⟨RX1, "writeTo", "(LTiltedCards$Card;)V"⟩
def RX2 : String := "TiltedCards$History"
def TX2 : u_T := fun k => match k with
  | 0 => ("TiltedCards$History", "states", "[LTiltedCards$Card;", true)
  | _ => ("TiltedCards$History", "size", "I", false)
def tyX2 : Nat → FieldType := fun k => match k with
  | 0 => .array (.object "TiltedCards$Card")
  | _ => .int
theorem nmX2 : ∀ a, a < 2 → ∀ b, b < 2 → a ≠ b → (TX2 a).2.1 ≠ (TX2 b).2.1 := by decide +kernel
theorem tyX2_ok : ∀ k, k < 2 → parseFieldDescriptor (TX2 k).2.2.1 = some (tyX2 k) := by decide +kernel
abbrev cX2_init : ByteArray := prog_4_method_1_code
def yX2_init : MethodName := ⟨RX2, "<init>", "()V"⟩
abbrev cX2_record : ByteArray := prog_4_method_2_code
def yX2_record : MethodName := ⟨RX2, "record", "(LTiltedCards$Card;)V"⟩
abbrev cX2_dropOldest : ByteArray := prog_4_method_3_code
def yX2_dropOldest : MethodName := ⟨RX2, "dropOldest", "()V"⟩
abbrev cX2_takeLatest : ByteArray := prog_4_method_4_code
def yX2_takeLatest : MethodName := ⟨RX2, "takeLatest", "(LTiltedCards$Card;)V"⟩
abbrev cX2_stateAt : ByteArray := prog_4_method_5_code
def yX2_stateAt : MethodName := ⟨RX2, "stateAt", "(I)LTiltedCards$Card;"⟩
def RX3 : String := "TiltedCards$Sight"
def TX3 : u_T := fun k => match k with
  | 0 => ("TiltedCards$Sight", "card", "LTiltedCards$Card;", true)
  | 1 => ("TiltedCards$Sight", "slicesSeen", "[I", true)
  | _ => ("TiltedCards$Sight", "anglesOfStep", "[I", true)
def tyX3 : Nat → FieldType := fun k => match k with
  | 0 => .object "TiltedCards$Card"
  | 1 => .array .int
  | _ => .array .int
theorem nmX3 : ∀ a, a < 3 → ∀ b, b < 3 → a ≠ b → (TX3 a).2.1 ≠ (TX3 b).2.1 := by decide +kernel
theorem tyX3_ok : ∀ k, k < 3 → parseFieldDescriptor (TX3 k).2.2.1 = some (tyX3 k) := by decide +kernel
abbrev cX3_init : ByteArray := prog_5_method_1_code
def yX3_init : MethodName := ⟨RX3, "<init>", "()V"⟩
abbrev cX3_aim : ByteArray := prog_5_method_2_code
def yX3_aim : MethodName := ⟨RX3, "aim", "()V"⟩
abbrev cX3_viewSeen : ByteArray := prog_5_method_3_code
def yX3_viewSeen : MethodName := ⟨RX3, "viewSeen", "(II)I"⟩
abbrev cX3_isGhost : ByteArray := prog_5_method_4_code
def yX3_isGhost : MethodName := ⟨RX3, "isGhost", "(II)Z"⟩
abbrev cX3_ghosts : ByteArray := prog_5_method_5_code
def yX3_ghosts : MethodName := ⟨RX3, "ghosts", "(I)I"⟩
abbrev cX3_ghostsAtAllAngles : ByteArray := prog_5_method_6_code
def yX3_ghostsAtAllAngles : MethodName := ⟨RX3, "ghostsAtAllAngles", "()I"⟩
abbrev cX3_ridgesShowing : ByteArray := prog_5_method_7_code
def yX3_ridgesShowing : MethodName := ⟨RX3, "ridgesShowing", "(II)I"⟩
abbrev cX3_wholeView : ByteArray := prog_5_method_8_code
def yX3_wholeView : MethodName := ⟨RX3, "wholeView", "(I)I"⟩
abbrev cX3_mostShownView : ByteArray := prog_5_method_9_code
def yX3_mostShownView : MethodName := ⟨RX3, "mostShownView", "(I)I"⟩
abbrev cX3_mostShownRidges : ByteArray := prog_5_method_10_code
def yX3_mostShownRidges : MethodName := ⟨RX3, "mostShownRidges", "(I)I"⟩
abbrev cX3_anglesShowingWhole : ByteArray := prog_5_method_11_code
def yX3_anglesShowingWhole : MethodName := ⟨RX3, "anglesShowingWhole", "(I)I"⟩
abbrev cX3_anglesShowingAnyWhole : ByteArray := prog_5_method_12_code
def yX3_anglesShowingAnyWhole : MethodName := ⟨RX3, "anglesShowingAnyWhole", "()I"⟩
abbrev cX3_wholeViews : ByteArray := prog_5_method_13_code
def yX3_wholeViews : MethodName := ⟨RX3, "wholeViews", "()I"⟩
abbrev cX3_clearestAngle : ByteArray := prog_5_method_14_code
def yX3_clearestAngle : MethodName := ⟨RX3, "clearestAngle", "(I)I"⟩
def RX4 : String := "TiltedCards"
def TX4 : u_T := fun k => match k with
  | 0 => ("TiltedCards", "sight", "LTiltedCards$Sight;", true)
  | 1 => ("TiltedCards", "card", "LTiltedCards$Card;", true)
  | 2 => ("TiltedCards", "trialSight", "LTiltedCards$Sight;", true)
  | 3 => ("TiltedCards", "trial", "LTiltedCards$Card;", true)
  | 4 => ("TiltedCards", "bestSlices", "[I", true)
  | 5 => ("TiltedCards", "history", "LTiltedCards$History;", true)
  | 6 => ("TiltedCards", "snapshot", "LTiltedCards$Card;", true)
  | 7 => ("TiltedCards", "hasSnapshot", "Z", false)
  | _ => ("TiltedCards", "text", "LTiltedCards$CardText;", true)
def tyX4 : Nat → FieldType := fun k => match k with
  | 0 => .object "TiltedCards$Sight"
  | 1 => .object "TiltedCards$Card"
  | 2 => .object "TiltedCards$Sight"
  | 3 => .object "TiltedCards$Card"
  | 4 => .array .int
  | 5 => .object "TiltedCards$History"
  | 6 => .object "TiltedCards$Card"
  | 7 => .boolean
  | _ => .object "TiltedCards$CardText"
theorem nmX4 : ∀ a, a < 9 → ∀ b, b < 9 → a ≠ b → (TX4 a).2.1 ≠ (TX4 b).2.1 := by decide +kernel
theorem tyX4_ok : ∀ k, k < 9 → parseFieldDescriptor (TX4 k).2.2.1 = some (tyX4 k) := by decide +kernel
abbrev cX4_init : ByteArray := prog_1_method_1_code
def yX4_init : MethodName := ⟨RX4, "<init>", "()V"⟩
abbrev cX4_colour : ByteArray := prog_1_method_2_code
def yX4_colour : MethodName := ⟨RX4, "colour", "(III)I"⟩
abbrev cX4_addView : ByteArray := prog_1_method_3_code
def yX4_addView : MethodName := ⟨RX4, "addView", "()I"⟩
abbrev cX4_removeView : ByteArray := prog_1_method_4_code
def yX4_removeView : MethodName := ⟨RX4, "removeView", "(I)I"⟩
abbrev cX4_swap : ByteArray := prog_1_method_5_code
def yX4_swap : MethodName := ⟨RX4, "swap", "(II)I"⟩
abbrev cX4_setPitch : ByteArray := prog_1_method_6_code
def yX4_setPitch : MethodName := ⟨RX4, "setPitch", "(I)I"⟩
abbrev cX4_slice : ByteArray := prog_1_method_7_code
def yX4_slice : MethodName := ⟨RX4, "slice", "(II)I"⟩
abbrev cX4_setShift : ByteArray := prog_1_method_8_code
def yX4_setShift : MethodName := ⟨RX4, "setShift", "(I)I"⟩
abbrev cX4_setLean : ByteArray := prog_1_method_9_code
def yX4_setLean : MethodName := ⟨RX4, "setLean", "(I)I"⟩
abbrev cX4_order : ByteArray := prog_1_method_10_code
def yX4_order : MethodName := ⟨RX4, "order", "()I"⟩
abbrev cX4_read : ByteArray := prog_1_method_11_code
def yX4_read : MethodName := ⟨RX4, "read", "()I"⟩
abbrev cX4_press : ByteArray := prog_1_method_12_code
def yX4_press : MethodName := ⟨RX4, "press", "(I)I"⟩
abbrev cX4_type : ByteArray := prog_1_method_13_code
def yX4_type : MethodName := ⟨RX4, "type", "(C)I"⟩
abbrev cX4_clearText : ByteArray := prog_1_method_14_code
def yX4_clearText : MethodName := ⟨RX4, "clearText", "()I"⟩
abbrev cX4_undo : ByteArray := prog_1_method_15_code
def yX4_undo : MethodName := ⟨RX4, "undo", "()I"⟩
abbrev cX4_keep : ByteArray := prog_1_method_16_code
def yX4_keep : MethodName := ⟨RX4, "keep", "()I"⟩
abbrev cX4_restore : ByteArray := prog_1_method_17_code
def yX4_restore : MethodName := ⟨RX4, "restore", "()I"⟩
abbrev cX4_colourOf : ByteArray := prog_1_method_18_code
def yX4_colourOf : MethodName := ⟨RX4, "colourOf", "(II)I"⟩
abbrev cX4_viewOf : ByteArray := prog_1_method_19_code
def yX4_viewOf : MethodName := ⟨RX4, "viewOf", "(I)I"⟩
abbrev cX4_behind : ByteArray := prog_1_method_20_code
def yX4_behind : MethodName := ⟨RX4, "behind", "(III)I"⟩
abbrev cX4_seen : ByteArray := prog_1_method_21_code
def yX4_seen : MethodName := ⟨RX4, "seen", "(III)I"⟩
abbrev cX4_at : ByteArray := prog_1_method_22_code
def yX4_at : MethodName := ⟨RX4, "at", "(II)I"⟩
abbrev cX4_view : ByteArray := prog_1_method_23_code
def yX4_view : MethodName := ⟨RX4, "view", "(II)I"⟩
abbrev cX4_bestOrder : ByteArray := prog_1_method_24_code
def yX4_bestOrder : MethodName := ⟨RX4, "bestOrder", "(I)I"⟩
abbrev cX4_bestShift : ByteArray := prog_1_method_25_code
def yX4_bestShift : MethodName := ⟨RX4, "bestShift", "()I"⟩
abbrev cX4_ifSlice : ByteArray := prog_1_method_26_code
def yX4_ifSlice : MethodName := ⟨RX4, "ifSlice", "(II)I"⟩
abbrev cX4_count : ByteArray := prog_1_method_27_code
def yX4_count : MethodName := ⟨RX4, "count", "(I)I"⟩
abbrev cX4_isWithin : ByteArray := prog_1_method_28_code
def yX4_isWithin : MethodName := ⟨RX4, "isWithin", "(III)Z"⟩
abbrev cX4_isRidge : ByteArray := prog_1_method_29_code
def yX4_isRidge : MethodName := ⟨RX4, "isRidge", "(I)Z"⟩
abbrev cX4_isAngle : ByteArray := prog_1_method_30_code
def yX4_isAngle : MethodName := ⟨RX4, "isAngle", "(I)Z"⟩
abbrev cX4_noneForNothing : ByteArray := prog_1_method_31_code
def yX4_noneForNothing : MethodName := ⟨RX4, "noneForNothing", "(I)I"⟩
abbrev cX4_copyNumbers : ByteArray := prog_1_method_32_code
def yX4_copyNumbers : MethodName := ⟨RX4, "copyNumbers", "([I[I)V"⟩
abbrev cX4_look : ByteArray := prog_1_method_33_code
def yX4_look : MethodName := ⟨RX4, "look", "()LTiltedCards$Sight;"⟩
abbrev cX4_ghostsWithShift : ByteArray := prog_1_method_34_code
def yX4_ghostsWithShift : MethodName := ⟨RX4, "ghostsWithShift", "(I)I"⟩
abbrev cX4_findBestSlices : ByteArray := prog_1_method_35_code
def yX4_findBestSlices : MethodName := ⟨RX4, "findBestSlices", "()V"⟩
def RX5 : String := "TiltedCardsModel"
def TX5 : u_T := fun k => match k with
  | 0 => ("TiltedCardsModel", "all", "[I", true)
  | 1 => ("TiltedCardsModel", "kept", "[I", true)
  | 2 => ("TiltedCardsModel", "history", "[I", true)
  | 3 => ("TiltedCardsModel", "historyLong", "I", false)
  | 4 => ("TiltedCardsModel", "snapshot", "[I", true)
  | 5 => ("TiltedCardsModel", "isTaken", "I", false)
  | 6 => ("TiltedCardsModel", "slots", "[I", true)
  | 7 => ("TiltedCardsModel", "best", "[I", true)
  | 8 => ("TiltedCardsModel", "had", "[I", true)
  | 9 => ("TiltedCardsModel", "text", "[I", true)
  | 10 => ("TiltedCardsModel", "textLong", "I", false)
  | 11 => ("TiltedCardsModel", "spot", "I", false)
  | 12 => ("TiltedCardsModel", "readViews", "I", false)
  | 13 => ("TiltedCardsModel", "readSlices", "I", false)
  | _ => ("TiltedCardsModel", "orderAt", "I", false)
def tyX5 : Nat → FieldType := fun k => match k with
  | 0 => .array .int
  | 1 => .array .int
  | 2 => .array .int
  | 3 => .int
  | 4 => .array .int
  | 5 => .int
  | 6 => .array .int
  | 7 => .array .int
  | 8 => .array .int
  | 9 => .array .int
  | 10 => .int
  | 11 => .int
  | 12 => .int
  | 13 => .int
  | _ => .int
theorem nmX5 : ∀ a, a < 15 → ∀ b, b < 15 → a ≠ b → (TX5 a).2.1 ≠ (TX5 b).2.1 := by decide +kernel
theorem tyX5_ok : ∀ k, k < 15 → parseFieldDescriptor (TX5 k).2.2.1 = some (tyX5 k) := by decide +kernel
abbrev cX5_init : ByteArray := prog_7_method_1_code
def yX5_init : MethodName := ⟨RX5, "<init>", "()V"⟩
abbrev cX5_in : ByteArray := prog_7_method_3_code
def yX5_in : MethodName := ⟨RX5, "in", "(JJJ)Z"⟩
abbrev cX5_remember : ByteArray := prog_7_method_4_code
def yX5_remember : MethodName := ⟨RX5, "remember", "()V"⟩
abbrev cX5_acted : ByteArray := prog_7_method_5_code
def yX5_acted : MethodName := ⟨RX5, "acted", "(I)I"⟩
abbrev cX5_isView : ByteArray := prog_7_method_6_code
def yX5_isView : MethodName := ⟨RX5, "isView", "(I)Z"⟩
abbrev cX5_isRidge : ByteArray := prog_7_method_7_code
def yX5_isRidge : MethodName := ⟨RX5, "isRidge", "(I)Z"⟩
abbrev cX5_isSlice : ByteArray := prog_7_method_8_code
def yX5_isSlice : MethodName := ⟨RX5, "isSlice", "(I)Z"⟩
abbrev cX5_isAngle : ByteArray := prog_7_method_9_code
def yX5_isAngle : MethodName := ⟨RX5, "isAngle", "(I)Z"⟩
abbrev cX5_colourAt : ByteArray := prog_7_method_10_code
def yX5_colourAt : MethodName := ⟨RX5, "colourAt", "(II)I"⟩
abbrev cX5_ordersAsFirst : ByteArray := prog_7_method_11_code
def yX5_ordersAsFirst : MethodName := ⟨RX5, "ordersAsFirst", "()V"⟩
abbrev cX5_dueAt : ByteArray := prog_7_method_12_code
def yX5_dueAt : MethodName := ⟨RX5, "dueAt", "(II)I"⟩
abbrev cX5_placeSeen : ByteArray := prog_7_method_13_code
def yX5_placeSeen : MethodName := ⟨RX5, "placeSeen", "(II)I"⟩
abbrev cX5_laysSlots : ByteArray := prog_7_method_14_code
def yX5_laysSlots : MethodName := ⟨RX5, "laysSlots", "()V"⟩
abbrev cX5_viewSeen : ByteArray := prog_7_method_15_code
def yX5_viewSeen : MethodName := ⟨RX5, "viewSeen", "(II)I"⟩
abbrev cX5_isGhost : ByteArray := prog_7_method_16_code
def yX5_isGhost : MethodName := ⟨RX5, "isGhost", "(II)Z"⟩
abbrev cX5_ghostsAt : ByteArray := prog_7_method_17_code
def yX5_ghostsAt : MethodName := ⟨RX5, "ghostsAt", "(I)I"⟩
abbrev cX5_ghosts : ByteArray := prog_7_method_18_code
def yX5_ghosts : MethodName := ⟨RX5, "ghosts", "()I"⟩
abbrev cX5_ghostsNow : ByteArray := prog_7_method_19_code
def yX5_ghostsNow : MethodName := ⟨RX5, "ghostsNow", "()I"⟩
abbrev cX5_showing : ByteArray := prog_7_method_20_code
def yX5_showing : MethodName := ⟨RX5, "showing", "(II)I"⟩
abbrev cX5_wholeAngles : ByteArray := prog_7_method_21_code
def yX5_wholeAngles : MethodName := ⟨RX5, "wholeAngles", "(I)I"⟩
abbrev cX5_whole : ByteArray := prog_7_method_22_code
def yX5_whole : MethodName := ⟨RX5, "whole", "(Z)I"⟩
abbrev cX5_colour : ByteArray := prog_7_method_23_code
def yX5_colour : MethodName := ⟨RX5, "colour", "(III)I"⟩
abbrev cX5_addView : ByteArray := prog_7_method_24_code
def yX5_addView : MethodName := ⟨RX5, "addView", "()I"⟩
abbrev cX5_removeView : ByteArray := prog_7_method_25_code
def yX5_removeView : MethodName := ⟨RX5, "removeView", "(I)I"⟩
abbrev cX5_swap : ByteArray := prog_7_method_26_code
def yX5_swap : MethodName := ⟨RX5, "swap", "(II)I"⟩
abbrev cX5_settles : ByteArray := prog_7_method_27_code
def yX5_settles : MethodName := ⟨RX5, "settles", "(IIZ)I"⟩
abbrev cX5_setPitch : ByteArray := prog_7_method_28_code
def yX5_setPitch : MethodName := ⟨RX5, "setPitch", "(I)I"⟩
abbrev cX5_setShift : ByteArray := prog_7_method_29_code
def yX5_setShift : MethodName := ⟨RX5, "setShift", "(I)I"⟩
abbrev cX5_setLean : ByteArray := prog_7_method_30_code
def yX5_setLean : MethodName := ⟨RX5, "setLean", "(I)I"⟩
abbrev cX5_slice : ByteArray := prog_7_method_31_code
def yX5_slice : MethodName := ⟨RX5, "slice", "(II)I"⟩
abbrev cX5_laysOrder : ByteArray := prog_7_method_32_code
def yX5_laysOrder : MethodName := ⟨RX5, "laysOrder", "(I)Z"⟩
abbrev cX5_findsOrder : ByteArray := prog_7_method_33_code
def yX5_findsOrder : MethodName := ⟨RX5, "findsOrder", "()V"⟩
abbrev cX5_order : ByteArray := prog_7_method_34_code
def yX5_order : MethodName := ⟨RX5, "order", "()I"⟩
abbrev cX5_press : ByteArray := prog_7_method_35_code
def yX5_press : MethodName := ⟨RX5, "press", "(I)I"⟩
abbrev cX5_type : ByteArray := prog_7_method_36_code
def yX5_type : MethodName := ⟨RX5, "type", "(C)I"⟩
abbrev cX5_clearText : ByteArray := prog_7_method_37_code
def yX5_clearText : MethodName := ⟨RX5, "clearText", "()I"⟩
abbrev cX5_isHere : ByteArray := prog_7_method_38_code
def yX5_isHere : MethodName := ⟨RX5, "isHere", "(II)Z"⟩
abbrev cX5_takes : ByteArray := prog_7_method_39_code
def yX5_takes : MethodName := ⟨RX5, "takes", "(I)Z"⟩
abbrev cX5_readsDigits : ByteArray := prog_7_method_40_code
def yX5_readsDigits : MethodName := ⟨RX5, "readsDigits", "(II)I"⟩
abbrev cX5_fault : ByteArray := prog_7_method_41_code
def yX5_fault : MethodName := ⟨RX5, "fault", "()I"⟩
abbrev cX5_read : ByteArray := prog_7_method_42_code
def yX5_read : MethodName := ⟨RX5, "read", "()I"⟩
abbrev cX5_undo : ByteArray := prog_7_method_43_code
def yX5_undo : MethodName := ⟨RX5, "undo", "()I"⟩
abbrev cX5_keep : ByteArray := prog_7_method_44_code
def yX5_keep : MethodName := ⟨RX5, "keep", "()I"⟩
abbrev cX5_restore : ByteArray := prog_7_method_45_code
def yX5_restore : MethodName := ⟨RX5, "restore", "()I"⟩
abbrev cX5_colourOf : ByteArray := prog_7_method_46_code
def yX5_colourOf : MethodName := ⟨RX5, "colourOf", "(II)I"⟩
abbrev cX5_viewOf : ByteArray := prog_7_method_47_code
def yX5_viewOf : MethodName := ⟨RX5, "viewOf", "(I)I"⟩
abbrev cX5_dueOf : ByteArray := prog_7_method_48_code
def yX5_dueOf : MethodName := ⟨RX5, "dueOf", "(II)I"⟩
abbrev cX5_behind : ByteArray := prog_7_method_49_code
def yX5_behind : MethodName := ⟨RX5, "behind", "(III)I"⟩
abbrev cX5_seen : ByteArray := prog_7_method_50_code
def yX5_seen : MethodName := ⟨RX5, "seen", "(III)I"⟩
abbrev cX5_wholeAt : ByteArray := prog_7_method_51_code
def yX5_wholeAt : MethodName := ⟨RX5, "wholeAt", "(I)I"⟩
abbrev cX5_mostAt : ByteArray := prog_7_method_52_code
def yX5_mostAt : MethodName := ⟨RX5, "mostAt", "(I)I"⟩
abbrev cX5_at : ByteArray := prog_7_method_53_code
def yX5_at : MethodName := ⟨RX5, "at", "(II)I"⟩
abbrev cX5_clearest : ByteArray := prog_7_method_54_code
def yX5_clearest : MethodName := ⟨RX5, "clearest", "(I)I"⟩
abbrev cX5_slicesOf : ByteArray := prog_7_method_55_code
def yX5_slicesOf : MethodName := ⟨RX5, "slicesOf", "(I)I"⟩
abbrev cX5_view : ByteArray := prog_7_method_56_code
def yX5_view : MethodName := ⟨RX5, "view", "(II)I"⟩
abbrev cX5_bestOrder : ByteArray := prog_7_method_57_code
def yX5_bestOrder : MethodName := ⟨RX5, "bestOrder", "(I)I"⟩
abbrev cX5_bestShift : ByteArray := prog_7_method_58_code
def yX5_bestShift : MethodName := ⟨RX5, "bestShift", "()I"⟩
abbrev cX5_ifSlice : ByteArray := prog_7_method_59_code
def yX5_ifSlice : MethodName := ⟨RX5, "ifSlice", "(II)I"⟩
abbrev cX5_count : ByteArray := prog_7_method_60_code
def yX5_count : MethodName := ⟨RX5, "count", "(I)I"⟩
def RJ9 : String := "java/lang/Math"
def TJ9 : u_T := fun k => match k with
  | _ => ("", "", "", false)
def tyJ9 : Nat → FieldType := fun k => match k with
  | _ => .int
theorem nmJ9 : ∀ a, a < 0 → ∀ b, b < 0 → a ≠ b → (TJ9 a).2.1 ≠ (TJ9 b).2.1 := by decide +kernel
theorem tyJ9_ok : ∀ k, k < 0 → parseFieldDescriptor (TJ9 k).2.2.1 = some (tyJ9 k) := by decide +kernel
abbrev cJ9_max_7cf53 : ByteArray := prog_8_method_65_code
def yJ9_max_7cf53 : MethodName := ⟨RJ9, "max", "(II)I"⟩
abbrev cJ9_min_7cf53 : ByteArray := prog_8_method_69_code
def yJ9_min_7cf53 : MethodName := ⟨RJ9, "min", "(II)I"⟩
def RL : String := "TiltedCardsLaw"
abbrev cL_law : ByteArray := code
def yL_law : MethodName := ⟨RL, "law", "([I)Z"⟩
abbrev vwCl : List vw_C := [(RX0, TX0, 9), (RX1, TX1, 3), (RX2, TX2, 2), (RX3, TX3, 3), (RX4, TX4, 9), (RX5, TX5, 15)]
def R_law : String := "TiltedCardsLaw"
