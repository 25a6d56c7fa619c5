section
-- ===== PART A: goes FIRST, ahead of the names: the tables' words, and 'selects' of the private methods out of them =====
/-- a private method of a class that the tables say can be made, by its rows of tables_1 -/
def lw_okq (q : MethodName × Nat) : Prop := (q.1.cls ≠ "java/lang/invoke/MethodHandle" ∧ q.1.cls ≠ "java/lang/invoke/VarHandle") ∧ Cond.instantiable q.1.cls q.2 ∈ tables_1 ∧ Cond.privateMethod q.1 ∈ tables_1 ∧ Cond.instanceMethod q.1 ∈ tables_1
theorem lw_p0 : lw_okq (⟨"TiltedCards", "findBestSlices", "()V"⟩, 9) := ⟨⟨by decide +kernel, by decide +kernel⟩, List.mem_of_getElem? (i := 9) (by decide +kernel), List.mem_of_getElem? (i := 249) (by decide +kernel), List.mem_of_getElem? (i := 250) (by decide +kernel)⟩
theorem lw_p1 : lw_okq (⟨"TiltedCards", "look", "()LTiltedCards$Sight;"⟩, 9) := ⟨⟨by decide +kernel, by decide +kernel⟩, List.mem_of_getElem? (i := 9) (by decide +kernel), List.mem_of_getElem? (i := 329) (by decide +kernel), List.mem_of_getElem? (i := 330) (by decide +kernel)⟩
theorem lw_p2 : lw_okq (⟨"TiltedCards", "ghostsWithShift", "(I)I"⟩, 9) := ⟨⟨by decide +kernel, by decide +kernel⟩, List.mem_of_getElem? (i := 9) (by decide +kernel), List.mem_of_getElem? (i := 499) (by decide +kernel), List.mem_of_getElem? (i := 500) (by decide +kernel)⟩
theorem lw_p3 : lw_okq (⟨"TiltedCardsModel", "ordersAsFirst", "()V"⟩, 15) := ⟨⟨by decide +kernel, by decide +kernel⟩, List.mem_of_getElem? (i := 515) (by decide +kernel), List.mem_of_getElem? (i := 521) (by decide +kernel), List.mem_of_getElem? (i := 522) (by decide +kernel)⟩
theorem lw_p4 : lw_okq (⟨"TiltedCardsModel", "isView", "(I)Z"⟩, 15) := ⟨⟨by decide +kernel, by decide +kernel⟩, List.mem_of_getElem? (i := 515) (by decide +kernel), List.mem_of_getElem? (i := 575) (by decide +kernel), List.mem_of_getElem? (i := 576) (by decide +kernel)⟩
theorem lw_p5 : lw_okq (⟨"TiltedCardsModel", "colourAt", "(II)I"⟩, 15) := ⟨⟨by decide +kernel, by decide +kernel⟩, List.mem_of_getElem? (i := 515) (by decide +kernel), List.mem_of_getElem? (i := 587) (by decide +kernel), List.mem_of_getElem? (i := 588) (by decide +kernel)⟩
theorem lw_p6 : lw_okq (⟨"TiltedCardsModel", "remember", "()V"⟩, 15) := ⟨⟨by decide +kernel, by decide +kernel⟩, List.mem_of_getElem? (i := 515) (by decide +kernel), List.mem_of_getElem? (i := 591) (by decide +kernel), List.mem_of_getElem? (i := 592) (by decide +kernel)⟩
theorem lw_p7 : lw_okq (⟨"TiltedCardsModel", "acted", "(I)I"⟩, 15) := ⟨⟨by decide +kernel, by decide +kernel⟩, List.mem_of_getElem? (i := 515) (by decide +kernel), List.mem_of_getElem? (i := 595) (by decide +kernel), List.mem_of_getElem? (i := 596) (by decide +kernel)⟩
theorem lw_p8 : lw_okq (⟨"TiltedCardsModel", "settles", "(IIZ)I"⟩, 15) := ⟨⟨by decide +kernel, by decide +kernel⟩, List.mem_of_getElem? (i := 515) (by decide +kernel), List.mem_of_getElem? (i := 617) (by decide +kernel), List.mem_of_getElem? (i := 618) (by decide +kernel)⟩
theorem lw_p9 : lw_okq (⟨"TiltedCardsModel", "isSlice", "(I)Z"⟩, 15) := ⟨⟨by decide +kernel, by decide +kernel⟩, List.mem_of_getElem? (i := 515) (by decide +kernel), List.mem_of_getElem? (i := 635) (by decide +kernel), List.mem_of_getElem? (i := 636) (by decide +kernel)⟩
theorem lw_p10 : lw_okq (⟨"TiltedCardsModel", "findsOrder", "()V"⟩, 15) := ⟨⟨by decide +kernel, by decide +kernel⟩, List.mem_of_getElem? (i := 515) (by decide +kernel), List.mem_of_getElem? (i := 643) (by decide +kernel), List.mem_of_getElem? (i := 644) (by decide +kernel)⟩
theorem lw_p11 : lw_okq (⟨"TiltedCardsModel", "laysSlots", "()V"⟩, 15) := ⟨⟨by decide +kernel, by decide +kernel⟩, List.mem_of_getElem? (i := 515) (by decide +kernel), List.mem_of_getElem? (i := 647) (by decide +kernel), List.mem_of_getElem? (i := 648) (by decide +kernel)⟩
theorem lw_p12 : lw_okq (⟨"TiltedCardsModel", "placeSeen", "(II)I"⟩, 15) := ⟨⟨by decide +kernel, by decide +kernel⟩, List.mem_of_getElem? (i := 515) (by decide +kernel), List.mem_of_getElem? (i := 651) (by decide +kernel), List.mem_of_getElem? (i := 652) (by decide +kernel)⟩
theorem lw_p13 : lw_okq (⟨"TiltedCardsModel", "dueAt", "(II)I"⟩, 15) := ⟨⟨by decide +kernel, by decide +kernel⟩, List.mem_of_getElem? (i := 515) (by decide +kernel), List.mem_of_getElem? (i := 655) (by decide +kernel), List.mem_of_getElem? (i := 656) (by decide +kernel)⟩
theorem lw_p14 : lw_okq (⟨"TiltedCardsModel", "laysOrder", "(I)Z"⟩, 15) := ⟨⟨by decide +kernel, by decide +kernel⟩, List.mem_of_getElem? (i := 515) (by decide +kernel), List.mem_of_getElem? (i := 660) (by decide +kernel), List.mem_of_getElem? (i := 661) (by decide +kernel)⟩
theorem lw_p15 : lw_okq (⟨"TiltedCardsModel", "ghosts", "()I"⟩, 15) := ⟨⟨by decide +kernel, by decide +kernel⟩, List.mem_of_getElem? (i := 515) (by decide +kernel), List.mem_of_getElem? (i := 664) (by decide +kernel), List.mem_of_getElem? (i := 665) (by decide +kernel)⟩
def lw_privs_1 : List (MethodName × Nat) := [(⟨"TiltedCards", "findBestSlices", "()V"⟩, 9), (⟨"TiltedCards", "look", "()LTiltedCards$Sight;"⟩, 9), (⟨"TiltedCards", "ghostsWithShift", "(I)I"⟩, 9), (⟨"TiltedCardsModel", "ordersAsFirst", "()V"⟩, 15), (⟨"TiltedCardsModel", "isView", "(I)Z"⟩, 15), (⟨"TiltedCardsModel", "colourAt", "(II)I"⟩, 15), (⟨"TiltedCardsModel", "remember", "()V"⟩, 15), (⟨"TiltedCardsModel", "acted", "(I)I"⟩, 15), (⟨"TiltedCardsModel", "settles", "(IIZ)I"⟩, 15), (⟨"TiltedCardsModel", "isSlice", "(I)Z"⟩, 15), (⟨"TiltedCardsModel", "findsOrder", "()V"⟩, 15), (⟨"TiltedCardsModel", "laysSlots", "()V"⟩, 15), (⟨"TiltedCardsModel", "placeSeen", "(II)I"⟩, 15), (⟨"TiltedCardsModel", "dueAt", "(II)I"⟩, 15), (⟨"TiltedCardsModel", "laysOrder", "(I)Z"⟩, 15), (⟨"TiltedCardsModel", "ghosts", "()I"⟩, 15)]
theorem lw_r1 : ∀ q ∈ lw_privs_1, lw_okq q := List.forall_mem_cons.mpr ⟨lw_p0, List.forall_mem_cons.mpr ⟨lw_p1, List.forall_mem_cons.mpr ⟨lw_p2, List.forall_mem_cons.mpr ⟨lw_p3, List.forall_mem_cons.mpr ⟨lw_p4, List.forall_mem_cons.mpr ⟨lw_p5, List.forall_mem_cons.mpr ⟨lw_p6, List.forall_mem_cons.mpr ⟨lw_p7, List.forall_mem_cons.mpr ⟨lw_p8, List.forall_mem_cons.mpr ⟨lw_p9, List.forall_mem_cons.mpr ⟨lw_p10, List.forall_mem_cons.mpr ⟨lw_p11, List.forall_mem_cons.mpr ⟨lw_p12, List.forall_mem_cons.mpr ⟨lw_p13, List.forall_mem_cons.mpr ⟨lw_p14, List.forall_mem_cons.mpr ⟨lw_p15, fun _ h => absurd h List.not_mem_nil⟩⟩⟩⟩⟩⟩⟩⟩⟩⟩⟩⟩⟩⟩⟩⟩
theorem lw_p16 : lw_okq (⟨"TiltedCardsModel", "ghostsAt", "(I)I"⟩, 15) := ⟨⟨by decide +kernel, by decide +kernel⟩, List.mem_of_getElem? (i := 515) (by decide +kernel), List.mem_of_getElem? (i := 668) (by decide +kernel), List.mem_of_getElem? (i := 669) (by decide +kernel)⟩
theorem lw_p17 : lw_okq (⟨"TiltedCardsModel", "isGhost", "(II)Z"⟩, 15) := ⟨⟨by decide +kernel, by decide +kernel⟩, List.mem_of_getElem? (i := 515) (by decide +kernel), List.mem_of_getElem? (i := 672) (by decide +kernel), List.mem_of_getElem? (i := 673) (by decide +kernel)⟩
theorem lw_p18 : lw_okq (⟨"TiltedCardsModel", "viewSeen", "(II)I"⟩, 15) := ⟨⟨by decide +kernel, by decide +kernel⟩, List.mem_of_getElem? (i := 515) (by decide +kernel), List.mem_of_getElem? (i := 676) (by decide +kernel), List.mem_of_getElem? (i := 677) (by decide +kernel)⟩
theorem lw_p19 : lw_okq (⟨"TiltedCardsModel", "ghostsNow", "()I"⟩, 15) := ⟨⟨by decide +kernel, by decide +kernel⟩, List.mem_of_getElem? (i := 515) (by decide +kernel), List.mem_of_getElem? (i := 680) (by decide +kernel), List.mem_of_getElem? (i := 681) (by decide +kernel)⟩
theorem lw_p20 : lw_okq (⟨"TiltedCardsModel", "whole", "(Z)I"⟩, 15) := ⟨⟨by decide +kernel, by decide +kernel⟩, List.mem_of_getElem? (i := 515) (by decide +kernel), List.mem_of_getElem? (i := 690) (by decide +kernel), List.mem_of_getElem? (i := 691) (by decide +kernel)⟩
theorem lw_p21 : lw_okq (⟨"TiltedCardsModel", "wholeAngles", "(I)I"⟩, 15) := ⟨⟨by decide +kernel, by decide +kernel⟩, List.mem_of_getElem? (i := 515) (by decide +kernel), List.mem_of_getElem? (i := 694) (by decide +kernel), List.mem_of_getElem? (i := 695) (by decide +kernel)⟩
theorem lw_p22 : lw_okq (⟨"TiltedCardsModel", "showing", "(II)I"⟩, 15) := ⟨⟨by decide +kernel, by decide +kernel⟩, List.mem_of_getElem? (i := 515) (by decide +kernel), List.mem_of_getElem? (i := 698) (by decide +kernel), List.mem_of_getElem? (i := 699) (by decide +kernel)⟩
theorem lw_p23 : lw_okq (⟨"TiltedCardsModel", "fault", "()I"⟩, 15) := ⟨⟨by decide +kernel, by decide +kernel⟩, List.mem_of_getElem? (i := 515) (by decide +kernel), List.mem_of_getElem? (i := 714) (by decide +kernel), List.mem_of_getElem? (i := 715) (by decide +kernel)⟩
theorem lw_p24 : lw_okq (⟨"TiltedCardsModel", "readsDigits", "(II)I"⟩, 15) := ⟨⟨by decide +kernel, by decide +kernel⟩, List.mem_of_getElem? (i := 515) (by decide +kernel), List.mem_of_getElem? (i := 718) (by decide +kernel), List.mem_of_getElem? (i := 719) (by decide +kernel)⟩
theorem lw_p25 : lw_okq (⟨"TiltedCardsModel", "isHere", "(II)Z"⟩, 15) := ⟨⟨by decide +kernel, by decide +kernel⟩, List.mem_of_getElem? (i := 515) (by decide +kernel), List.mem_of_getElem? (i := 722) (by decide +kernel), List.mem_of_getElem? (i := 723) (by decide +kernel)⟩
theorem lw_p26 : lw_okq (⟨"TiltedCardsModel", "takes", "(I)Z"⟩, 15) := ⟨⟨by decide +kernel, by decide +kernel⟩, List.mem_of_getElem? (i := 515) (by decide +kernel), List.mem_of_getElem? (i := 726) (by decide +kernel), List.mem_of_getElem? (i := 727) (by decide +kernel)⟩
theorem lw_p27 : lw_okq (⟨"TiltedCardsModel", "dueOf", "(II)I"⟩, 15) := ⟨⟨by decide +kernel, by decide +kernel⟩, List.mem_of_getElem? (i := 515) (by decide +kernel), List.mem_of_getElem? (i := 754) (by decide +kernel), List.mem_of_getElem? (i := 755) (by decide +kernel)⟩
theorem lw_p28 : lw_okq (⟨"TiltedCardsModel", "wholeAt", "(I)I"⟩, 15) := ⟨⟨by decide +kernel, by decide +kernel⟩, List.mem_of_getElem? (i := 515) (by decide +kernel), List.mem_of_getElem? (i := 770) (by decide +kernel), List.mem_of_getElem? (i := 771) (by decide +kernel)⟩
theorem lw_p29 : lw_okq (⟨"TiltedCardsModel", "mostAt", "(I)I"⟩, 15) := ⟨⟨by decide +kernel, by decide +kernel⟩, List.mem_of_getElem? (i := 515) (by decide +kernel), List.mem_of_getElem? (i := 774) (by decide +kernel), List.mem_of_getElem? (i := 775) (by decide +kernel)⟩
theorem lw_p30 : lw_okq (⟨"TiltedCardsModel", "slicesOf", "(I)I"⟩, 15) := ⟨⟨by decide +kernel, by decide +kernel⟩, List.mem_of_getElem? (i := 515) (by decide +kernel), List.mem_of_getElem? (i := 782) (by decide +kernel), List.mem_of_getElem? (i := 783) (by decide +kernel)⟩
theorem lw_p31 : lw_okq (⟨"TiltedCardsModel", "clearest", "(I)I"⟩, 15) := ⟨⟨by decide +kernel, by decide +kernel⟩, List.mem_of_getElem? (i := 515) (by decide +kernel), List.mem_of_getElem? (i := 786) (by decide +kernel), List.mem_of_getElem? (i := 787) (by decide +kernel)⟩
def lw_privs_2 : List (MethodName × Nat) := [(⟨"TiltedCardsModel", "ghostsAt", "(I)I"⟩, 15), (⟨"TiltedCardsModel", "isGhost", "(II)Z"⟩, 15), (⟨"TiltedCardsModel", "viewSeen", "(II)I"⟩, 15), (⟨"TiltedCardsModel", "ghostsNow", "()I"⟩, 15), (⟨"TiltedCardsModel", "whole", "(Z)I"⟩, 15), (⟨"TiltedCardsModel", "wholeAngles", "(I)I"⟩, 15), (⟨"TiltedCardsModel", "showing", "(II)I"⟩, 15), (⟨"TiltedCardsModel", "fault", "()I"⟩, 15), (⟨"TiltedCardsModel", "readsDigits", "(II)I"⟩, 15), (⟨"TiltedCardsModel", "isHere", "(II)Z"⟩, 15), (⟨"TiltedCardsModel", "takes", "(I)Z"⟩, 15), (⟨"TiltedCardsModel", "dueOf", "(II)I"⟩, 15), (⟨"TiltedCardsModel", "wholeAt", "(I)I"⟩, 15), (⟨"TiltedCardsModel", "mostAt", "(I)I"⟩, 15), (⟨"TiltedCardsModel", "slicesOf", "(I)I"⟩, 15), (⟨"TiltedCardsModel", "clearest", "(I)I"⟩, 15)]
theorem lw_r2 : ∀ q ∈ lw_privs_2, lw_okq q := List.forall_mem_cons.mpr ⟨lw_p16, List.forall_mem_cons.mpr ⟨lw_p17, List.forall_mem_cons.mpr ⟨lw_p18, List.forall_mem_cons.mpr ⟨lw_p19, List.forall_mem_cons.mpr ⟨lw_p20, List.forall_mem_cons.mpr ⟨lw_p21, List.forall_mem_cons.mpr ⟨lw_p22, List.forall_mem_cons.mpr ⟨lw_p23, List.forall_mem_cons.mpr ⟨lw_p24, List.forall_mem_cons.mpr ⟨lw_p25, List.forall_mem_cons.mpr ⟨lw_p26, List.forall_mem_cons.mpr ⟨lw_p27, List.forall_mem_cons.mpr ⟨lw_p28, List.forall_mem_cons.mpr ⟨lw_p29, List.forall_mem_cons.mpr ⟨lw_p30, List.forall_mem_cons.mpr ⟨lw_p31, fun _ h => absurd h List.not_mem_nil⟩⟩⟩⟩⟩⟩⟩⟩⟩⟩⟩⟩⟩⟩⟩⟩
def lw_privs : List (MethodName × Nat) := lw_privs_1 ++ (lw_privs_2)
def lw_tbl : List Cond := k2_sels lw_privs ++ tables_1
theorem lw_privs_ok : ∀ q ∈ lw_privs, lw_okq q := by
  show ∀ q ∈ lw_privs_1 ++ (lw_privs_2), lw_okq q
  exact List.forall_mem_append.mpr ⟨lw_r1, lw_r2⟩

-- ===== end of PART A =====
def RX0 : String := "TiltedCards$Card"
def TX0 : u_T := fun k => match k with
  | 0 => ("TiltedCards$Card", "views", "I", false)
  | 1 => ("TiltedCards$Card", "colours", "[I", true)
  | 2 => ("TiltedCards$Card", "pitch", "I", false)
  | 3 => ("TiltedCards$Card", "sliceViews", "[I", true)
  | 4 => ("TiltedCards$Card", "shift", "I", false)
  | 5 => ("TiltedCards$Card", "lean", "I", false)
  | 6 => ("TiltedCards$Card", "pressed", "I", false)
  | 7 => ("TiltedCards$Card", "good", "I", false)
  | _ => ("TiltedCards$Card", "cost", "I", false)
def tyX0 : Nat → FieldType := fun k => match k with
  | 0 => .int
  | 1 => .array .int
  | 2 => .int
  | 3 => .array .int
  | 4 => .int
  | 5 => .int
  | 6 => .int
  | 7 => .int
  | _ => .int
theorem nmX0 : ∀ a, a < 9 → ∀ b, b < 9 → a ≠ b → (TX0 a).2.1 ≠ (TX0 b).2.1 := by decide +kernel
theorem tyX0_ok : ∀ k, k < 9 → parseFieldDescriptor (TX0 k).2.2.1 = some (tyX0 k) := by decide +kernel
abbrev cX0_init : ByteArray := prog_2_method_1_code
def yX0_init : MethodName := ⟨RX0, "<init>", "()V"⟩
abbrev cX0_copyFrom : ByteArray := prog_2_method_2_code
def yX0_copyFrom : MethodName := ⟨RX0, "copyFrom", "(LTiltedCards$Card;)V"⟩
abbrev cX0_hasView : ByteArray := prog_2_method_3_code
def yX0_hasView : MethodName := ⟨RX0, "hasView", "(I)Z"⟩
abbrev cX0_hasSlice : ByteArray := prog_2_method_4_code
def yX0_hasSlice : MethodName := ⟨RX0, "hasSlice", "(I)Z"⟩
abbrev cX0_colourIn : ByteArray := prog_2_method_5_code
def yX0_colourIn : MethodName := ⟨RX0, "colourIn", "(II)I"⟩
abbrev cX0_paint : ByteArray := prog_2_method_6_code
def yX0_paint : MethodName := ⟨RX0, "paint", "(III)V"⟩
abbrev cX0_appendView : ByteArray := prog_2_method_7_code
def yX0_appendView : MethodName := ⟨RX0, "appendView", "()V"⟩
abbrev cX0_dropView : ByteArray := prog_2_method_8_code
def yX0_dropView : MethodName := ⟨RX0, "dropView", "(I)V"⟩
abbrev cX0_exchangeViews : ByteArray := prog_2_method_9_code
def yX0_exchangeViews : MethodName := ⟨RX0, "exchangeViews", "(II)I"⟩
abbrev cX0_resetSlices : ByteArray := prog_2_method_10_code
def yX0_resetSlices : MethodName := ⟨RX0, "resetSlices", "()V"⟩
abbrev cX0_viewDue : ByteArray := prog_2_method_11_code
def yX0_viewDue : MethodName := ⟨RX0, "viewDue", "(I)I"⟩
abbrev cX0_putSlice : ByteArray := prog_2_method_12_code
def yX0_putSlice : MethodName := ⟨RX0, "putSlice", "(II)V"⟩
abbrev cX0_putSlices : ByteArray := prog_2_method_13_code
def yX0_putSlices : MethodName := ⟨RX0, "putSlices", "([I)V"⟩
abbrev cX0_hasSlices : ByteArray := prog_2_method_14_code
def yX0_hasSlices : MethodName := ⟨RX0, "hasSlices", "([I)Z"⟩
abbrev cX0_slicesShowing : ByteArray := prog_2_method_15_code
def yX0_slicesShowing : MethodName := ⟨RX0, "slicesShowing", "(I)I"⟩
abbrev cX0_showsEachView : ByteArray := prog_2_method_16_code
def yX0_showsEachView : MethodName := ⟨RX0, "showsEachView", "()Z"⟩
abbrev cX0_startSlices : ByteArray := prog_2_method_17_code
def yX0_startSlices : MethodName := ⟨RX0, "startSlices", "()V"⟩
abbrev cX0_nextSlices : ByteArray := prog_2_method_18_code
def yX0_nextSlices : MethodName := ⟨RX0, "nextSlices", "()Z"⟩
abbrev cX0_highestViewBefore : ByteArray := prog_2_method_19_code
def yX0_highestViewBefore : MethodName := ⟨RX0, "highestViewBefore", "(I)I"⟩
abbrev cX0_spotBehind : ByteArray := prog_2_method_20_code
def yX0_spotBehind : MethodName := ⟨RX0, "spotBehind", "(II)I"⟩
abbrev cX0_sliceBehind : ByteArray := prog_2_method_21_code
def yX0_sliceBehind : MethodName := ⟨RX0, "sliceBehind", "(II)I"⟩
abbrev cX0_ridgeBehind : ByteArray := prog_2_method_22_code
def yX0_ridgeBehind : MethodName := ⟨RX0, "ridgeBehind", "(II)I"⟩
abbrev cX0_viewBehind : ByteArray := prog_2_method_23_code
def yX0_viewBehind : MethodName := ⟨RX0, "viewBehind", "(II)I"⟩
abbrev cX0_colourBehind : ByteArray := prog_2_method_24_code
def yX0_colourBehind : MethodName := ⟨RX0, "colourBehind", "(II)I"⟩
abbrev cX0_stepAt : ByteArray := prog_2_method_25_code
def yX0_stepAt : MethodName := ⟨RX0, "stepAt", "(I)I"⟩
abbrev cX0_placeSeen : ByteArray := prog_2_method_26_code
def yX0_placeSeen : MethodName := ⟨RX0, "placeSeen", "(II)I"⟩
def RX1 : String := "TiltedCards$CardText"
def TX1 : u_T := fun k => match k with
  | 0 => ("TiltedCards$CardText", "characters", "[C", true)
  | 1 => ("TiltedCards$CardText", "length", "I", false)
  | _ => ("TiltedCards$CardText", "colon", "I", false)
def tyX1 : Nat → FieldType := fun k => match k with
  | 0 => .array .char
  | 1 => .int
  | _ => .int
theorem nmX1 : ∀ a, a < 3 → ∀ b, b < 3 → a ≠ b → (TX1 a).2.1 ≠ (TX1 b).2.1 := by decide +kernel
theorem tyX1_ok : ∀ k, k < 3 → parseFieldDescriptor (TX1 k).2.2.1 = some (tyX1 k) := by decide +kernel
abbrev cX1_init : ByteArray := prog_3_method_1_code
def yX1_init : MethodName := ⟨RX1, "<init>", "()V"⟩
abbrev cX1_isFull : ByteArray := prog_3_method_2_code
def yX1_isFull : MethodName := ⟨RX1, "isFull", "()Z"⟩
abbrev cX1_append : ByteArray := prog_3_method_3_code
def yX1_append : MethodName := ⟨RX1, "append", "(C)V"⟩
abbrev cX1_empty : ByteArray := prog_3_method_4_code
def yX1_empty : MethodName := ⟨RX1, "empty", "()V"⟩
abbrev cX1_charAt : ByteArray := prog_3_method_5_code
def yX1_charAt : MethodName := ⟨RX1, "charAt", "(I)C"⟩
abbrev cX1_digitAt : ByteArray := prog_3_method_6_code
def yX1_digitAt : MethodName := ⟨RX1, "digitAt", "(I)I"⟩
abbrev cX1_findFault : ByteArray := prog_3_method_7_code
def yX1_findFault : MethodName := ⟨RX1, "findFault", "()I"⟩
abbrev cX1_isAllowed : ByteArray := prog_3_method_8_code
def yX1_isAllowed : MethodName := ⟨RX1, "isAllowed", "(I)Z"⟩
abbrev cX1_isEnded : ByteArray := prog_3_method_9_code
def yX1_isEnded : MethodName := ⟨RX1, "isEnded", "()Z"⟩
abbrev cX1_viewsUpTo : ByteArray := prog_3_method_10_code
def yX1_viewsUpTo : MethodName := ⟨RX1, "viewsUpTo", "(I)I"⟩
abbrev cX1_writeTo : ByteArray := prog_3_method_11_code
def yX1_writeTo : MethodName := ⟨RX1, "writeTo", "(LTiltedCards$Card;)V"⟩
def RX2 : String := "TiltedCards$History"
def TX2 : u_T := fun k => match k with
  | 0 => ("TiltedCards$History", "states", "[LTiltedCards$Card;", true)
  | _ => ("TiltedCards$History", "size", "I", false)
def tyX2 : Nat → FieldType := fun k => match k with
  | 0 => .array (.object "TiltedCards$Card")
  | _ => .int
theorem nmX2 : ∀ a, a < 2 → ∀ b, b < 2 → a ≠ b → (TX2 a).2.1 ≠ (TX2 b).2.1 := by decide +kernel
theorem tyX2_ok : ∀ k, k < 2 → parseFieldDescriptor (TX2 k).2.2.1 = some (tyX2 k) := by decide +kernel
abbrev cX2_init : ByteArray := prog_4_method_1_code
def yX2_init : MethodName := ⟨RX2, "<init>", "()V"⟩
abbrev cX2_record : ByteArray := prog_4_method_2_code
def yX2_record : MethodName := ⟨RX2, "record", "(LTiltedCards$Card;)V"⟩
abbrev cX2_dropOldest : ByteArray := prog_4_method_3_code
def yX2_dropOldest : MethodName := ⟨RX2, "dropOldest", "()V"⟩
abbrev cX2_takeLatest : ByteArray := prog_4_method_4_code
def yX2_takeLatest : MethodName := ⟨RX2, "takeLatest", "(LTiltedCards$Card;)V"⟩
abbrev cX2_stateAt : ByteArray := prog_4_method_5_code
def yX2_stateAt : MethodName := ⟨RX2, "stateAt", "(I)LTiltedCards$Card;"⟩
def RX3 : String := "TiltedCards$Sight"
def TX3 : u_T := fun k => match k with
  | 0 => ("TiltedCards$Sight", "card", "LTiltedCards$Card;", true)
  | 1 => ("TiltedCards$Sight", "slicesSeen", "[I", true)
  | _ => ("TiltedCards$Sight", "anglesOfStep", "[I", true)
def tyX3 : Nat → FieldType := fun k => match k with
  | 0 => .object "TiltedCards$Card"
  | 1 => .array .int
  | _ => .array .int
theorem nmX3 : ∀ a, a < 3 → ∀ b, b < 3 → a ≠ b → (TX3 a).2.1 ≠ (TX3 b).2.1 := by decide +kernel
theorem tyX3_ok : ∀ k, k < 3 → parseFieldDescriptor (TX3 k).2.2.1 = some (tyX3 k) := by decide +kernel
abbrev cX3_init : ByteArray := prog_5_method_1_code
def yX3_init : MethodName := ⟨RX3, "<init>", "(LTiltedCards$Card;)V"⟩
abbrev cX3_aim : ByteArray := prog_5_method_2_code
def yX3_aim : MethodName := ⟨RX3, "aim", "()V"⟩
abbrev cX3_viewSeen : ByteArray := prog_5_method_3_code
def yX3_viewSeen : MethodName := ⟨RX3, "viewSeen", "(II)I"⟩
abbrev cX3_isGhost : ByteArray := prog_5_method_4_code
def yX3_isGhost : MethodName := ⟨RX3, "isGhost", "(II)Z"⟩
abbrev cX3_ghosts : ByteArray := prog_5_method_5_code
def yX3_ghosts : MethodName := ⟨RX3, "ghosts", "(I)I"⟩
abbrev cX3_ghostsAtAllAngles : ByteArray := prog_5_method_6_code
def yX3_ghostsAtAllAngles : MethodName := ⟨RX3, "ghostsAtAllAngles", "()I"⟩
abbrev cX3_ridgesShowing : ByteArray := prog_5_method_7_code
def yX3_ridgesShowing : MethodName := ⟨RX3, "ridgesShowing", "(II)I"⟩
abbrev cX3_wholeView : ByteArray := prog_5_method_8_code
def yX3_wholeView : MethodName := ⟨RX3, "wholeView", "(I)I"⟩
abbrev cX3_mostShownView : ByteArray := prog_5_method_9_code
def yX3_mostShownView : MethodName := ⟨RX3, "mostShownView", "(I)I"⟩
abbrev cX3_mostShownRidges : ByteArray := prog_5_method_10_code
def yX3_mostShownRidges : MethodName := ⟨RX3, "mostShownRidges", "(I)I"⟩
abbrev cX3_anglesShowingWhole : ByteArray := prog_5_method_11_code
def yX3_anglesShowingWhole : MethodName := ⟨RX3, "anglesShowingWhole", "(I)I"⟩
abbrev cX3_anglesShowingAnyWhole : ByteArray := prog_5_method_12_code
def yX3_anglesShowingAnyWhole : MethodName := ⟨RX3, "anglesShowingAnyWhole", "()I"⟩
abbrev cX3_wholeViews : ByteArray := prog_5_method_13_code
def yX3_wholeViews : MethodName := ⟨RX3, "wholeViews", "()I"⟩
abbrev cX3_clearestAngle : ByteArray := prog_5_method_14_code
def yX3_clearestAngle : MethodName := ⟨RX3, "clearestAngle", "(I)I"⟩
def RX4 : String := "TiltedCards"
def TX4 : u_T := fun k => match k with
  | 0 => ("TiltedCards", "card", "LTiltedCards$Card;", true)
  | 1 => ("TiltedCards", "sight", "LTiltedCards$Sight;", true)
  | 2 => ("TiltedCards", "trial", "LTiltedCards$Card;", true)
  | 3 => ("TiltedCards", "trialSight", "LTiltedCards$Sight;", true)
  | 4 => ("TiltedCards", "bestSlices", "[I", true)
  | 5 => ("TiltedCards", "history", "LTiltedCards$History;", true)
  | 6 => ("TiltedCards", "snapshot", "LTiltedCards$Card;", true)
  | 7 => ("TiltedCards", "hasSnapshot", "Z", false)
  | _ => ("TiltedCards", "text", "LTiltedCards$CardText;", true)
def tyX4 : Nat → FieldType := fun k => match k with
  | 0 => .object "TiltedCards$Card"
  | 1 => .object "TiltedCards$Sight"
  | 2 => .object "TiltedCards$Card"
  | 3 => .object "TiltedCards$Sight"
  | 4 => .array .int
  | 5 => .object "TiltedCards$History"
  | 6 => .object "TiltedCards$Card"
  | 7 => .boolean
  | _ => .object "TiltedCards$CardText"
theorem nmX4 : ∀ a, a < 9 → ∀ b, b < 9 → a ≠ b → (TX4 a).2.1 ≠ (TX4 b).2.1 := by decide +kernel
theorem tyX4_ok : ∀ k, k < 9 → parseFieldDescriptor (TX4 k).2.2.1 = some (tyX4 k) := by decide +kernel
abbrev cX4_init : ByteArray := prog_1_method_1_code
def yX4_init : MethodName := ⟨RX4, "<init>", "()V"⟩
abbrev cX4_colour : ByteArray := prog_1_method_2_code
def yX4_colour : MethodName := ⟨RX4, "colour", "(III)I"⟩
abbrev cX4_addView : ByteArray := prog_1_method_3_code
def yX4_addView : MethodName := ⟨RX4, "addView", "()I"⟩
abbrev cX4_removeView : ByteArray := prog_1_method_4_code
def yX4_removeView : MethodName := ⟨RX4, "removeView", "(I)I"⟩
abbrev cX4_swap : ByteArray := prog_1_method_5_code
def yX4_swap : MethodName := ⟨RX4, "swap", "(II)I"⟩
abbrev cX4_setPitch : ByteArray := prog_1_method_6_code
def yX4_setPitch : MethodName := ⟨RX4, "setPitch", "(I)I"⟩
abbrev cX4_slice : ByteArray := prog_1_method_7_code
def yX4_slice : MethodName := ⟨RX4, "slice", "(II)I"⟩
abbrev cX4_setShift : ByteArray := prog_1_method_8_code
def yX4_setShift : MethodName := ⟨RX4, "setShift", "(I)I"⟩
abbrev cX4_setLean : ByteArray := prog_1_method_9_code
def yX4_setLean : MethodName := ⟨RX4, "setLean", "(I)I"⟩
abbrev cX4_order : ByteArray := prog_1_method_10_code
def yX4_order : MethodName := ⟨RX4, "order", "()I"⟩
abbrev cX4_read : ByteArray := prog_1_method_11_code
def yX4_read : MethodName := ⟨RX4, "read", "()I"⟩
abbrev cX4_press : ByteArray := prog_1_method_12_code
def yX4_press : MethodName := ⟨RX4, "press", "(I)I"⟩
abbrev cX4_type : ByteArray := prog_1_method_13_code
def yX4_type : MethodName := ⟨RX4, "type", "(C)I"⟩
abbrev cX4_clearText : ByteArray := prog_1_method_14_code
def yX4_clearText : MethodName := ⟨RX4, "clearText", "()I"⟩
abbrev cX4_undo : ByteArray := prog_1_method_15_code
def yX4_undo : MethodName := ⟨RX4, "undo", "()I"⟩
abbrev cX4_keep : ByteArray := prog_1_method_16_code
def yX4_keep : MethodName := ⟨RX4, "keep", "()I"⟩
abbrev cX4_restore : ByteArray := prog_1_method_17_code
def yX4_restore : MethodName := ⟨RX4, "restore", "()I"⟩
abbrev cX4_colourOf : ByteArray := prog_1_method_18_code
def yX4_colourOf : MethodName := ⟨RX4, "colourOf", "(II)I"⟩
abbrev cX4_viewOf : ByteArray := prog_1_method_19_code
def yX4_viewOf : MethodName := ⟨RX4, "viewOf", "(I)I"⟩
abbrev cX4_behind : ByteArray := prog_1_method_20_code
def yX4_behind : MethodName := ⟨RX4, "behind", "(III)I"⟩
abbrev cX4_seen : ByteArray := prog_1_method_21_code
def yX4_seen : MethodName := ⟨RX4, "seen", "(III)I"⟩
abbrev cX4_at : ByteArray := prog_1_method_22_code
def yX4_at : MethodName := ⟨RX4, "at", "(II)I"⟩
abbrev cX4_view : ByteArray := prog_1_method_23_code
def yX4_view : MethodName := ⟨RX4, "view", "(II)I"⟩
abbrev cX4_bestOrder : ByteArray := prog_1_method_24_code
def yX4_bestOrder : MethodName := ⟨RX4, "bestOrder", "(I)I"⟩
abbrev cX4_bestShift : ByteArray := prog_1_method_25_code
def yX4_bestShift : MethodName := ⟨RX4, "bestShift", "()I"⟩
abbrev cX4_ifSlice : ByteArray := prog_1_method_26_code
def yX4_ifSlice : MethodName := ⟨RX4, "ifSlice", "(II)I"⟩
abbrev cX4_count : ByteArray := prog_1_method_27_code
def yX4_count : MethodName := ⟨RX4, "count", "(I)I"⟩
abbrev cX4_isWithin : ByteArray := prog_1_method_28_code
def yX4_isWithin : MethodName := ⟨RX4, "isWithin", "(III)Z"⟩
abbrev cX4_isRidge : ByteArray := prog_1_method_29_code
def yX4_isRidge : MethodName := ⟨RX4, "isRidge", "(I)Z"⟩
abbrev cX4_isAngle : ByteArray := prog_1_method_30_code
def yX4_isAngle : MethodName := ⟨RX4, "isAngle", "(I)Z"⟩
abbrev cX4_noneForNothing : ByteArray := prog_1_method_31_code
def yX4_noneForNothing : MethodName := ⟨RX4, "noneForNothing", "(I)I"⟩
abbrev cX4_copyNumbers : ByteArray := prog_1_method_32_code
def yX4_copyNumbers : MethodName := ⟨RX4, "copyNumbers", "([I[I)V"⟩
abbrev cX4_look : ByteArray := prog_1_method_33_code
def yX4_look : MethodName := ⟨RX4, "look", "()LTiltedCards$Sight;"⟩
abbrev cX4_ghostsWithShift : ByteArray := prog_1_method_34_code
def yX4_ghostsWithShift : MethodName := ⟨RX4, "ghostsWithShift", "(I)I"⟩
abbrev cX4_findBestSlices : ByteArray := prog_1_method_35_code
def yX4_findBestSlices : MethodName := ⟨RX4, "findBestSlices", "()V"⟩
def RX5 : String := "TiltedCardsModel"
def TX5 : u_T := fun k => match k with
  | 0 => ("TiltedCardsModel", "all", "[I", true)
  | 1 => ("TiltedCardsModel", "kept", "[I", true)
  | 2 => ("TiltedCardsModel", "history", "[I", true)
  | 3 => ("TiltedCardsModel", "historyLong", "I", false)
  | 4 => ("TiltedCardsModel", "snapshot", "[I", true)
  | 5 => ("TiltedCardsModel", "isTaken", "I", false)
  | 6 => ("TiltedCardsModel", "slots", "[I", true)
  | 7 => ("TiltedCardsModel", "best", "[I", true)
  | 8 => ("TiltedCardsModel", "had", "[I", true)
  | 9 => ("TiltedCardsModel", "text", "[I", true)
  | 10 => ("TiltedCardsModel", "textLong", "I", false)
  | 11 => ("TiltedCardsModel", "spot", "I", false)
  | 12 => ("TiltedCardsModel", "readViews", "I", false)
  | 13 => ("TiltedCardsModel", "readSlices", "I", false)
  | _ => ("TiltedCardsModel", "orderAt", "I", false)
def tyX5 : Nat → FieldType := fun k => match k with
  | 0 => .array .int
  | 1 => .array .int
  | 2 => .array .int
  | 3 => .int
  | 4 => .array .int
  | 5 => .int
  | 6 => .array .int
  | 7 => .array .int
  | 8 => .array .int
  | 9 => .array .int
  | 10 => .int
  | 11 => .int
  | 12 => .int
  | 13 => .int
  | _ => .int
theorem nmX5 : ∀ a, a < 15 → ∀ b, b < 15 → a ≠ b → (TX5 a).2.1 ≠ (TX5 b).2.1 := by decide +kernel
theorem tyX5_ok : ∀ k, k < 15 → parseFieldDescriptor (TX5 k).2.2.1 = some (tyX5 k) := by decide +kernel
abbrev cX5_init : ByteArray := prog_7_method_1_code
def yX5_init : MethodName := ⟨RX5, "<init>", "()V"⟩
abbrev cX5_in : ByteArray := prog_7_method_3_code
def yX5_in : MethodName := ⟨RX5, "in", "(JJJ)Z"⟩
abbrev cX5_remember : ByteArray := prog_7_method_4_code
def yX5_remember : MethodName := ⟨RX5, "remember", "()V"⟩
abbrev cX5_acted : ByteArray := prog_7_method_5_code
def yX5_acted : MethodName := ⟨RX5, "acted", "(I)I"⟩
abbrev cX5_isView : ByteArray := prog_7_method_6_code
def yX5_isView : MethodName := ⟨RX5, "isView", "(I)Z"⟩
abbrev cX5_isRidge : ByteArray := prog_7_method_7_code
def yX5_isRidge : MethodName := ⟨RX5, "isRidge", "(I)Z"⟩
abbrev cX5_isSlice : ByteArray := prog_7_method_8_code
def yX5_isSlice : MethodName := ⟨RX5, "isSlice", "(I)Z"⟩
abbrev cX5_isAngle : ByteArray := prog_7_method_9_code
def yX5_isAngle : MethodName := ⟨RX5, "isAngle", "(I)Z"⟩
abbrev cX5_colourAt : ByteArray := prog_7_method_10_code
def yX5_colourAt : MethodName := ⟨RX5, "colourAt", "(II)I"⟩
abbrev cX5_ordersAsFirst : ByteArray := prog_7_method_11_code
def yX5_ordersAsFirst : MethodName := ⟨RX5, "ordersAsFirst", "()V"⟩
abbrev cX5_dueAt : ByteArray := prog_7_method_12_code
def yX5_dueAt : MethodName := ⟨RX5, "dueAt", "(II)I"⟩
abbrev cX5_placeSeen : ByteArray := prog_7_method_13_code
def yX5_placeSeen : MethodName := ⟨RX5, "placeSeen", "(II)I"⟩
abbrev cX5_laysSlots : ByteArray := prog_7_method_14_code
def yX5_laysSlots : MethodName := ⟨RX5, "laysSlots", "()V"⟩
abbrev cX5_viewSeen : ByteArray := prog_7_method_15_code
def yX5_viewSeen : MethodName := ⟨RX5, "viewSeen", "(II)I"⟩
abbrev cX5_isGhost : ByteArray := prog_7_method_16_code
def yX5_isGhost : MethodName := ⟨RX5, "isGhost", "(II)Z"⟩
abbrev cX5_ghostsAt : ByteArray := prog_7_method_17_code
def yX5_ghostsAt : MethodName := ⟨RX5, "ghostsAt", "(I)I"⟩
abbrev cX5_ghosts : ByteArray := prog_7_method_18_code
def yX5_ghosts : MethodName := ⟨RX5, "ghosts", "()I"⟩
abbrev cX5_ghostsNow : ByteArray := prog_7_method_19_code
def yX5_ghostsNow : MethodName := ⟨RX5, "ghostsNow", "()I"⟩
abbrev cX5_showing : ByteArray := prog_7_method_20_code
def yX5_showing : MethodName := ⟨RX5, "showing", "(II)I"⟩
abbrev cX5_wholeAngles : ByteArray := prog_7_method_21_code
def yX5_wholeAngles : MethodName := ⟨RX5, "wholeAngles", "(I)I"⟩
abbrev cX5_whole : ByteArray := prog_7_method_22_code
def yX5_whole : MethodName := ⟨RX5, "whole", "(Z)I"⟩
abbrev cX5_colour : ByteArray := prog_7_method_23_code
def yX5_colour : MethodName := ⟨RX5, "colour", "(III)I"⟩
abbrev cX5_addView : ByteArray := prog_7_method_24_code
def yX5_addView : MethodName := ⟨RX5, "addView", "()I"⟩
abbrev cX5_removeView : ByteArray := prog_7_method_25_code
def yX5_removeView : MethodName := ⟨RX5, "removeView", "(I)I"⟩
abbrev cX5_swap : ByteArray := prog_7_method_26_code
def yX5_swap : MethodName := ⟨RX5, "swap", "(II)I"⟩
abbrev cX5_settles : ByteArray := prog_7_method_27_code
def yX5_settles : MethodName := ⟨RX5, "settles", "(IIZ)I"⟩
abbrev cX5_setPitch : ByteArray := prog_7_method_28_code
def yX5_setPitch : MethodName := ⟨RX5, "setPitch", "(I)I"⟩
abbrev cX5_setShift : ByteArray := prog_7_method_29_code
def yX5_setShift : MethodName := ⟨RX5, "setShift", "(I)I"⟩
abbrev cX5_setLean : ByteArray := prog_7_method_30_code
def yX5_setLean : MethodName := ⟨RX5, "setLean", "(I)I"⟩
abbrev cX5_slice : ByteArray := prog_7_method_31_code
def yX5_slice : MethodName := ⟨RX5, "slice", "(II)I"⟩
abbrev cX5_laysOrder : ByteArray := prog_7_method_32_code
def yX5_laysOrder : MethodName := ⟨RX5, "laysOrder", "(I)Z"⟩
abbrev cX5_findsOrder : ByteArray := prog_7_method_33_code
def yX5_findsOrder : MethodName := ⟨RX5, "findsOrder", "()V"⟩
abbrev cX5_order : ByteArray := prog_7_method_34_code
def yX5_order : MethodName := ⟨RX5, "order", "()I"⟩
abbrev cX5_press : ByteArray := prog_7_method_35_code
def yX5_press : MethodName := ⟨RX5, "press", "(I)I"⟩
abbrev cX5_type : ByteArray := prog_7_method_36_code
def yX5_type : MethodName := ⟨RX5, "type", "(C)I"⟩
abbrev cX5_clearText : ByteArray := prog_7_method_37_code
def yX5_clearText : MethodName := ⟨RX5, "clearText", "()I"⟩
abbrev cX5_isHere : ByteArray := prog_7_method_38_code
def yX5_isHere : MethodName := ⟨RX5, "isHere", "(II)Z"⟩
abbrev cX5_takes : ByteArray := prog_7_method_39_code
def yX5_takes : MethodName := ⟨RX5, "takes", "(I)Z"⟩
abbrev cX5_readsDigits : ByteArray := prog_7_method_40_code
def yX5_readsDigits : MethodName := ⟨RX5, "readsDigits", "(II)I"⟩
abbrev cX5_fault : ByteArray := prog_7_method_41_code
def yX5_fault : MethodName := ⟨RX5, "fault", "()I"⟩
abbrev cX5_read : ByteArray := prog_7_method_42_code
def yX5_read : MethodName := ⟨RX5, "read", "()I"⟩
abbrev cX5_undo : ByteArray := prog_7_method_43_code
def yX5_undo : MethodName := ⟨RX5, "undo", "()I"⟩
abbrev cX5_keep : ByteArray := prog_7_method_44_code
def yX5_keep : MethodName := ⟨RX5, "keep", "()I"⟩
abbrev cX5_restore : ByteArray := prog_7_method_45_code
def yX5_restore : MethodName := ⟨RX5, "restore", "()I"⟩
abbrev cX5_colourOf : ByteArray := prog_7_method_46_code
def yX5_colourOf : MethodName := ⟨RX5, "colourOf", "(II)I"⟩
abbrev cX5_viewOf : ByteArray := prog_7_method_47_code
def yX5_viewOf : MethodName := ⟨RX5, "viewOf", "(I)I"⟩
abbrev cX5_dueOf : ByteArray := prog_7_method_48_code
def yX5_dueOf : MethodName := ⟨RX5, "dueOf", "(II)I"⟩
abbrev cX5_behind : ByteArray := prog_7_method_49_code
def yX5_behind : MethodName := ⟨RX5, "behind", "(III)I"⟩
abbrev cX5_seen : ByteArray := prog_7_method_50_code
def yX5_seen : MethodName := ⟨RX5, "seen", "(III)I"⟩
abbrev cX5_wholeAt : ByteArray := prog_7_method_51_code
def yX5_wholeAt : MethodName := ⟨RX5, "wholeAt", "(I)I"⟩
abbrev cX5_mostAt : ByteArray := prog_7_method_52_code
def yX5_mostAt : MethodName := ⟨RX5, "mostAt", "(I)I"⟩
abbrev cX5_at : ByteArray := prog_7_method_53_code
def yX5_at : MethodName := ⟨RX5, "at", "(II)I"⟩
abbrev cX5_clearest : ByteArray := prog_7_method_54_code
def yX5_clearest : MethodName := ⟨RX5, "clearest", "(I)I"⟩
abbrev cX5_slicesOf : ByteArray := prog_7_method_55_code
def yX5_slicesOf : MethodName := ⟨RX5, "slicesOf", "(I)I"⟩
abbrev cX5_view : ByteArray := prog_7_method_56_code
def yX5_view : MethodName := ⟨RX5, "view", "(II)I"⟩
abbrev cX5_bestOrder : ByteArray := prog_7_method_57_code
def yX5_bestOrder : MethodName := ⟨RX5, "bestOrder", "(I)I"⟩
abbrev cX5_bestShift : ByteArray := prog_7_method_58_code
def yX5_bestShift : MethodName := ⟨RX5, "bestShift", "()I"⟩
abbrev cX5_ifSlice : ByteArray := prog_7_method_59_code
def yX5_ifSlice : MethodName := ⟨RX5, "ifSlice", "(II)I"⟩
abbrev cX5_count : ByteArray := prog_7_method_60_code
def yX5_count : MethodName := ⟨RX5, "count", "(I)I"⟩
def RJ9 : String := "java/lang/Math"
def TJ9 : u_T := fun k => match k with
  | _ => ("", "", "", false)
def tyJ9 : Nat → FieldType := fun k => match k with
  | _ => .int
theorem nmJ9 : ∀ a, a < 0 → ∀ b, b < 0 → a ≠ b → (TJ9 a).2.1 ≠ (TJ9 b).2.1 := by decide +kernel
theorem tyJ9_ok : ∀ k, k < 0 → parseFieldDescriptor (TJ9 k).2.2.1 = some (tyJ9 k) := by decide +kernel
abbrev cJ9_max_7cf53 : ByteArray := prog_8_method_65_code
def yJ9_max_7cf53 : MethodName := ⟨RJ9, "max", "(II)I"⟩
abbrev cJ9_min_7cf53 : ByteArray := prog_8_method_69_code
def yJ9_min_7cf53 : MethodName := ⟨RJ9, "min", "(II)I"⟩
def RL : String := "TiltedCardsLaw"
abbrev cL_law : ByteArray := code
def yL_law : MethodName := ⟨RL, "law", "([I)Z"⟩
abbrev vwCl : List vw_C := [(RX0, TX0, 9), (RX1, TX1, 3), (RX2, TX2, 2), (RX3, TX3, 3), (RX4, TX4, 9), (RX5, TX5, 15)]
def R_law : String := "TiltedCardsLaw"
end
section
theorem dX0_init_0 : decode cX0_init 0 = .ok (.aload_n 0, 1) := by decide +kernel
theorem dX0_init_1 : decode cX0_init 1 = .ok (.invokespecial 3, 3) := by decide +kernel
theorem dX0_init_4 : decode cX0_init 4 = .ok (.aload_n 0, 1) := by decide +kernel
theorem dX0_init_5 : decode cX0_init 5 = .ok (.iconst 2, 1) := by decide +kernel
theorem dX0_init_6 : decode cX0_init 6 = .ok (.putfield 9, 3) := by decide +kernel
theorem dX0_init_9 : decode cX0_init 9 = .ok (.aload_n 0, 1) := by decide +kernel
theorem dX0_init_10 : decode cX0_init 10 = .ok (.bipush 48, 2) := by decide +kernel
theorem dX0_init_12 : decode cX0_init 12 = .ok (.newarray .int, 2) := by decide +kernel
theorem dX0_init_14 : decode cX0_init 14 = .ok (.putfield 15, 3) := by decide +kernel
theorem dX0_init_17 : decode cX0_init 17 = .ok (.aload_n 0, 1) := by decide +kernel
theorem dX0_init_18 : decode cX0_init 18 = .ok (.iconst 2, 1) := by decide +kernel
theorem dX0_init_19 : decode cX0_init 19 = .ok (.putfield 19, 3) := by decide +kernel
theorem dX0_init_22 : decode cX0_init 22 = .ok (.aload_n 0, 1) := by decide +kernel
theorem dX0_init_23 : decode cX0_init 23 = .ok (.bipush 6, 2) := by decide +kernel
theorem dX0_init_25 : decode cX0_init 25 = .ok (.newarray .int, 2) := by decide +kernel
theorem dX0_init_27 : decode cX0_init 27 = .ok (.putfield 22, 3) := by decide +kernel
theorem dX0_init_30 : decode cX0_init 30 = .ok (.aload_n 0, 1) := by decide +kernel
theorem dX0_init_31 : decode cX0_init 31 = .ok (.iconst 0, 1) := by decide +kernel
theorem dX0_init_32 : decode cX0_init 32 = .ok (.putfield 25, 3) := by decide +kernel
theorem dX0_init_35 : decode cX0_init 35 = .ok (.aload_n 0, 1) := by decide +kernel
theorem dX0_init_36 : decode cX0_init 36 = .ok (.iconst 0, 1) := by decide +kernel
theorem dX0_init_37 : decode cX0_init 37 = .ok (.putfield 28, 3) := by decide +kernel
theorem dX0_init_40 : decode cX0_init 40 = .ok (.aload_n 0, 1) := by decide +kernel
theorem dX0_init_41 : decode cX0_init 41 = .ok (.iconst 0, 1) := by decide +kernel
theorem dX0_init_42 : decode cX0_init 42 = .ok (.putfield 31, 3) := by decide +kernel
theorem dX0_init_45 : decode cX0_init 45 = .ok (.aload_n 0, 1) := by decide +kernel
theorem dX0_init_46 : decode cX0_init 46 = .ok (.iconst 0, 1) := by decide +kernel
theorem dX0_init_47 : decode cX0_init 47 = .ok (.putfield 34, 3) := by decide +kernel
theorem dX0_init_50 : decode cX0_init 50 = .ok (.aload_n 0, 1) := by decide +kernel
theorem dX0_init_51 : decode cX0_init 51 = .ok (.iconst 0, 1) := by decide +kernel
theorem dX0_init_52 : decode cX0_init 52 = .ok (.putfield 37, 3) := by decide +kernel
theorem dX0_init_55 : decode cX0_init 55 = .ok (.aload_n 0, 1) := by decide +kernel
theorem dX0_init_56 : decode cX0_init 56 = .ok (.invokevirtual 40, 3) := by decide +kernel
theorem dX0_init_59 : decode cX0_init 59 = .ok (.return_, 1) := by decide +kernel
theorem dX0_copyFrom_0 : decode cX0_copyFrom 0 = .ok (.aload_n 0, 1) := by decide +kernel
theorem dX0_copyFrom_1 : decode cX0_copyFrom 1 = .ok (.aload_n 1, 1) := by decide +kernel
theorem dX0_copyFrom_2 : decode cX0_copyFrom 2 = .ok (.getfield 9, 3) := by decide +kernel
theorem dX0_copyFrom_5 : decode cX0_copyFrom 5 = .ok (.putfield 9, 3) := by decide +kernel
theorem dX0_copyFrom_8 : decode cX0_copyFrom 8 = .ok (.aload_n 1, 1) := by decide +kernel
theorem dX0_copyFrom_9 : decode cX0_copyFrom 9 = .ok (.getfield 15, 3) := by decide +kernel
theorem dX0_copyFrom_12 : decode cX0_copyFrom 12 = .ok (.aload_n 0, 1) := by decide +kernel
theorem dX0_copyFrom_13 : decode cX0_copyFrom 13 = .ok (.getfield 15, 3) := by decide +kernel
theorem dX0_copyFrom_16 : decode cX0_copyFrom 16 = .ok (.invokestatic 43, 3) := by decide +kernel
theorem dX0_copyFrom_19 : decode cX0_copyFrom 19 = .ok (.aload_n 0, 1) := by decide +kernel
theorem dX0_copyFrom_20 : decode cX0_copyFrom 20 = .ok (.aload_n 1, 1) := by decide +kernel
theorem dX0_copyFrom_21 : decode cX0_copyFrom 21 = .ok (.getfield 19, 3) := by decide +kernel
theorem dX0_copyFrom_24 : decode cX0_copyFrom 24 = .ok (.putfield 19, 3) := by decide +kernel
theorem dX0_copyFrom_27 : decode cX0_copyFrom 27 = .ok (.aload_n 1, 1) := by decide +kernel
theorem dX0_copyFrom_28 : decode cX0_copyFrom 28 = .ok (.getfield 22, 3) := by decide +kernel
theorem dX0_copyFrom_31 : decode cX0_copyFrom 31 = .ok (.aload_n 0, 1) := by decide +kernel
theorem dX0_copyFrom_32 : decode cX0_copyFrom 32 = .ok (.getfield 22, 3) := by decide +kernel
theorem dX0_copyFrom_35 : decode cX0_copyFrom 35 = .ok (.invokestatic 43, 3) := by decide +kernel
theorem dX0_copyFrom_38 : decode cX0_copyFrom 38 = .ok (.aload_n 0, 1) := by decide +kernel
theorem dX0_copyFrom_39 : decode cX0_copyFrom 39 = .ok (.aload_n 1, 1) := by decide +kernel
theorem dX0_copyFrom_40 : decode cX0_copyFrom 40 = .ok (.getfield 25, 3) := by decide +kernel
theorem dX0_copyFrom_43 : decode cX0_copyFrom 43 = .ok (.putfield 25, 3) := by decide +kernel
theorem dX0_copyFrom_46 : decode cX0_copyFrom 46 = .ok (.aload_n 0, 1) := by decide +kernel
theorem dX0_copyFrom_47 : decode cX0_copyFrom 47 = .ok (.aload_n 1, 1) := by decide +kernel
theorem dX0_copyFrom_48 : decode cX0_copyFrom 48 = .ok (.getfield 28, 3) := by decide +kernel
theorem dX0_copyFrom_51 : decode cX0_copyFrom 51 = .ok (.putfield 28, 3) := by decide +kernel
theorem dX0_copyFrom_54 : decode cX0_copyFrom 54 = .ok (.aload_n 0, 1) := by decide +kernel
theorem dX0_copyFrom_55 : decode cX0_copyFrom 55 = .ok (.aload_n 1, 1) := by decide +kernel
theorem dX0_copyFrom_56 : decode cX0_copyFrom 56 = .ok (.getfield 31, 3) := by decide +kernel
theorem dX0_copyFrom_59 : decode cX0_copyFrom 59 = .ok (.putfield 31, 3) := by decide +kernel
theorem dX0_copyFrom_62 : decode cX0_copyFrom 62 = .ok (.aload_n 0, 1) := by decide +kernel
theorem dX0_copyFrom_63 : decode cX0_copyFrom 63 = .ok (.aload_n 1, 1) := by decide +kernel
theorem dX0_copyFrom_64 : decode cX0_copyFrom 64 = .ok (.getfield 34, 3) := by decide +kernel
theorem dX0_copyFrom_67 : decode cX0_copyFrom 67 = .ok (.putfield 34, 3) := by decide +kernel
theorem dX0_copyFrom_70 : decode cX0_copyFrom 70 = .ok (.aload_n 0, 1) := by decide +kernel
theorem dX0_copyFrom_71 : decode cX0_copyFrom 71 = .ok (.aload_n 1, 1) := by decide +kernel
theorem dX0_copyFrom_72 : decode cX0_copyFrom 72 = .ok (.getfield 37, 3) := by decide +kernel
theorem dX0_copyFrom_75 : decode cX0_copyFrom 75 = .ok (.putfield 37, 3) := by decide +kernel
theorem dX0_copyFrom_78 : decode cX0_copyFrom 78 = .ok (.return_, 1) := by decide +kernel
theorem dX0_hasView_0 : decode cX0_hasView 0 = .ok (.iload_n 1, 1) := by decide +kernel
theorem dX0_hasView_1 : decode cX0_hasView 1 = .ok (.iconst 0, 1) := by decide +kernel
theorem dX0_hasView_2 : decode cX0_hasView 2 = .ok (.aload_n 0, 1) := by decide +kernel
theorem dX0_hasView_3 : decode cX0_hasView 3 = .ok (.getfield 9, 3) := by decide +kernel
theorem dX0_hasView_6 : decode cX0_hasView 6 = .ok (.iconst 1, 1) := by decide +kernel
theorem dX0_hasView_7 : decode cX0_hasView 7 = .ok (.isub, 1) := by decide +kernel
theorem dX0_hasView_8 : decode cX0_hasView 8 = .ok (.invokestatic 47, 3) := by decide +kernel
theorem dX0_hasView_11 : decode cX0_hasView 11 = .ok (.ireturn, 1) := by decide +kernel
theorem dX0_hasSlice_0 : decode cX0_hasSlice 0 = .ok (.iload_n 1, 1) := by decide +kernel
theorem dX0_hasSlice_1 : decode cX0_hasSlice 1 = .ok (.iconst 0, 1) := by decide +kernel
theorem dX0_hasSlice_2 : decode cX0_hasSlice 2 = .ok (.aload_n 0, 1) := by decide +kernel
theorem dX0_hasSlice_3 : decode cX0_hasSlice 3 = .ok (.getfield 19, 3) := by decide +kernel
theorem dX0_hasSlice_6 : decode cX0_hasSlice 6 = .ok (.iconst 1, 1) := by decide +kernel
theorem dX0_hasSlice_7 : decode cX0_hasSlice 7 = .ok (.isub, 1) := by decide +kernel
theorem dX0_hasSlice_8 : decode cX0_hasSlice 8 = .ok (.invokestatic 47, 3) := by decide +kernel
theorem dX0_hasSlice_11 : decode cX0_hasSlice 11 = .ok (.ireturn, 1) := by decide +kernel
theorem dX0_colourIn_0 : decode cX0_colourIn 0 = .ok (.iload_n 1, 1) := by decide +kernel
theorem dX0_colourIn_1 : decode cX0_colourIn 1 = .ok (.iconst 0, 1) := by decide +kernel
theorem dX0_colourIn_2 : decode cX0_colourIn 2 = .ok (.iconst 3, 1) := by decide +kernel
theorem dX0_colourIn_3 : decode cX0_colourIn 3 = .ok (.invokestatic 47, 3) := by decide +kernel
theorem dX0_colourIn_6 : decode cX0_colourIn 6 = .ok (.ifCond .eq 10, 3) := by decide +kernel
theorem dX0_colourIn_9 : decode cX0_colourIn 9 = .ok (.iload_n 2, 1) := by decide +kernel
theorem dX0_colourIn_10 : decode cX0_colourIn 10 = .ok (.invokestatic 51, 3) := by decide +kernel
theorem dX0_colourIn_13 : decode cX0_colourIn 13 = .ok (.ifCond .ne 5, 3) := by decide +kernel
theorem dX0_colourIn_16 : decode cX0_colourIn 16 = .ok (.iconst (-1), 1) := by decide +kernel
theorem dX0_colourIn_17 : decode cX0_colourIn 17 = .ok (.ireturn, 1) := by decide +kernel
theorem dX0_colourIn_18 : decode cX0_colourIn 18 = .ok (.aload_n 0, 1) := by decide +kernel
theorem dX0_colourIn_19 : decode cX0_colourIn 19 = .ok (.getfield 15, 3) := by decide +kernel
theorem dX0_colourIn_22 : decode cX0_colourIn 22 = .ok (.iload_n 1, 1) := by decide +kernel
theorem dX0_colourIn_23 : decode cX0_colourIn 23 = .ok (.bipush 12, 2) := by decide +kernel
theorem dX0_colourIn_25 : decode cX0_colourIn 25 = .ok (.imul, 1) := by decide +kernel
theorem dX0_colourIn_26 : decode cX0_colourIn 26 = .ok (.iload_n 2, 1) := by decide +kernel
theorem dX0_colourIn_27 : decode cX0_colourIn 27 = .ok (.iadd, 1) := by decide +kernel
theorem dX0_colourIn_28 : decode cX0_colourIn 28 = .ok (.iaload, 1) := by decide +kernel
theorem dX0_colourIn_29 : decode cX0_colourIn 29 = .ok (.ireturn, 1) := by decide +kernel
theorem dX0_paint_0 : decode cX0_paint 0 = .ok (.iload_n 1, 1) := by decide +kernel
theorem dX0_paint_1 : decode cX0_paint 1 = .ok (.iconst 0, 1) := by decide +kernel
theorem dX0_paint_2 : decode cX0_paint 2 = .ok (.iconst 3, 1) := by decide +kernel
theorem dX0_paint_3 : decode cX0_paint 3 = .ok (.invokestatic 47, 3) := by decide +kernel
theorem dX0_paint_6 : decode cX0_paint 6 = .ok (.ifCond .eq 22, 3) := by decide +kernel
theorem dX0_paint_9 : decode cX0_paint 9 = .ok (.iload_n 2, 1) := by decide +kernel
theorem dX0_paint_10 : decode cX0_paint 10 = .ok (.invokestatic 51, 3) := by decide +kernel
theorem dX0_paint_13 : decode cX0_paint 13 = .ok (.ifCond .eq 15, 3) := by decide +kernel
theorem dX0_paint_16 : decode cX0_paint 16 = .ok (.aload_n 0, 1) := by decide +kernel
theorem dX0_paint_17 : decode cX0_paint 17 = .ok (.getfield 15, 3) := by decide +kernel
theorem dX0_paint_20 : decode cX0_paint 20 = .ok (.iload_n 1, 1) := by decide +kernel
theorem dX0_paint_21 : decode cX0_paint 21 = .ok (.bipush 12, 2) := by decide +kernel
theorem dX0_paint_23 : decode cX0_paint 23 = .ok (.imul, 1) := by decide +kernel
theorem dX0_paint_24 : decode cX0_paint 24 = .ok (.iload_n 2, 1) := by decide +kernel
theorem dX0_paint_25 : decode cX0_paint 25 = .ok (.iadd, 1) := by decide +kernel
theorem dX0_paint_26 : decode cX0_paint 26 = .ok (.iload_n 3, 1) := by decide +kernel
theorem dX0_paint_27 : decode cX0_paint 27 = .ok (.iastore, 1) := by decide +kernel
theorem dX0_paint_28 : decode cX0_paint 28 = .ok (.return_, 1) := by decide +kernel
theorem dX0_appendView_0 : decode cX0_appendView 0 = .ok (.iconst 0, 1) := by decide +kernel
theorem dX0_appendView_1 : decode cX0_appendView 1 = .ok (.istore_n 1, 1) := by decide +kernel
theorem dX0_appendView_2 : decode cX0_appendView 2 = .ok (.iload_n 1, 1) := by decide +kernel
theorem dX0_appendView_3 : decode cX0_appendView 3 = .ok (.bipush 12, 2) := by decide +kernel
theorem dX0_appendView_5 : decode cX0_appendView 5 = .ok (.if_icmp .ge 19, 3) := by decide +kernel
theorem dX0_appendView_8 : decode cX0_appendView 8 = .ok (.aload_n 0, 1) := by decide +kernel
theorem dX0_appendView_9 : decode cX0_appendView 9 = .ok (.aload_n 0, 1) := by decide +kernel
theorem dX0_appendView_10 : decode cX0_appendView 10 = .ok (.getfield 9, 3) := by decide +kernel
theorem dX0_appendView_13 : decode cX0_appendView 13 = .ok (.iload_n 1, 1) := by decide +kernel
theorem dX0_appendView_14 : decode cX0_appendView 14 = .ok (.iconst 0, 1) := by decide +kernel
theorem dX0_appendView_15 : decode cX0_appendView 15 = .ok (.invokevirtual 55, 3) := by decide +kernel
theorem dX0_appendView_18 : decode cX0_appendView 18 = .ok (.iinc 1 1, 3) := by decide +kernel
theorem dX0_appendView_21 : decode cX0_appendView 21 = .ok (.goto (-19), 3) := by decide +kernel
theorem dX0_appendView_24 : decode cX0_appendView 24 = .ok (.aload_n 0, 1) := by decide +kernel
theorem dX0_appendView_25 : decode cX0_appendView 25 = .ok (.dup, 1) := by decide +kernel
theorem dX0_appendView_26 : decode cX0_appendView 26 = .ok (.getfield 9, 3) := by decide +kernel
theorem dX0_appendView_29 : decode cX0_appendView 29 = .ok (.iconst 1, 1) := by decide +kernel
theorem dX0_appendView_30 : decode cX0_appendView 30 = .ok (.iadd, 1) := by decide +kernel
theorem dX0_appendView_31 : decode cX0_appendView 31 = .ok (.putfield 9, 3) := by decide +kernel
theorem dX0_appendView_34 : decode cX0_appendView 34 = .ok (.aload_n 0, 1) := by decide +kernel
theorem dX0_appendView_35 : decode cX0_appendView 35 = .ok (.invokevirtual 40, 3) := by decide +kernel
theorem dX0_appendView_38 : decode cX0_appendView 38 = .ok (.return_, 1) := by decide +kernel
theorem dX0_dropView_0 : decode cX0_dropView 0 = .ok (.iload_n 1, 1) := by decide +kernel
theorem dX0_dropView_1 : decode cX0_dropView 1 = .ok (.iconst 1, 1) := by decide +kernel
theorem dX0_dropView_2 : decode cX0_dropView 2 = .ok (.iadd, 1) := by decide +kernel
theorem dX0_dropView_3 : decode cX0_dropView 3 = .ok (.istore_n 2, 1) := by decide +kernel
theorem dX0_dropView_4 : decode cX0_dropView 4 = .ok (.iload_n 2, 1) := by decide +kernel
theorem dX0_dropView_5 : decode cX0_dropView 5 = .ok (.aload_n 0, 1) := by decide +kernel
theorem dX0_dropView_6 : decode cX0_dropView 6 = .ok (.getfield 9, 3) := by decide +kernel
theorem dX0_dropView_9 : decode cX0_dropView 9 = .ok (.if_icmp .ge 37, 3) := by decide +kernel
theorem dX0_dropView_12 : decode cX0_dropView 12 = .ok (.iconst 0, 1) := by decide +kernel
theorem dX0_dropView_13 : decode cX0_dropView 13 = .ok (.istore_n 3, 1) := by decide +kernel
theorem dX0_dropView_14 : decode cX0_dropView 14 = .ok (.iload_n 3, 1) := by decide +kernel
theorem dX0_dropView_15 : decode cX0_dropView 15 = .ok (.bipush 12, 2) := by decide +kernel
theorem dX0_dropView_17 : decode cX0_dropView 17 = .ok (.if_icmp .ge 23, 3) := by decide +kernel
theorem dX0_dropView_20 : decode cX0_dropView 20 = .ok (.aload_n 0, 1) := by decide +kernel
theorem dX0_dropView_21 : decode cX0_dropView 21 = .ok (.iload_n 2, 1) := by decide +kernel
theorem dX0_dropView_22 : decode cX0_dropView 22 = .ok (.iconst 1, 1) := by decide +kernel
theorem dX0_dropView_23 : decode cX0_dropView 23 = .ok (.isub, 1) := by decide +kernel
theorem dX0_dropView_24 : decode cX0_dropView 24 = .ok (.iload_n 3, 1) := by decide +kernel
theorem dX0_dropView_25 : decode cX0_dropView 25 = .ok (.aload_n 0, 1) := by decide +kernel
theorem dX0_dropView_26 : decode cX0_dropView 26 = .ok (.iload_n 2, 1) := by decide +kernel
theorem dX0_dropView_27 : decode cX0_dropView 27 = .ok (.iload_n 3, 1) := by decide +kernel
theorem dX0_dropView_28 : decode cX0_dropView 28 = .ok (.invokevirtual 59, 3) := by decide +kernel
theorem dX0_dropView_31 : decode cX0_dropView 31 = .ok (.invokevirtual 55, 3) := by decide +kernel
theorem dX0_dropView_34 : decode cX0_dropView 34 = .ok (.iinc 3 1, 3) := by decide +kernel
theorem dX0_dropView_37 : decode cX0_dropView 37 = .ok (.goto (-23), 3) := by decide +kernel
theorem dX0_dropView_40 : decode cX0_dropView 40 = .ok (.iinc 2 1, 3) := by decide +kernel
theorem dX0_dropView_43 : decode cX0_dropView 43 = .ok (.goto (-39), 3) := by decide +kernel
theorem dX0_dropView_46 : decode cX0_dropView 46 = .ok (.aload_n 0, 1) := by decide +kernel
theorem dX0_dropView_47 : decode cX0_dropView 47 = .ok (.dup, 1) := by decide +kernel
theorem dX0_dropView_48 : decode cX0_dropView 48 = .ok (.getfield 9, 3) := by decide +kernel
theorem dX0_dropView_51 : decode cX0_dropView 51 = .ok (.iconst 1, 1) := by decide +kernel
theorem dX0_dropView_52 : decode cX0_dropView 52 = .ok (.isub, 1) := by decide +kernel
theorem dX0_dropView_53 : decode cX0_dropView 53 = .ok (.putfield 9, 3) := by decide +kernel
theorem dX0_dropView_56 : decode cX0_dropView 56 = .ok (.aload_n 0, 1) := by decide +kernel
theorem dX0_dropView_57 : decode cX0_dropView 57 = .ok (.invokevirtual 40, 3) := by decide +kernel
theorem dX0_dropView_60 : decode cX0_dropView 60 = .ok (.return_, 1) := by decide +kernel
theorem dX0_exchangeViews_0 : decode cX0_exchangeViews 0 = .ok (.iconst 0, 1) := by decide +kernel
theorem dX0_exchangeViews_1 : decode cX0_exchangeViews 1 = .ok (.istore_n 3, 1) := by decide +kernel
theorem dX0_exchangeViews_2 : decode cX0_exchangeViews 2 = .ok (.iconst 0, 1) := by decide +kernel
theorem dX0_exchangeViews_3 : decode cX0_exchangeViews 3 = .ok (.istore 4, 2) := by decide +kernel
theorem dX0_exchangeViews_5 : decode cX0_exchangeViews 5 = .ok (.iload 4, 2) := by decide +kernel
theorem dX0_exchangeViews_7 : decode cX0_exchangeViews 7 = .ok (.bipush 12, 2) := by decide +kernel
theorem dX0_exchangeViews_9 : decode cX0_exchangeViews 9 = .ok (.if_icmp .ge 55, 3) := by decide +kernel
theorem dX0_exchangeViews_12 : decode cX0_exchangeViews 12 = .ok (.aload_n 0, 1) := by decide +kernel
theorem dX0_exchangeViews_13 : decode cX0_exchangeViews 13 = .ok (.iload_n 1, 1) := by decide +kernel
theorem dX0_exchangeViews_14 : decode cX0_exchangeViews 14 = .ok (.iload 4, 2) := by decide +kernel
theorem dX0_exchangeViews_16 : decode cX0_exchangeViews 16 = .ok (.invokevirtual 59, 3) := by decide +kernel
theorem dX0_exchangeViews_19 : decode cX0_exchangeViews 19 = .ok (.istore 5, 2) := by decide +kernel
theorem dX0_exchangeViews_21 : decode cX0_exchangeViews 21 = .ok (.aload_n 0, 1) := by decide +kernel
theorem dX0_exchangeViews_22 : decode cX0_exchangeViews 22 = .ok (.iload_n 2, 1) := by decide +kernel
theorem dX0_exchangeViews_23 : decode cX0_exchangeViews 23 = .ok (.iload 4, 2) := by decide +kernel
theorem dX0_exchangeViews_25 : decode cX0_exchangeViews 25 = .ok (.invokevirtual 59, 3) := by decide +kernel
theorem dX0_exchangeViews_28 : decode cX0_exchangeViews 28 = .ok (.istore 6, 2) := by decide +kernel
theorem dX0_exchangeViews_30 : decode cX0_exchangeViews 30 = .ok (.iload 5, 2) := by decide +kernel
theorem dX0_exchangeViews_32 : decode cX0_exchangeViews 32 = .ok (.iload 6, 2) := by decide +kernel
theorem dX0_exchangeViews_34 : decode cX0_exchangeViews 34 = .ok (.if_icmp .eq 6, 3) := by decide +kernel
theorem dX0_exchangeViews_37 : decode cX0_exchangeViews 37 = .ok (.iinc 3 1, 3) := by decide +kernel
theorem dX0_exchangeViews_40 : decode cX0_exchangeViews 40 = .ok (.aload_n 0, 1) := by decide +kernel
theorem dX0_exchangeViews_41 : decode cX0_exchangeViews 41 = .ok (.iload_n 1, 1) := by decide +kernel
theorem dX0_exchangeViews_42 : decode cX0_exchangeViews 42 = .ok (.iload 4, 2) := by decide +kernel
theorem dX0_exchangeViews_44 : decode cX0_exchangeViews 44 = .ok (.iload 6, 2) := by decide +kernel
theorem dX0_exchangeViews_46 : decode cX0_exchangeViews 46 = .ok (.invokevirtual 55, 3) := by decide +kernel
theorem dX0_exchangeViews_49 : decode cX0_exchangeViews 49 = .ok (.aload_n 0, 1) := by decide +kernel
theorem dX0_exchangeViews_50 : decode cX0_exchangeViews 50 = .ok (.iload_n 2, 1) := by decide +kernel
theorem dX0_exchangeViews_51 : decode cX0_exchangeViews 51 = .ok (.iload 4, 2) := by decide +kernel
theorem dX0_exchangeViews_53 : decode cX0_exchangeViews 53 = .ok (.iload 5, 2) := by decide +kernel
theorem dX0_exchangeViews_55 : decode cX0_exchangeViews 55 = .ok (.invokevirtual 55, 3) := by decide +kernel
theorem dX0_exchangeViews_58 : decode cX0_exchangeViews 58 = .ok (.iinc 4 1, 3) := by decide +kernel
theorem dX0_exchangeViews_61 : decode cX0_exchangeViews 61 = .ok (.goto (-56), 3) := by decide +kernel
theorem dX0_exchangeViews_64 : decode cX0_exchangeViews 64 = .ok (.iload_n 3, 1) := by decide +kernel
theorem dX0_exchangeViews_65 : decode cX0_exchangeViews 65 = .ok (.ireturn, 1) := by decide +kernel
theorem dX0_resetSlices_0 : decode cX0_resetSlices 0 = .ok (.iconst 0, 1) := by decide +kernel
theorem dX0_resetSlices_1 : decode cX0_resetSlices 1 = .ok (.istore_n 1, 1) := by decide +kernel
theorem dX0_resetSlices_2 : decode cX0_resetSlices 2 = .ok (.iconst 0, 1) := by decide +kernel
theorem dX0_resetSlices_3 : decode cX0_resetSlices 3 = .ok (.istore_n 2, 1) := by decide +kernel
theorem dX0_resetSlices_4 : decode cX0_resetSlices 4 = .ok (.iload_n 2, 1) := by decide +kernel
theorem dX0_resetSlices_5 : decode cX0_resetSlices 5 = .ok (.bipush 6, 2) := by decide +kernel
theorem dX0_resetSlices_7 : decode cX0_resetSlices 7 = .ok (.if_icmp .ge 34, 3) := by decide +kernel
theorem dX0_resetSlices_10 : decode cX0_resetSlices 10 = .ok (.aload_n 0, 1) := by decide +kernel
theorem dX0_resetSlices_11 : decode cX0_resetSlices 11 = .ok (.getfield 22, 3) := by decide +kernel
theorem dX0_resetSlices_14 : decode cX0_resetSlices 14 = .ok (.iload_n 2, 1) := by decide +kernel
theorem dX0_resetSlices_15 : decode cX0_resetSlices 15 = .ok (.iload_n 1, 1) := by decide +kernel
theorem dX0_resetSlices_16 : decode cX0_resetSlices 16 = .ok (.iastore, 1) := by decide +kernel
theorem dX0_resetSlices_17 : decode cX0_resetSlices 17 = .ok (.iload_n 1, 1) := by decide +kernel
theorem dX0_resetSlices_18 : decode cX0_resetSlices 18 = .ok (.iconst 1, 1) := by decide +kernel
theorem dX0_resetSlices_19 : decode cX0_resetSlices 19 = .ok (.iadd, 1) := by decide +kernel
theorem dX0_resetSlices_20 : decode cX0_resetSlices 20 = .ok (.aload_n 0, 1) := by decide +kernel
theorem dX0_resetSlices_21 : decode cX0_resetSlices 21 = .ok (.getfield 9, 3) := by decide +kernel
theorem dX0_resetSlices_24 : decode cX0_resetSlices 24 = .ok (.if_icmp .ge 9, 3) := by decide +kernel
theorem dX0_resetSlices_27 : decode cX0_resetSlices 27 = .ok (.iload_n 1, 1) := by decide +kernel
theorem dX0_resetSlices_28 : decode cX0_resetSlices 28 = .ok (.iconst 1, 1) := by decide +kernel
theorem dX0_resetSlices_29 : decode cX0_resetSlices 29 = .ok (.iadd, 1) := by decide +kernel
theorem dX0_resetSlices_30 : decode cX0_resetSlices 30 = .ok (.goto 4, 3) := by decide +kernel
theorem dX0_resetSlices_33 : decode cX0_resetSlices 33 = .ok (.iconst 0, 1) := by decide +kernel
theorem dX0_resetSlices_34 : decode cX0_resetSlices 34 = .ok (.istore_n 1, 1) := by decide +kernel
theorem dX0_resetSlices_35 : decode cX0_resetSlices 35 = .ok (.iinc 2 1, 3) := by decide +kernel
theorem dX0_resetSlices_38 : decode cX0_resetSlices 38 = .ok (.goto (-34), 3) := by decide +kernel
theorem dX0_resetSlices_41 : decode cX0_resetSlices 41 = .ok (.return_, 1) := by decide +kernel
theorem dX0_viewDue_0 : decode cX0_viewDue 0 = .ok (.iload_n 1, 1) := by decide +kernel
theorem dX0_viewDue_1 : decode cX0_viewDue 1 = .ok (.ifCond .lt 9, 3) := by decide +kernel
theorem dX0_viewDue_4 : decode cX0_viewDue 4 = .ok (.iload_n 1, 1) := by decide +kernel
theorem dX0_viewDue_5 : decode cX0_viewDue 5 = .ok (.bipush 6, 2) := by decide +kernel
theorem dX0_viewDue_7 : decode cX0_viewDue 7 = .ok (.if_icmp .lt 5, 3) := by decide +kernel
theorem dX0_viewDue_10 : decode cX0_viewDue 10 = .ok (.iconst (-1), 1) := by decide +kernel
theorem dX0_viewDue_11 : decode cX0_viewDue 11 = .ok (.ireturn, 1) := by decide +kernel
theorem dX0_viewDue_12 : decode cX0_viewDue 12 = .ok (.aload_n 0, 1) := by decide +kernel
theorem dX0_viewDue_13 : decode cX0_viewDue 13 = .ok (.getfield 22, 3) := by decide +kernel
theorem dX0_viewDue_16 : decode cX0_viewDue 16 = .ok (.iload_n 1, 1) := by decide +kernel
theorem dX0_viewDue_17 : decode cX0_viewDue 17 = .ok (.iaload, 1) := by decide +kernel
theorem dX0_viewDue_18 : decode cX0_viewDue 18 = .ok (.ireturn, 1) := by decide +kernel
theorem dX0_putSlice_0 : decode cX0_putSlice 0 = .ok (.iload_n 1, 1) := by decide +kernel
theorem dX0_putSlice_1 : decode cX0_putSlice 1 = .ok (.iconst 0, 1) := by decide +kernel
theorem dX0_putSlice_2 : decode cX0_putSlice 2 = .ok (.iconst 5, 1) := by decide +kernel
theorem dX0_putSlice_3 : decode cX0_putSlice 3 = .ok (.invokestatic 47, 3) := by decide +kernel
theorem dX0_putSlice_6 : decode cX0_putSlice 6 = .ok (.ifCond .eq 10, 3) := by decide +kernel
theorem dX0_putSlice_9 : decode cX0_putSlice 9 = .ok (.aload_n 0, 1) := by decide +kernel
theorem dX0_putSlice_10 : decode cX0_putSlice 10 = .ok (.getfield 22, 3) := by decide +kernel
theorem dX0_putSlice_13 : decode cX0_putSlice 13 = .ok (.iload_n 1, 1) := by decide +kernel
theorem dX0_putSlice_14 : decode cX0_putSlice 14 = .ok (.iload_n 2, 1) := by decide +kernel
theorem dX0_putSlice_15 : decode cX0_putSlice 15 = .ok (.iastore, 1) := by decide +kernel
theorem dX0_putSlice_16 : decode cX0_putSlice 16 = .ok (.return_, 1) := by decide +kernel
theorem dX0_putSlices_0 : decode cX0_putSlices 0 = .ok (.aload_n 1, 1) := by decide +kernel
theorem dX0_putSlices_1 : decode cX0_putSlices 1 = .ok (.aload_n 0, 1) := by decide +kernel
theorem dX0_putSlices_2 : decode cX0_putSlices 2 = .ok (.getfield 22, 3) := by decide +kernel
theorem dX0_putSlices_5 : decode cX0_putSlices 5 = .ok (.invokestatic 43, 3) := by decide +kernel
theorem dX0_putSlices_8 : decode cX0_putSlices 8 = .ok (.return_, 1) := by decide +kernel
theorem dX0_hasSlices_0 : decode cX0_hasSlices 0 = .ok (.iconst 0, 1) := by decide +kernel
theorem dX0_hasSlices_1 : decode cX0_hasSlices 1 = .ok (.istore_n 2, 1) := by decide +kernel
theorem dX0_hasSlices_2 : decode cX0_hasSlices 2 = .ok (.iload_n 2, 1) := by decide +kernel
theorem dX0_hasSlices_3 : decode cX0_hasSlices 3 = .ok (.aload_n 0, 1) := by decide +kernel
theorem dX0_hasSlices_4 : decode cX0_hasSlices 4 = .ok (.getfield 19, 3) := by decide +kernel
theorem dX0_hasSlices_7 : decode cX0_hasSlices 7 = .ok (.if_icmp .ge 28, 3) := by decide +kernel
theorem dX0_hasSlices_10 : decode cX0_hasSlices 10 = .ok (.iload_n 2, 1) := by decide +kernel
theorem dX0_hasSlices_11 : decode cX0_hasSlices 11 = .ok (.aload_n 1, 1) := by decide +kernel
theorem dX0_hasSlices_12 : decode cX0_hasSlices 12 = .ok (.arraylength, 1) := by decide +kernel
theorem dX0_hasSlices_13 : decode cX0_hasSlices 13 = .ok (.if_icmp .ge 22, 3) := by decide +kernel
theorem dX0_hasSlices_16 : decode cX0_hasSlices 16 = .ok (.aload_n 0, 1) := by decide +kernel
theorem dX0_hasSlices_17 : decode cX0_hasSlices 17 = .ok (.iload_n 2, 1) := by decide +kernel
theorem dX0_hasSlices_18 : decode cX0_hasSlices 18 = .ok (.invokevirtual 63, 3) := by decide +kernel
theorem dX0_hasSlices_21 : decode cX0_hasSlices 21 = .ok (.aload_n 1, 1) := by decide +kernel
theorem dX0_hasSlices_22 : decode cX0_hasSlices 22 = .ok (.iload_n 2, 1) := by decide +kernel
theorem dX0_hasSlices_23 : decode cX0_hasSlices 23 = .ok (.iaload, 1) := by decide +kernel
theorem dX0_hasSlices_24 : decode cX0_hasSlices 24 = .ok (.if_icmp .eq 5, 3) := by decide +kernel
theorem dX0_hasSlices_27 : decode cX0_hasSlices 27 = .ok (.iconst 0, 1) := by decide +kernel
theorem dX0_hasSlices_28 : decode cX0_hasSlices 28 = .ok (.ireturn, 1) := by decide +kernel
theorem dX0_hasSlices_29 : decode cX0_hasSlices 29 = .ok (.iinc 2 1, 3) := by decide +kernel
theorem dX0_hasSlices_32 : decode cX0_hasSlices 32 = .ok (.goto (-30), 3) := by decide +kernel
theorem dX0_hasSlices_35 : decode cX0_hasSlices 35 = .ok (.iconst 1, 1) := by decide +kernel
theorem dX0_hasSlices_36 : decode cX0_hasSlices 36 = .ok (.ireturn, 1) := by decide +kernel
theorem dX0_slicesShowing_0 : decode cX0_slicesShowing 0 = .ok (.iconst 0, 1) := by decide +kernel
theorem dX0_slicesShowing_1 : decode cX0_slicesShowing 1 = .ok (.istore_n 2, 1) := by decide +kernel
theorem dX0_slicesShowing_2 : decode cX0_slicesShowing 2 = .ok (.iconst 0, 1) := by decide +kernel
theorem dX0_slicesShowing_3 : decode cX0_slicesShowing 3 = .ok (.istore_n 3, 1) := by decide +kernel
theorem dX0_slicesShowing_4 : decode cX0_slicesShowing 4 = .ok (.iload_n 3, 1) := by decide +kernel
theorem dX0_slicesShowing_5 : decode cX0_slicesShowing 5 = .ok (.aload_n 0, 1) := by decide +kernel
theorem dX0_slicesShowing_6 : decode cX0_slicesShowing 6 = .ok (.getfield 19, 3) := by decide +kernel
theorem dX0_slicesShowing_9 : decode cX0_slicesShowing 9 = .ok (.if_icmp .ge 21, 3) := by decide +kernel
theorem dX0_slicesShowing_12 : decode cX0_slicesShowing 12 = .ok (.aload_n 0, 1) := by decide +kernel
theorem dX0_slicesShowing_13 : decode cX0_slicesShowing 13 = .ok (.iload_n 3, 1) := by decide +kernel
theorem dX0_slicesShowing_14 : decode cX0_slicesShowing 14 = .ok (.invokevirtual 63, 3) := by decide +kernel
theorem dX0_slicesShowing_17 : decode cX0_slicesShowing 17 = .ok (.iload_n 1, 1) := by decide +kernel
theorem dX0_slicesShowing_18 : decode cX0_slicesShowing 18 = .ok (.if_icmp .ne 6, 3) := by decide +kernel
theorem dX0_slicesShowing_21 : decode cX0_slicesShowing 21 = .ok (.iinc 2 1, 3) := by decide +kernel
theorem dX0_slicesShowing_24 : decode cX0_slicesShowing 24 = .ok (.iinc 3 1, 3) := by decide +kernel
theorem dX0_slicesShowing_27 : decode cX0_slicesShowing 27 = .ok (.goto (-23), 3) := by decide +kernel
theorem dX0_slicesShowing_30 : decode cX0_slicesShowing 30 = .ok (.iload_n 2, 1) := by decide +kernel
theorem dX0_slicesShowing_31 : decode cX0_slicesShowing 31 = .ok (.ireturn, 1) := by decide +kernel
theorem dX0_showsEachView_0 : decode cX0_showsEachView 0 = .ok (.iconst 0, 1) := by decide +kernel
theorem dX0_showsEachView_1 : decode cX0_showsEachView 1 = .ok (.istore_n 1, 1) := by decide +kernel
theorem dX0_showsEachView_2 : decode cX0_showsEachView 2 = .ok (.iload_n 1, 1) := by decide +kernel
theorem dX0_showsEachView_3 : decode cX0_showsEachView 3 = .ok (.aload_n 0, 1) := by decide +kernel
theorem dX0_showsEachView_4 : decode cX0_showsEachView 4 = .ok (.getfield 9, 3) := by decide +kernel
theorem dX0_showsEachView_7 : decode cX0_showsEachView 7 = .ok (.if_icmp .ge 19, 3) := by decide +kernel
theorem dX0_showsEachView_10 : decode cX0_showsEachView 10 = .ok (.aload_n 0, 1) := by decide +kernel
theorem dX0_showsEachView_11 : decode cX0_showsEachView 11 = .ok (.iload_n 1, 1) := by decide +kernel
theorem dX0_showsEachView_12 : decode cX0_showsEachView 12 = .ok (.invokevirtual 67, 3) := by decide +kernel
theorem dX0_showsEachView_15 : decode cX0_showsEachView 15 = .ok (.ifCond .ne 5, 3) := by decide +kernel
theorem dX0_showsEachView_18 : decode cX0_showsEachView 18 = .ok (.iconst 0, 1) := by decide +kernel
theorem dX0_showsEachView_19 : decode cX0_showsEachView 19 = .ok (.ireturn, 1) := by decide +kernel
theorem dX0_showsEachView_20 : decode cX0_showsEachView 20 = .ok (.iinc 1 1, 3) := by decide +kernel
theorem dX0_showsEachView_23 : decode cX0_showsEachView 23 = .ok (.goto (-21), 3) := by decide +kernel
theorem dX0_showsEachView_26 : decode cX0_showsEachView 26 = .ok (.iconst 1, 1) := by decide +kernel
theorem dX0_showsEachView_27 : decode cX0_showsEachView 27 = .ok (.ireturn, 1) := by decide +kernel
theorem dX0_startSlices_0 : decode cX0_startSlices 0 = .ok (.iconst 0, 1) := by decide +kernel
theorem dX0_startSlices_1 : decode cX0_startSlices 1 = .ok (.istore_n 1, 1) := by decide +kernel
theorem dX0_startSlices_2 : decode cX0_startSlices 2 = .ok (.iload_n 1, 1) := by decide +kernel
theorem dX0_startSlices_3 : decode cX0_startSlices 3 = .ok (.bipush 6, 2) := by decide +kernel
theorem dX0_startSlices_5 : decode cX0_startSlices 5 = .ok (.if_icmp .ge 16, 3) := by decide +kernel
theorem dX0_startSlices_8 : decode cX0_startSlices 8 = .ok (.aload_n 0, 1) := by decide +kernel
theorem dX0_startSlices_9 : decode cX0_startSlices 9 = .ok (.getfield 22, 3) := by decide +kernel
theorem dX0_startSlices_12 : decode cX0_startSlices 12 = .ok (.iload_n 1, 1) := by decide +kernel
theorem dX0_startSlices_13 : decode cX0_startSlices 13 = .ok (.iconst 0, 1) := by decide +kernel
theorem dX0_startSlices_14 : decode cX0_startSlices 14 = .ok (.iastore, 1) := by decide +kernel
theorem dX0_startSlices_15 : decode cX0_startSlices 15 = .ok (.iinc 1 1, 3) := by decide +kernel
theorem dX0_startSlices_18 : decode cX0_startSlices 18 = .ok (.goto (-16), 3) := by decide +kernel
theorem dX0_startSlices_21 : decode cX0_startSlices 21 = .ok (.return_, 1) := by decide +kernel
theorem dX0_nextSlices_0 : decode cX0_nextSlices 0 = .ok (.aload_n 0, 1) := by decide +kernel
theorem dX0_nextSlices_1 : decode cX0_nextSlices 1 = .ok (.getfield 19, 3) := by decide +kernel
theorem dX0_nextSlices_4 : decode cX0_nextSlices 4 = .ok (.iconst 1, 1) := by decide +kernel
theorem dX0_nextSlices_5 : decode cX0_nextSlices 5 = .ok (.isub, 1) := by decide +kernel
theorem dX0_nextSlices_6 : decode cX0_nextSlices 6 = .ok (.istore_n 1, 1) := by decide +kernel
theorem dX0_nextSlices_7 : decode cX0_nextSlices 7 = .ok (.iload_n 1, 1) := by decide +kernel
theorem dX0_nextSlices_8 : decode cX0_nextSlices 8 = .ok (.ifCond .le 68, 3) := by decide +kernel
theorem dX0_nextSlices_11 : decode cX0_nextSlices 11 = .ok (.aload_n 0, 1) := by decide +kernel
theorem dX0_nextSlices_12 : decode cX0_nextSlices 12 = .ok (.iload_n 1, 1) := by decide +kernel
theorem dX0_nextSlices_13 : decode cX0_nextSlices 13 = .ok (.invokevirtual 63, 3) := by decide +kernel
theorem dX0_nextSlices_16 : decode cX0_nextSlices 16 = .ok (.iconst 1, 1) := by decide +kernel
theorem dX0_nextSlices_17 : decode cX0_nextSlices 17 = .ok (.iadd, 1) := by decide +kernel
theorem dX0_nextSlices_18 : decode cX0_nextSlices 18 = .ok (.istore_n 2, 1) := by decide +kernel
theorem dX0_nextSlices_19 : decode cX0_nextSlices 19 = .ok (.iload_n 2, 1) := by decide +kernel
theorem dX0_nextSlices_20 : decode cX0_nextSlices 20 = .ok (.aload_n 0, 1) := by decide +kernel
theorem dX0_nextSlices_21 : decode cX0_nextSlices 21 = .ok (.getfield 9, 3) := by decide +kernel
theorem dX0_nextSlices_24 : decode cX0_nextSlices 24 = .ok (.if_icmp .ge 46, 3) := by decide +kernel
theorem dX0_nextSlices_27 : decode cX0_nextSlices 27 = .ok (.iload_n 2, 1) := by decide +kernel
theorem dX0_nextSlices_28 : decode cX0_nextSlices 28 = .ok (.aload_n 0, 1) := by decide +kernel
theorem dX0_nextSlices_29 : decode cX0_nextSlices 29 = .ok (.iload_n 1, 1) := by decide +kernel
theorem dX0_nextSlices_30 : decode cX0_nextSlices 30 = .ok (.invokevirtual 70, 3) := by decide +kernel
theorem dX0_nextSlices_33 : decode cX0_nextSlices 33 = .ok (.iconst 1, 1) := by decide +kernel
theorem dX0_nextSlices_34 : decode cX0_nextSlices 34 = .ok (.iadd, 1) := by decide +kernel
theorem dX0_nextSlices_35 : decode cX0_nextSlices 35 = .ok (.if_icmp .gt 35, 3) := by decide +kernel
theorem dX0_nextSlices_38 : decode cX0_nextSlices 38 = .ok (.aload_n 0, 1) := by decide +kernel
theorem dX0_nextSlices_39 : decode cX0_nextSlices 39 = .ok (.iload_n 1, 1) := by decide +kernel
theorem dX0_nextSlices_40 : decode cX0_nextSlices 40 = .ok (.iload_n 2, 1) := by decide +kernel
theorem dX0_nextSlices_41 : decode cX0_nextSlices 41 = .ok (.invokevirtual 73, 3) := by decide +kernel
theorem dX0_nextSlices_44 : decode cX0_nextSlices 44 = .ok (.iload_n 1, 1) := by decide +kernel
theorem dX0_nextSlices_45 : decode cX0_nextSlices 45 = .ok (.iconst 1, 1) := by decide +kernel
theorem dX0_nextSlices_46 : decode cX0_nextSlices 46 = .ok (.iadd, 1) := by decide +kernel
theorem dX0_nextSlices_47 : decode cX0_nextSlices 47 = .ok (.istore_n 3, 1) := by decide +kernel
theorem dX0_nextSlices_48 : decode cX0_nextSlices 48 = .ok (.iload_n 3, 1) := by decide +kernel
theorem dX0_nextSlices_49 : decode cX0_nextSlices 49 = .ok (.aload_n 0, 1) := by decide +kernel
theorem dX0_nextSlices_50 : decode cX0_nextSlices 50 = .ok (.getfield 19, 3) := by decide +kernel
theorem dX0_nextSlices_53 : decode cX0_nextSlices 53 = .ok (.if_icmp .ge 15, 3) := by decide +kernel
theorem dX0_nextSlices_56 : decode cX0_nextSlices 56 = .ok (.aload_n 0, 1) := by decide +kernel
theorem dX0_nextSlices_57 : decode cX0_nextSlices 57 = .ok (.iload_n 3, 1) := by decide +kernel
theorem dX0_nextSlices_58 : decode cX0_nextSlices 58 = .ok (.iconst 0, 1) := by decide +kernel
theorem dX0_nextSlices_59 : decode cX0_nextSlices 59 = .ok (.invokevirtual 73, 3) := by decide +kernel
theorem dX0_nextSlices_62 : decode cX0_nextSlices 62 = .ok (.iinc 3 1, 3) := by decide +kernel
theorem dX0_nextSlices_65 : decode cX0_nextSlices 65 = .ok (.goto (-17), 3) := by decide +kernel
theorem dX0_nextSlices_68 : decode cX0_nextSlices 68 = .ok (.iconst 1, 1) := by decide +kernel
theorem dX0_nextSlices_69 : decode cX0_nextSlices 69 = .ok (.ireturn, 1) := by decide +kernel
theorem dX0_nextSlices_70 : decode cX0_nextSlices 70 = .ok (.iinc 1 (-1), 3) := by decide +kernel
theorem dX0_nextSlices_73 : decode cX0_nextSlices 73 = .ok (.goto (-66), 3) := by decide +kernel
theorem dX0_nextSlices_76 : decode cX0_nextSlices 76 = .ok (.iconst 0, 1) := by decide +kernel
theorem dX0_nextSlices_77 : decode cX0_nextSlices 77 = .ok (.ireturn, 1) := by decide +kernel
theorem dX0_highestViewBefore_0 : decode cX0_highestViewBefore 0 = .ok (.iconst 0, 1) := by decide +kernel
theorem dX0_highestViewBefore_1 : decode cX0_highestViewBefore 1 = .ok (.istore_n 2, 1) := by decide +kernel
theorem dX0_highestViewBefore_2 : decode cX0_highestViewBefore 2 = .ok (.iconst 0, 1) := by decide +kernel
theorem dX0_highestViewBefore_3 : decode cX0_highestViewBefore 3 = .ok (.istore_n 3, 1) := by decide +kernel
theorem dX0_highestViewBefore_4 : decode cX0_highestViewBefore 4 = .ok (.iload_n 3, 1) := by decide +kernel
theorem dX0_highestViewBefore_5 : decode cX0_highestViewBefore 5 = .ok (.iload_n 1, 1) := by decide +kernel
theorem dX0_highestViewBefore_6 : decode cX0_highestViewBefore 6 = .ok (.if_icmp .ge 19, 3) := by decide +kernel
theorem dX0_highestViewBefore_9 : decode cX0_highestViewBefore 9 = .ok (.iload_n 2, 1) := by decide +kernel
theorem dX0_highestViewBefore_10 : decode cX0_highestViewBefore 10 = .ok (.aload_n 0, 1) := by decide +kernel
theorem dX0_highestViewBefore_11 : decode cX0_highestViewBefore 11 = .ok (.iload_n 3, 1) := by decide +kernel
theorem dX0_highestViewBefore_12 : decode cX0_highestViewBefore 12 = .ok (.invokevirtual 63, 3) := by decide +kernel
theorem dX0_highestViewBefore_15 : decode cX0_highestViewBefore 15 = .ok (.invokestatic 77, 3) := by decide +kernel
theorem dX0_highestViewBefore_18 : decode cX0_highestViewBefore 18 = .ok (.istore_n 2, 1) := by decide +kernel
theorem dX0_highestViewBefore_19 : decode cX0_highestViewBefore 19 = .ok (.iinc 3 1, 3) := by decide +kernel
theorem dX0_highestViewBefore_22 : decode cX0_highestViewBefore 22 = .ok (.goto (-18), 3) := by decide +kernel
theorem dX0_highestViewBefore_25 : decode cX0_highestViewBefore 25 = .ok (.iload_n 2, 1) := by decide +kernel
theorem dX0_highestViewBefore_26 : decode cX0_highestViewBefore 26 = .ok (.ireturn, 1) := by decide +kernel
theorem dX0_spotBehind_0 : decode cX0_spotBehind 0 = .ok (.iload_n 1, 1) := by decide +kernel
theorem dX0_spotBehind_1 : decode cX0_spotBehind 1 = .ok (.aload_n 0, 1) := by decide +kernel
theorem dX0_spotBehind_2 : decode cX0_spotBehind 2 = .ok (.getfield 19, 3) := by decide +kernel
theorem dX0_spotBehind_5 : decode cX0_spotBehind 5 = .ok (.imul, 1) := by decide +kernel
theorem dX0_spotBehind_6 : decode cX0_spotBehind 6 = .ok (.iload_n 2, 1) := by decide +kernel
theorem dX0_spotBehind_7 : decode cX0_spotBehind 7 = .ok (.iadd, 1) := by decide +kernel
theorem dX0_spotBehind_8 : decode cX0_spotBehind 8 = .ok (.aload_n 0, 1) := by decide +kernel
theorem dX0_spotBehind_9 : decode cX0_spotBehind 9 = .ok (.getfield 25, 3) := by decide +kernel
theorem dX0_spotBehind_12 : decode cX0_spotBehind 12 = .ok (.isub, 1) := by decide +kernel
theorem dX0_spotBehind_13 : decode cX0_spotBehind 13 = .ok (.istore_n 3, 1) := by decide +kernel
theorem dX0_spotBehind_14 : decode cX0_spotBehind 14 = .ok (.iload_n 3, 1) := by decide +kernel
theorem dX0_spotBehind_15 : decode cX0_spotBehind 15 = .ok (.iconst 0, 1) := by decide +kernel
theorem dX0_spotBehind_16 : decode cX0_spotBehind 16 = .ok (.bipush 12, 2) := by decide +kernel
theorem dX0_spotBehind_18 : decode cX0_spotBehind 18 = .ok (.aload_n 0, 1) := by decide +kernel
theorem dX0_spotBehind_19 : decode cX0_spotBehind 19 = .ok (.getfield 19, 3) := by decide +kernel
theorem dX0_spotBehind_22 : decode cX0_spotBehind 22 = .ok (.imul, 1) := by decide +kernel
theorem dX0_spotBehind_23 : decode cX0_spotBehind 23 = .ok (.iconst 1, 1) := by decide +kernel
theorem dX0_spotBehind_24 : decode cX0_spotBehind 24 = .ok (.isub, 1) := by decide +kernel
theorem dX0_spotBehind_25 : decode cX0_spotBehind 25 = .ok (.invokestatic 47, 3) := by decide +kernel
theorem dX0_spotBehind_28 : decode cX0_spotBehind 28 = .ok (.ifCond .eq 7, 3) := by decide +kernel
theorem dX0_spotBehind_31 : decode cX0_spotBehind 31 = .ok (.iload_n 3, 1) := by decide +kernel
theorem dX0_spotBehind_32 : decode cX0_spotBehind 32 = .ok (.goto 4, 3) := by decide +kernel
theorem dX0_spotBehind_35 : decode cX0_spotBehind 35 = .ok (.iconst (-1), 1) := by decide +kernel
theorem dX0_spotBehind_36 : decode cX0_spotBehind 36 = .ok (.ireturn, 1) := by decide +kernel
theorem dX0_sliceBehind_0 : decode cX0_sliceBehind 0 = .ok (.aload_n 0, 1) := by decide +kernel
theorem dX0_sliceBehind_1 : decode cX0_sliceBehind 1 = .ok (.iload_n 1, 1) := by decide +kernel
theorem dX0_sliceBehind_2 : decode cX0_sliceBehind 2 = .ok (.iload_n 2, 1) := by decide +kernel
theorem dX0_sliceBehind_3 : decode cX0_sliceBehind 3 = .ok (.invokevirtual 82, 3) := by decide +kernel
theorem dX0_sliceBehind_6 : decode cX0_sliceBehind 6 = .ok (.istore_n 3, 1) := by decide +kernel
theorem dX0_sliceBehind_7 : decode cX0_sliceBehind 7 = .ok (.iload_n 3, 1) := by decide +kernel
theorem dX0_sliceBehind_8 : decode cX0_sliceBehind 8 = .ok (.iconst (-1), 1) := by decide +kernel
theorem dX0_sliceBehind_9 : decode cX0_sliceBehind 9 = .ok (.if_icmp .eq 11, 3) := by decide +kernel
theorem dX0_sliceBehind_12 : decode cX0_sliceBehind 12 = .ok (.aload_n 0, 1) := by decide +kernel
theorem dX0_sliceBehind_13 : decode cX0_sliceBehind 13 = .ok (.getfield 19, 3) := by decide +kernel
theorem dX0_sliceBehind_16 : decode cX0_sliceBehind 16 = .ok (.iconst 1, 1) := by decide +kernel
theorem dX0_sliceBehind_17 : decode cX0_sliceBehind 17 = .ok (.if_icmp .ge 7, 3) := by decide +kernel
theorem dX0_sliceBehind_20 : decode cX0_sliceBehind 20 = .ok (.iconst (-1), 1) := by decide +kernel
theorem dX0_sliceBehind_21 : decode cX0_sliceBehind 21 = .ok (.goto 9, 3) := by decide +kernel
theorem dX0_sliceBehind_24 : decode cX0_sliceBehind 24 = .ok (.iload_n 3, 1) := by decide +kernel
theorem dX0_sliceBehind_25 : decode cX0_sliceBehind 25 = .ok (.aload_n 0, 1) := by decide +kernel
theorem dX0_sliceBehind_26 : decode cX0_sliceBehind 26 = .ok (.getfield 19, 3) := by decide +kernel
theorem dX0_sliceBehind_29 : decode cX0_sliceBehind 29 = .ok (.irem, 1) := by decide +kernel
theorem dX0_sliceBehind_30 : decode cX0_sliceBehind 30 = .ok (.ireturn, 1) := by decide +kernel
theorem dX0_ridgeBehind_0 : decode cX0_ridgeBehind 0 = .ok (.aload_n 0, 1) := by decide +kernel
theorem dX0_ridgeBehind_1 : decode cX0_ridgeBehind 1 = .ok (.iload_n 1, 1) := by decide +kernel
theorem dX0_ridgeBehind_2 : decode cX0_ridgeBehind 2 = .ok (.iload_n 2, 1) := by decide +kernel
theorem dX0_ridgeBehind_3 : decode cX0_ridgeBehind 3 = .ok (.invokevirtual 82, 3) := by decide +kernel
theorem dX0_ridgeBehind_6 : decode cX0_ridgeBehind 6 = .ok (.istore_n 3, 1) := by decide +kernel
theorem dX0_ridgeBehind_7 : decode cX0_ridgeBehind 7 = .ok (.iload_n 3, 1) := by decide +kernel
theorem dX0_ridgeBehind_8 : decode cX0_ridgeBehind 8 = .ok (.iconst (-1), 1) := by decide +kernel
theorem dX0_ridgeBehind_9 : decode cX0_ridgeBehind 9 = .ok (.if_icmp .eq 11, 3) := by decide +kernel
theorem dX0_ridgeBehind_12 : decode cX0_ridgeBehind 12 = .ok (.aload_n 0, 1) := by decide +kernel
theorem dX0_ridgeBehind_13 : decode cX0_ridgeBehind 13 = .ok (.getfield 19, 3) := by decide +kernel
theorem dX0_ridgeBehind_16 : decode cX0_ridgeBehind 16 = .ok (.iconst 1, 1) := by decide +kernel
theorem dX0_ridgeBehind_17 : decode cX0_ridgeBehind 17 = .ok (.if_icmp .ge 7, 3) := by decide +kernel
theorem dX0_ridgeBehind_20 : decode cX0_ridgeBehind 20 = .ok (.iconst (-1), 1) := by decide +kernel
theorem dX0_ridgeBehind_21 : decode cX0_ridgeBehind 21 = .ok (.goto 9, 3) := by decide +kernel
theorem dX0_ridgeBehind_24 : decode cX0_ridgeBehind 24 = .ok (.iload_n 3, 1) := by decide +kernel
theorem dX0_ridgeBehind_25 : decode cX0_ridgeBehind 25 = .ok (.aload_n 0, 1) := by decide +kernel
theorem dX0_ridgeBehind_26 : decode cX0_ridgeBehind 26 = .ok (.getfield 19, 3) := by decide +kernel
theorem dX0_ridgeBehind_29 : decode cX0_ridgeBehind 29 = .ok (.idiv, 1) := by decide +kernel
theorem dX0_ridgeBehind_30 : decode cX0_ridgeBehind 30 = .ok (.ireturn, 1) := by decide +kernel
theorem dX0_viewBehind_0 : decode cX0_viewBehind 0 = .ok (.aload_n 0, 1) := by decide +kernel
theorem dX0_viewBehind_1 : decode cX0_viewBehind 1 = .ok (.aload_n 0, 1) := by decide +kernel
theorem dX0_viewBehind_2 : decode cX0_viewBehind 2 = .ok (.iload_n 1, 1) := by decide +kernel
theorem dX0_viewBehind_3 : decode cX0_viewBehind 3 = .ok (.iload_n 2, 1) := by decide +kernel
theorem dX0_viewBehind_4 : decode cX0_viewBehind 4 = .ok (.invokevirtual 85, 3) := by decide +kernel
theorem dX0_viewBehind_7 : decode cX0_viewBehind 7 = .ok (.invokevirtual 63, 3) := by decide +kernel
theorem dX0_viewBehind_10 : decode cX0_viewBehind 10 = .ok (.ireturn, 1) := by decide +kernel
theorem dX0_colourBehind_0 : decode cX0_colourBehind 0 = .ok (.aload_n 0, 1) := by decide +kernel
theorem dX0_colourBehind_1 : decode cX0_colourBehind 1 = .ok (.aload_n 0, 1) := by decide +kernel
theorem dX0_colourBehind_2 : decode cX0_colourBehind 2 = .ok (.iload_n 1, 1) := by decide +kernel
theorem dX0_colourBehind_3 : decode cX0_colourBehind 3 = .ok (.iload_n 2, 1) := by decide +kernel
theorem dX0_colourBehind_4 : decode cX0_colourBehind 4 = .ok (.invokevirtual 88, 3) := by decide +kernel
theorem dX0_colourBehind_7 : decode cX0_colourBehind 7 = .ok (.aload_n 0, 1) := by decide +kernel
theorem dX0_colourBehind_8 : decode cX0_colourBehind 8 = .ok (.iload_n 1, 1) := by decide +kernel
theorem dX0_colourBehind_9 : decode cX0_colourBehind 9 = .ok (.iload_n 2, 1) := by decide +kernel
theorem dX0_colourBehind_10 : decode cX0_colourBehind 10 = .ok (.invokevirtual 91, 3) := by decide +kernel
theorem dX0_colourBehind_13 : decode cX0_colourBehind 13 = .ok (.invokevirtual 59, 3) := by decide +kernel
theorem dX0_colourBehind_16 : decode cX0_colourBehind 16 = .ok (.ireturn, 1) := by decide +kernel
theorem dX0_stepAt_0 : decode cX0_stepAt 0 = .ok (.aload_n 0, 1) := by decide +kernel
theorem dX0_stepAt_1 : decode cX0_stepAt 1 = .ok (.getfield 19, 3) := by decide +kernel
theorem dX0_stepAt_4 : decode cX0_stepAt 4 = .ok (.iload_n 1, 1) := by decide +kernel
theorem dX0_stepAt_5 : decode cX0_stepAt 5 = .ok (.bipush 9, 2) := by decide +kernel
theorem dX0_stepAt_7 : decode cX0_stepAt 7 = .ok (.iadd, 1) := by decide +kernel
theorem dX0_stepAt_8 : decode cX0_stepAt 8 = .ok (.imul, 1) := by decide +kernel
theorem dX0_stepAt_9 : decode cX0_stepAt 9 = .ok (.bipush 19, 2) := by decide +kernel
theorem dX0_stepAt_11 : decode cX0_stepAt 11 = .ok (.idiv, 1) := by decide +kernel
theorem dX0_stepAt_12 : decode cX0_stepAt 12 = .ok (.ireturn, 1) := by decide +kernel
theorem dX0_placeSeen_0 : decode cX0_placeSeen 0 = .ok (.iload_n 1, 1) := by decide +kernel
theorem dX0_placeSeen_1 : decode cX0_placeSeen 1 = .ok (.aload_n 0, 1) := by decide +kernel
theorem dX0_placeSeen_2 : decode cX0_placeSeen 2 = .ok (.getfield 28, 3) := by decide +kernel
theorem dX0_placeSeen_5 : decode cX0_placeSeen 5 = .ok (.iload_n 2, 1) := by decide +kernel
theorem dX0_placeSeen_6 : decode cX0_placeSeen 6 = .ok (.bipush 6, 2) := by decide +kernel
theorem dX0_placeSeen_8 : decode cX0_placeSeen 8 = .ok (.isub, 1) := by decide +kernel
theorem dX0_placeSeen_9 : decode cX0_placeSeen 9 = .ok (.imul, 1) := by decide +kernel
theorem dX0_placeSeen_10 : decode cX0_placeSeen 10 = .ok (.iconst 4, 1) := by decide +kernel
theorem dX0_placeSeen_11 : decode cX0_placeSeen 11 = .ok (.idiv, 1) := by decide +kernel
theorem dX0_placeSeen_12 : decode cX0_placeSeen 12 = .ok (.iadd, 1) := by decide +kernel
theorem dX0_placeSeen_13 : decode cX0_placeSeen 13 = .ok (.istore_n 3, 1) := by decide +kernel
theorem dX0_placeSeen_14 : decode cX0_placeSeen 14 = .ok (.iconst 0, 1) := by decide +kernel
theorem dX0_placeSeen_15 : decode cX0_placeSeen 15 = .ok (.iload_n 3, 1) := by decide +kernel
theorem dX0_placeSeen_16 : decode cX0_placeSeen 16 = .ok (.aload_n 0, 1) := by decide +kernel
theorem dX0_placeSeen_17 : decode cX0_placeSeen 17 = .ok (.getfield 19, 3) := by decide +kernel
theorem dX0_placeSeen_20 : decode cX0_placeSeen 20 = .ok (.iconst 1, 1) := by decide +kernel
theorem dX0_placeSeen_21 : decode cX0_placeSeen 21 = .ok (.isub, 1) := by decide +kernel
theorem dX0_placeSeen_22 : decode cX0_placeSeen 22 = .ok (.invokestatic 94, 3) := by decide +kernel
theorem dX0_placeSeen_25 : decode cX0_placeSeen 25 = .ok (.invokestatic 77, 3) := by decide +kernel
theorem dX0_placeSeen_28 : decode cX0_placeSeen 28 = .ok (.ireturn, 1) := by decide +kernel
theorem dX1_init_0 : decode cX1_init 0 = .ok (.aload_n 0, 1) := by decide +kernel
theorem dX1_init_1 : decode cX1_init 1 = .ok (.invokespecial 3, 3) := by decide +kernel
theorem dX1_init_4 : decode cX1_init 4 = .ok (.aload_n 0, 1) := by decide +kernel
theorem dX1_init_5 : decode cX1_init 5 = .ok (.bipush 80, 2) := by decide +kernel
theorem dX1_init_7 : decode cX1_init 7 = .ok (.newarray .char, 2) := by decide +kernel
theorem dX1_init_9 : decode cX1_init 9 = .ok (.putfield 9, 3) := by decide +kernel
theorem dX1_init_12 : decode cX1_init 12 = .ok (.aload_n 0, 1) := by decide +kernel
theorem dX1_init_13 : decode cX1_init 13 = .ok (.iconst 0, 1) := by decide +kernel
theorem dX1_init_14 : decode cX1_init 14 = .ok (.putfield 15, 3) := by decide +kernel
theorem dX1_init_17 : decode cX1_init 17 = .ok (.aload_n 0, 1) := by decide +kernel
theorem dX1_init_18 : decode cX1_init 18 = .ok (.iconst (-1), 1) := by decide +kernel
theorem dX1_init_19 : decode cX1_init 19 = .ok (.putfield 19, 3) := by decide +kernel
theorem dX1_init_22 : decode cX1_init 22 = .ok (.return_, 1) := by decide +kernel
theorem dX1_isFull_0 : decode cX1_isFull 0 = .ok (.aload_n 0, 1) := by decide +kernel
theorem dX1_isFull_1 : decode cX1_isFull 1 = .ok (.getfield 15, 3) := by decide +kernel
theorem dX1_isFull_4 : decode cX1_isFull 4 = .ok (.bipush 80, 2) := by decide +kernel
theorem dX1_isFull_6 : decode cX1_isFull 6 = .ok (.if_icmp .lt 7, 3) := by decide +kernel
theorem dX1_isFull_9 : decode cX1_isFull 9 = .ok (.iconst 1, 1) := by decide +kernel
theorem dX1_isFull_10 : decode cX1_isFull 10 = .ok (.goto 4, 3) := by decide +kernel
theorem dX1_isFull_13 : decode cX1_isFull 13 = .ok (.iconst 0, 1) := by decide +kernel
theorem dX1_isFull_14 : decode cX1_isFull 14 = .ok (.ireturn, 1) := by decide +kernel
theorem dX1_append_0 : decode cX1_append 0 = .ok (.aload_n 0, 1) := by decide +kernel
theorem dX1_append_1 : decode cX1_append 1 = .ok (.getfield 15, 3) := by decide +kernel
theorem dX1_append_4 : decode cX1_append 4 = .ok (.ifCond .lt 43, 3) := by decide +kernel
theorem dX1_append_7 : decode cX1_append 7 = .ok (.aload_n 0, 1) := by decide +kernel
theorem dX1_append_8 : decode cX1_append 8 = .ok (.getfield 15, 3) := by decide +kernel
theorem dX1_append_11 : decode cX1_append 11 = .ok (.bipush 80, 2) := by decide +kernel
theorem dX1_append_13 : decode cX1_append 13 = .ok (.if_icmp .ge 34, 3) := by decide +kernel
theorem dX1_append_16 : decode cX1_append 16 = .ok (.aload_n 0, 1) := by decide +kernel
theorem dX1_append_17 : decode cX1_append 17 = .ok (.getfield 9, 3) := by decide +kernel
theorem dX1_append_20 : decode cX1_append 20 = .ok (.aload_n 0, 1) := by decide +kernel
theorem dX1_append_21 : decode cX1_append 21 = .ok (.getfield 15, 3) := by decide +kernel
theorem dX1_append_24 : decode cX1_append 24 = .ok (.iload_n 1, 1) := by decide +kernel
theorem dX1_append_25 : decode cX1_append 25 = .ok (.sipush 255, 3) := by decide +kernel
theorem dX1_append_28 : decode cX1_append 28 = .ok (.if_icmp .gt 7, 3) := by decide +kernel
theorem dX1_append_31 : decode cX1_append 31 = .ok (.iload_n 1, 1) := by decide +kernel
theorem dX1_append_32 : decode cX1_append 32 = .ok (.goto 4, 3) := by decide +kernel
theorem dX1_append_35 : decode cX1_append 35 = .ok (.iconst 0, 1) := by decide +kernel
theorem dX1_append_36 : decode cX1_append 36 = .ok (.castore, 1) := by decide +kernel
theorem dX1_append_37 : decode cX1_append 37 = .ok (.aload_n 0, 1) := by decide +kernel
theorem dX1_append_38 : decode cX1_append 38 = .ok (.dup, 1) := by decide +kernel
theorem dX1_append_39 : decode cX1_append 39 = .ok (.getfield 15, 3) := by decide +kernel
theorem dX1_append_42 : decode cX1_append 42 = .ok (.iconst 1, 1) := by decide +kernel
theorem dX1_append_43 : decode cX1_append 43 = .ok (.iadd, 1) := by decide +kernel
theorem dX1_append_44 : decode cX1_append 44 = .ok (.putfield 15, 3) := by decide +kernel
theorem dX1_append_47 : decode cX1_append 47 = .ok (.return_, 1) := by decide +kernel
theorem dX1_empty_0 : decode cX1_empty 0 = .ok (.aload_n 0, 1) := by decide +kernel
theorem dX1_empty_1 : decode cX1_empty 1 = .ok (.iconst 0, 1) := by decide +kernel
theorem dX1_empty_2 : decode cX1_empty 2 = .ok (.putfield 15, 3) := by decide +kernel
theorem dX1_empty_5 : decode cX1_empty 5 = .ok (.return_, 1) := by decide +kernel
theorem dX1_charAt_0 : decode cX1_charAt 0 = .ok (.iload_n 1, 1) := by decide +kernel
theorem dX1_charAt_1 : decode cX1_charAt 1 = .ok (.ifCond .lt 18, 3) := by decide +kernel
theorem dX1_charAt_4 : decode cX1_charAt 4 = .ok (.iload_n 1, 1) := by decide +kernel
theorem dX1_charAt_5 : decode cX1_charAt 5 = .ok (.bipush 80, 2) := by decide +kernel
theorem dX1_charAt_7 : decode cX1_charAt 7 = .ok (.if_icmp .ge 12, 3) := by decide +kernel
theorem dX1_charAt_10 : decode cX1_charAt 10 = .ok (.aload_n 0, 1) := by decide +kernel
theorem dX1_charAt_11 : decode cX1_charAt 11 = .ok (.getfield 9, 3) := by decide +kernel
theorem dX1_charAt_14 : decode cX1_charAt 14 = .ok (.iload_n 1, 1) := by decide +kernel
theorem dX1_charAt_15 : decode cX1_charAt 15 = .ok (.caload, 1) := by decide +kernel
theorem dX1_charAt_16 : decode cX1_charAt 16 = .ok (.goto 4, 3) := by decide +kernel
theorem dX1_charAt_19 : decode cX1_charAt 19 = .ok (.iconst 0, 1) := by decide +kernel
theorem dX1_charAt_20 : decode cX1_charAt 20 = .ok (.ireturn, 1) := by decide +kernel
theorem dX1_digitAt_0 : decode cX1_digitAt 0 = .ok (.aload_n 0, 1) := by decide +kernel
theorem dX1_digitAt_1 : decode cX1_digitAt 1 = .ok (.iload_n 1, 1) := by decide +kernel
theorem dX1_digitAt_2 : decode cX1_digitAt 2 = .ok (.invokevirtual 22, 3) := by decide +kernel
theorem dX1_digitAt_5 : decode cX1_digitAt 5 = .ok (.istore_n 2, 1) := by decide +kernel
theorem dX1_digitAt_6 : decode cX1_digitAt 6 = .ok (.iload_n 2, 1) := by decide +kernel
theorem dX1_digitAt_7 : decode cX1_digitAt 7 = .ok (.bipush 48, 2) := by decide +kernel
theorem dX1_digitAt_9 : decode cX1_digitAt 9 = .ok (.if_icmp .lt 16, 3) := by decide +kernel
theorem dX1_digitAt_12 : decode cX1_digitAt 12 = .ok (.iload_n 2, 1) := by decide +kernel
theorem dX1_digitAt_13 : decode cX1_digitAt 13 = .ok (.bipush 57, 2) := by decide +kernel
theorem dX1_digitAt_15 : decode cX1_digitAt 15 = .ok (.if_icmp .gt 10, 3) := by decide +kernel
theorem dX1_digitAt_18 : decode cX1_digitAt 18 = .ok (.iload_n 2, 1) := by decide +kernel
theorem dX1_digitAt_19 : decode cX1_digitAt 19 = .ok (.bipush 48, 2) := by decide +kernel
theorem dX1_digitAt_21 : decode cX1_digitAt 21 = .ok (.isub, 1) := by decide +kernel
theorem dX1_digitAt_22 : decode cX1_digitAt 22 = .ok (.goto 4, 3) := by decide +kernel
theorem dX1_digitAt_25 : decode cX1_digitAt 25 = .ok (.iconst (-1), 1) := by decide +kernel
theorem dX1_digitAt_26 : decode cX1_digitAt 26 = .ok (.ireturn, 1) := by decide +kernel
theorem dX1_findFault_0 : decode cX1_findFault 0 = .ok (.aload_n 0, 1) := by decide +kernel
theorem dX1_findFault_1 : decode cX1_findFault 1 = .ok (.iconst (-1), 1) := by decide +kernel
theorem dX1_findFault_2 : decode cX1_findFault 2 = .ok (.putfield 19, 3) := by decide +kernel
theorem dX1_findFault_5 : decode cX1_findFault 5 = .ok (.iconst 0, 1) := by decide +kernel
theorem dX1_findFault_6 : decode cX1_findFault 6 = .ok (.istore_n 1, 1) := by decide +kernel
theorem dX1_findFault_7 : decode cX1_findFault 7 = .ok (.iload_n 1, 1) := by decide +kernel
theorem dX1_findFault_8 : decode cX1_findFault 8 = .ok (.aload_n 0, 1) := by decide +kernel
theorem dX1_findFault_9 : decode cX1_findFault 9 = .ok (.getfield 15, 3) := by decide +kernel
theorem dX1_findFault_12 : decode cX1_findFault 12 = .ok (.if_icmp .ge 34, 3) := by decide +kernel
theorem dX1_findFault_15 : decode cX1_findFault 15 = .ok (.aload_n 0, 1) := by decide +kernel
theorem dX1_findFault_16 : decode cX1_findFault 16 = .ok (.iload_n 1, 1) := by decide +kernel
theorem dX1_findFault_17 : decode cX1_findFault 17 = .ok (.invokevirtual 26, 3) := by decide +kernel
theorem dX1_findFault_20 : decode cX1_findFault 20 = .ok (.ifCond .ne 5, 3) := by decide +kernel
theorem dX1_findFault_23 : decode cX1_findFault 23 = .ok (.iload_n 1, 1) := by decide +kernel
theorem dX1_findFault_24 : decode cX1_findFault 24 = .ok (.ireturn, 1) := by decide +kernel
theorem dX1_findFault_25 : decode cX1_findFault 25 = .ok (.aload_n 0, 1) := by decide +kernel
theorem dX1_findFault_26 : decode cX1_findFault 26 = .ok (.iload_n 1, 1) := by decide +kernel
theorem dX1_findFault_27 : decode cX1_findFault 27 = .ok (.invokevirtual 22, 3) := by decide +kernel
theorem dX1_findFault_30 : decode cX1_findFault 30 = .ok (.bipush 58, 2) := by decide +kernel
theorem dX1_findFault_32 : decode cX1_findFault 32 = .ok (.if_icmp .ne 8, 3) := by decide +kernel
theorem dX1_findFault_35 : decode cX1_findFault 35 = .ok (.aload_n 0, 1) := by decide +kernel
theorem dX1_findFault_36 : decode cX1_findFault 36 = .ok (.iload_n 1, 1) := by decide +kernel
theorem dX1_findFault_37 : decode cX1_findFault 37 = .ok (.putfield 19, 3) := by decide +kernel
theorem dX1_findFault_40 : decode cX1_findFault 40 = .ok (.iinc 1 1, 3) := by decide +kernel
theorem dX1_findFault_43 : decode cX1_findFault 43 = .ok (.goto (-36), 3) := by decide +kernel
theorem dX1_findFault_46 : decode cX1_findFault 46 = .ok (.aload_n 0, 1) := by decide +kernel
theorem dX1_findFault_47 : decode cX1_findFault 47 = .ok (.invokevirtual 30, 3) := by decide +kernel
theorem dX1_findFault_50 : decode cX1_findFault 50 = .ok (.ifCond .eq 7, 3) := by decide +kernel
theorem dX1_findFault_53 : decode cX1_findFault 53 = .ok (.iconst (-1), 1) := by decide +kernel
theorem dX1_findFault_54 : decode cX1_findFault 54 = .ok (.goto 7, 3) := by decide +kernel
theorem dX1_findFault_57 : decode cX1_findFault 57 = .ok (.aload_n 0, 1) := by decide +kernel
theorem dX1_findFault_58 : decode cX1_findFault 58 = .ok (.getfield 15, 3) := by decide +kernel
theorem dX1_findFault_61 : decode cX1_findFault 61 = .ok (.ireturn, 1) := by decide +kernel
theorem dX1_isAllowed_0 : decode cX1_isAllowed 0 = .ok (.aload_n 0, 1) := by decide +kernel
theorem dX1_isAllowed_1 : decode cX1_isAllowed 1 = .ok (.getfield 19, 3) := by decide +kernel
theorem dX1_isAllowed_4 : decode cX1_isAllowed 4 = .ok (.iconst (-1), 1) := by decide +kernel
theorem dX1_isAllowed_5 : decode cX1_isAllowed 5 = .ok (.if_icmp .eq 41, 3) := by decide +kernel
theorem dX1_isAllowed_8 : decode cX1_isAllowed 8 = .ok (.iload_n 1, 1) := by decide +kernel
theorem dX1_isAllowed_9 : decode cX1_isAllowed 9 = .ok (.aload_n 0, 1) := by decide +kernel
theorem dX1_isAllowed_10 : decode cX1_isAllowed 10 = .ok (.getfield 19, 3) := by decide +kernel
theorem dX1_isAllowed_13 : decode cX1_isAllowed 13 = .ok (.isub, 1) := by decide +kernel
theorem dX1_isAllowed_14 : decode cX1_isAllowed 14 = .ok (.bipush 6, 2) := by decide +kernel
theorem dX1_isAllowed_16 : decode cX1_isAllowed 16 = .ok (.if_icmp .gt 28, 3) := by decide +kernel
theorem dX1_isAllowed_19 : decode cX1_isAllowed 19 = .ok (.aload_n 0, 1) := by decide +kernel
theorem dX1_isAllowed_20 : decode cX1_isAllowed 20 = .ok (.iload_n 1, 1) := by decide +kernel
theorem dX1_isAllowed_21 : decode cX1_isAllowed 21 = .ok (.invokevirtual 34, 3) := by decide +kernel
theorem dX1_isAllowed_24 : decode cX1_isAllowed 24 = .ok (.iconst 0, 1) := by decide +kernel
theorem dX1_isAllowed_25 : decode cX1_isAllowed 25 = .ok (.aload_n 0, 1) := by decide +kernel
theorem dX1_isAllowed_26 : decode cX1_isAllowed 26 = .ok (.getfield 19, 3) := by decide +kernel
theorem dX1_isAllowed_29 : decode cX1_isAllowed 29 = .ok (.invokestatic 38, 3) := by decide +kernel
theorem dX1_isAllowed_32 : decode cX1_isAllowed 32 = .ok (.iconst 1, 1) := by decide +kernel
theorem dX1_isAllowed_33 : decode cX1_isAllowed 33 = .ok (.isub, 1) := by decide +kernel
theorem dX1_isAllowed_34 : decode cX1_isAllowed 34 = .ok (.invokestatic 41, 3) := by decide +kernel
theorem dX1_isAllowed_37 : decode cX1_isAllowed 37 = .ok (.ifCond .eq 7, 3) := by decide +kernel
theorem dX1_isAllowed_40 : decode cX1_isAllowed 40 = .ok (.iconst 1, 1) := by decide +kernel
theorem dX1_isAllowed_41 : decode cX1_isAllowed 41 = .ok (.goto 4, 3) := by decide +kernel
theorem dX1_isAllowed_44 : decode cX1_isAllowed 44 = .ok (.iconst 0, 1) := by decide +kernel
theorem dX1_isAllowed_45 : decode cX1_isAllowed 45 = .ok (.ireturn, 1) := by decide +kernel
theorem dX1_isAllowed_46 : decode cX1_isAllowed 46 = .ok (.iload_n 1, 1) := by decide +kernel
theorem dX1_isAllowed_47 : decode cX1_isAllowed 47 = .ok (.iconst 1, 1) := by decide +kernel
theorem dX1_isAllowed_48 : decode cX1_isAllowed 48 = .ok (.iadd, 1) := by decide +kernel
theorem dX1_isAllowed_49 : decode cX1_isAllowed 49 = .ok (.bipush 13, 2) := by decide +kernel
theorem dX1_isAllowed_51 : decode cX1_isAllowed 51 = .ok (.irem, 1) := by decide +kernel
theorem dX1_isAllowed_52 : decode cX1_isAllowed 52 = .ok (.ifCond .eq 18, 3) := by decide +kernel
theorem dX1_isAllowed_55 : decode cX1_isAllowed 55 = .ok (.aload_n 0, 1) := by decide +kernel
theorem dX1_isAllowed_56 : decode cX1_isAllowed 56 = .ok (.iload_n 1, 1) := by decide +kernel
theorem dX1_isAllowed_57 : decode cX1_isAllowed 57 = .ok (.invokevirtual 34, 3) := by decide +kernel
theorem dX1_isAllowed_60 : decode cX1_isAllowed 60 = .ok (.iconst (-1), 1) := by decide +kernel
theorem dX1_isAllowed_61 : decode cX1_isAllowed 61 = .ok (.if_icmp .eq 7, 3) := by decide +kernel
theorem dX1_isAllowed_64 : decode cX1_isAllowed 64 = .ok (.iconst 1, 1) := by decide +kernel
theorem dX1_isAllowed_65 : decode cX1_isAllowed 65 = .ok (.goto 4, 3) := by decide +kernel
theorem dX1_isAllowed_68 : decode cX1_isAllowed 68 = .ok (.iconst 0, 1) := by decide +kernel
theorem dX1_isAllowed_69 : decode cX1_isAllowed 69 = .ok (.ireturn, 1) := by decide +kernel
theorem dX1_isAllowed_70 : decode cX1_isAllowed 70 = .ok (.aload_n 0, 1) := by decide +kernel
theorem dX1_isAllowed_71 : decode cX1_isAllowed 71 = .ok (.iload_n 1, 1) := by decide +kernel
theorem dX1_isAllowed_72 : decode cX1_isAllowed 72 = .ok (.invokevirtual 22, 3) := by decide +kernel
theorem dX1_isAllowed_75 : decode cX1_isAllowed 75 = .ok (.bipush 47, 2) := by decide +kernel
theorem dX1_isAllowed_77 : decode cX1_isAllowed 77 = .ok (.if_icmp .ne 11, 3) := by decide +kernel
theorem dX1_isAllowed_80 : decode cX1_isAllowed 80 = .ok (.iload_n 1, 1) := by decide +kernel
theorem dX1_isAllowed_81 : decode cX1_isAllowed 81 = .ok (.invokestatic 38, 3) := by decide +kernel
theorem dX1_isAllowed_84 : decode cX1_isAllowed 84 = .ok (.iconst 4, 1) := by decide +kernel
theorem dX1_isAllowed_85 : decode cX1_isAllowed 85 = .ok (.if_icmp .lt 21, 3) := by decide +kernel
theorem dX1_isAllowed_88 : decode cX1_isAllowed 88 = .ok (.aload_n 0, 1) := by decide +kernel
theorem dX1_isAllowed_89 : decode cX1_isAllowed 89 = .ok (.iload_n 1, 1) := by decide +kernel
theorem dX1_isAllowed_90 : decode cX1_isAllowed 90 = .ok (.invokevirtual 22, 3) := by decide +kernel
theorem dX1_isAllowed_93 : decode cX1_isAllowed 93 = .ok (.bipush 58, 2) := by decide +kernel
theorem dX1_isAllowed_95 : decode cX1_isAllowed 95 = .ok (.if_icmp .ne 15, 3) := by decide +kernel
theorem dX1_isAllowed_98 : decode cX1_isAllowed 98 = .ok (.iload_n 1, 1) := by decide +kernel
theorem dX1_isAllowed_99 : decode cX1_isAllowed 99 = .ok (.invokestatic 38, 3) := by decide +kernel
theorem dX1_isAllowed_102 : decode cX1_isAllowed 102 = .ok (.iconst 2, 1) := by decide +kernel
theorem dX1_isAllowed_103 : decode cX1_isAllowed 103 = .ok (.if_icmp .lt 7, 3) := by decide +kernel
theorem dX1_isAllowed_106 : decode cX1_isAllowed 106 = .ok (.iconst 1, 1) := by decide +kernel
theorem dX1_isAllowed_107 : decode cX1_isAllowed 107 = .ok (.goto 4, 3) := by decide +kernel
theorem dX1_isAllowed_110 : decode cX1_isAllowed 110 = .ok (.iconst 0, 1) := by decide +kernel
theorem dX1_isAllowed_111 : decode cX1_isAllowed 111 = .ok (.ireturn, 1) := by decide +kernel
theorem dX1_isEnded_0 : decode cX1_isEnded 0 = .ok (.aload_n 0, 1) := by decide +kernel
theorem dX1_isEnded_1 : decode cX1_isEnded 1 = .ok (.getfield 19, 3) := by decide +kernel
theorem dX1_isEnded_4 : decode cX1_isEnded 4 = .ok (.iconst (-1), 1) := by decide +kernel
theorem dX1_isEnded_5 : decode cX1_isEnded 5 = .ok (.if_icmp .eq 24, 3) := by decide +kernel
theorem dX1_isEnded_8 : decode cX1_isEnded 8 = .ok (.aload_n 0, 1) := by decide +kernel
theorem dX1_isEnded_9 : decode cX1_isEnded 9 = .ok (.getfield 15, 3) := by decide +kernel
theorem dX1_isEnded_12 : decode cX1_isEnded 12 = .ok (.aload_n 0, 1) := by decide +kernel
theorem dX1_isEnded_13 : decode cX1_isEnded 13 = .ok (.getfield 19, 3) := by decide +kernel
theorem dX1_isEnded_16 : decode cX1_isEnded 16 = .ok (.isub, 1) := by decide +kernel
theorem dX1_isEnded_17 : decode cX1_isEnded 17 = .ok (.iconst 1, 1) := by decide +kernel
theorem dX1_isEnded_18 : decode cX1_isEnded 18 = .ok (.isub, 1) := by decide +kernel
theorem dX1_isEnded_19 : decode cX1_isEnded 19 = .ok (.iconst 2, 1) := by decide +kernel
theorem dX1_isEnded_20 : decode cX1_isEnded 20 = .ok (.if_icmp .lt 7, 3) := by decide +kernel
theorem dX1_isEnded_23 : decode cX1_isEnded 23 = .ok (.iconst 1, 1) := by decide +kernel
theorem dX1_isEnded_24 : decode cX1_isEnded 24 = .ok (.goto 4, 3) := by decide +kernel
theorem dX1_isEnded_27 : decode cX1_isEnded 27 = .ok (.iconst 0, 1) := by decide +kernel
theorem dX1_isEnded_28 : decode cX1_isEnded 28 = .ok (.ireturn, 1) := by decide +kernel
theorem dX1_isEnded_29 : decode cX1_isEnded 29 = .ok (.aload_n 0, 1) := by decide +kernel
theorem dX1_isEnded_30 : decode cX1_isEnded 30 = .ok (.getfield 15, 3) := by decide +kernel
theorem dX1_isEnded_33 : decode cX1_isEnded 33 = .ok (.iconst 1, 1) := by decide +kernel
theorem dX1_isEnded_34 : decode cX1_isEnded 34 = .ok (.iadd, 1) := by decide +kernel
theorem dX1_isEnded_35 : decode cX1_isEnded 35 = .ok (.bipush 13, 2) := by decide +kernel
theorem dX1_isEnded_37 : decode cX1_isEnded 37 = .ok (.irem, 1) := by decide +kernel
theorem dX1_isEnded_38 : decode cX1_isEnded 38 = .ok (.ifCond .ne 18, 3) := by decide +kernel
theorem dX1_isEnded_41 : decode cX1_isEnded 41 = .ok (.aload_n 0, 1) := by decide +kernel
theorem dX1_isEnded_42 : decode cX1_isEnded 42 = .ok (.getfield 15, 3) := by decide +kernel
theorem dX1_isEnded_45 : decode cX1_isEnded 45 = .ok (.invokestatic 38, 3) := by decide +kernel
theorem dX1_isEnded_48 : decode cX1_isEnded 48 = .ok (.iconst 2, 1) := by decide +kernel
theorem dX1_isEnded_49 : decode cX1_isEnded 49 = .ok (.if_icmp .lt 7, 3) := by decide +kernel
theorem dX1_isEnded_52 : decode cX1_isEnded 52 = .ok (.iconst 1, 1) := by decide +kernel
theorem dX1_isEnded_53 : decode cX1_isEnded 53 = .ok (.goto 4, 3) := by decide +kernel
theorem dX1_isEnded_56 : decode cX1_isEnded 56 = .ok (.iconst 0, 1) := by decide +kernel
theorem dX1_isEnded_57 : decode cX1_isEnded 57 = .ok (.ireturn, 1) := by decide +kernel
theorem dX1_viewsUpTo_0 : decode cX1_viewsUpTo 0 = .ok (.iload_n 0, 1) := by decide +kernel
theorem dX1_viewsUpTo_1 : decode cX1_viewsUpTo 1 = .ok (.iconst 1, 1) := by decide +kernel
theorem dX1_viewsUpTo_2 : decode cX1_viewsUpTo 2 = .ok (.iadd, 1) := by decide +kernel
theorem dX1_viewsUpTo_3 : decode cX1_viewsUpTo 3 = .ok (.bipush 13, 2) := by decide +kernel
theorem dX1_viewsUpTo_5 : decode cX1_viewsUpTo 5 = .ok (.idiv, 1) := by decide +kernel
theorem dX1_viewsUpTo_6 : decode cX1_viewsUpTo 6 = .ok (.ireturn, 1) := by decide +kernel
theorem dX1_writeTo_0 : decode cX1_writeTo 0 = .ok (.aload_n 1, 1) := by decide +kernel
theorem dX1_writeTo_1 : decode cX1_writeTo 1 = .ok (.aload_n 0, 1) := by decide +kernel
theorem dX1_writeTo_2 : decode cX1_writeTo 2 = .ok (.getfield 19, 3) := by decide +kernel
theorem dX1_writeTo_5 : decode cX1_writeTo 5 = .ok (.iconst (-1), 1) := by decide +kernel
theorem dX1_writeTo_6 : decode cX1_writeTo 6 = .ok (.if_icmp .ne 10, 3) := by decide +kernel
theorem dX1_writeTo_9 : decode cX1_writeTo 9 = .ok (.aload_n 0, 1) := by decide +kernel
theorem dX1_writeTo_10 : decode cX1_writeTo 10 = .ok (.getfield 15, 3) := by decide +kernel
theorem dX1_writeTo_13 : decode cX1_writeTo 13 = .ok (.goto 7, 3) := by decide +kernel
theorem dX1_writeTo_16 : decode cX1_writeTo 16 = .ok (.aload_n 0, 1) := by decide +kernel
theorem dX1_writeTo_17 : decode cX1_writeTo 17 = .ok (.getfield 19, 3) := by decide +kernel
theorem dX1_writeTo_20 : decode cX1_writeTo 20 = .ok (.invokestatic 38, 3) := by decide +kernel
theorem dX1_writeTo_23 : decode cX1_writeTo 23 = .ok (.putfield 45, 3) := by decide +kernel
theorem dX1_writeTo_26 : decode cX1_writeTo 26 = .ok (.iconst 0, 1) := by decide +kernel
theorem dX1_writeTo_27 : decode cX1_writeTo 27 = .ok (.istore_n 2, 1) := by decide +kernel
theorem dX1_writeTo_28 : decode cX1_writeTo 28 = .ok (.iload_n 2, 1) := by decide +kernel
theorem dX1_writeTo_29 : decode cX1_writeTo 29 = .ok (.aload_n 1, 1) := by decide +kernel
theorem dX1_writeTo_30 : decode cX1_writeTo 30 = .ok (.getfield 45, 3) := by decide +kernel
theorem dX1_writeTo_33 : decode cX1_writeTo 33 = .ok (.if_icmp .ge 39, 3) := by decide +kernel
theorem dX1_writeTo_36 : decode cX1_writeTo 36 = .ok (.iconst 0, 1) := by decide +kernel
theorem dX1_writeTo_37 : decode cX1_writeTo 37 = .ok (.istore_n 3, 1) := by decide +kernel
theorem dX1_writeTo_38 : decode cX1_writeTo 38 = .ok (.iload_n 3, 1) := by decide +kernel
theorem dX1_writeTo_39 : decode cX1_writeTo 39 = .ok (.bipush 12, 2) := by decide +kernel
theorem dX1_writeTo_41 : decode cX1_writeTo 41 = .ok (.if_icmp .ge 25, 3) := by decide +kernel
theorem dX1_writeTo_44 : decode cX1_writeTo 44 = .ok (.aload_n 1, 1) := by decide +kernel
theorem dX1_writeTo_45 : decode cX1_writeTo 45 = .ok (.iload_n 2, 1) := by decide +kernel
theorem dX1_writeTo_46 : decode cX1_writeTo 46 = .ok (.iload_n 3, 1) := by decide +kernel
theorem dX1_writeTo_47 : decode cX1_writeTo 47 = .ok (.aload_n 0, 1) := by decide +kernel
theorem dX1_writeTo_48 : decode cX1_writeTo 48 = .ok (.iload_n 2, 1) := by decide +kernel
theorem dX1_writeTo_49 : decode cX1_writeTo 49 = .ok (.bipush 13, 2) := by decide +kernel
theorem dX1_writeTo_51 : decode cX1_writeTo 51 = .ok (.imul, 1) := by decide +kernel
theorem dX1_writeTo_52 : decode cX1_writeTo 52 = .ok (.iload_n 3, 1) := by decide +kernel
theorem dX1_writeTo_53 : decode cX1_writeTo 53 = .ok (.iadd, 1) := by decide +kernel
theorem dX1_writeTo_54 : decode cX1_writeTo 54 = .ok (.invokevirtual 34, 3) := by decide +kernel
theorem dX1_writeTo_57 : decode cX1_writeTo 57 = .ok (.invokevirtual 50, 3) := by decide +kernel
theorem dX1_writeTo_60 : decode cX1_writeTo 60 = .ok (.iinc 3 1, 3) := by decide +kernel
theorem dX1_writeTo_63 : decode cX1_writeTo 63 = .ok (.goto (-25), 3) := by decide +kernel
theorem dX1_writeTo_66 : decode cX1_writeTo 66 = .ok (.iinc 2 1, 3) := by decide +kernel
theorem dX1_writeTo_69 : decode cX1_writeTo 69 = .ok (.goto (-41), 3) := by decide +kernel
theorem dX1_writeTo_72 : decode cX1_writeTo 72 = .ok (.aload_n 1, 1) := by decide +kernel
theorem dX1_writeTo_73 : decode cX1_writeTo 73 = .ok (.invokevirtual 54, 3) := by decide +kernel
theorem dX1_writeTo_76 : decode cX1_writeTo 76 = .ok (.aload_n 0, 1) := by decide +kernel
theorem dX1_writeTo_77 : decode cX1_writeTo 77 = .ok (.getfield 19, 3) := by decide +kernel
theorem dX1_writeTo_80 : decode cX1_writeTo 80 = .ok (.iconst (-1), 1) := by decide +kernel
theorem dX1_writeTo_81 : decode cX1_writeTo 81 = .ok (.if_icmp .eq 51, 3) := by decide +kernel
theorem dX1_writeTo_84 : decode cX1_writeTo 84 = .ok (.aload_n 1, 1) := by decide +kernel
theorem dX1_writeTo_85 : decode cX1_writeTo 85 = .ok (.aload_n 0, 1) := by decide +kernel
theorem dX1_writeTo_86 : decode cX1_writeTo 86 = .ok (.getfield 15, 3) := by decide +kernel
theorem dX1_writeTo_89 : decode cX1_writeTo 89 = .ok (.aload_n 0, 1) := by decide +kernel
theorem dX1_writeTo_90 : decode cX1_writeTo 90 = .ok (.getfield 19, 3) := by decide +kernel
theorem dX1_writeTo_93 : decode cX1_writeTo 93 = .ok (.isub, 1) := by decide +kernel
theorem dX1_writeTo_94 : decode cX1_writeTo 94 = .ok (.iconst 1, 1) := by decide +kernel
theorem dX1_writeTo_95 : decode cX1_writeTo 95 = .ok (.isub, 1) := by decide +kernel
theorem dX1_writeTo_96 : decode cX1_writeTo 96 = .ok (.putfield 57, 3) := by decide +kernel
theorem dX1_writeTo_99 : decode cX1_writeTo 99 = .ok (.iconst 0, 1) := by decide +kernel
theorem dX1_writeTo_100 : decode cX1_writeTo 100 = .ok (.istore_n 2, 1) := by decide +kernel
theorem dX1_writeTo_101 : decode cX1_writeTo 101 = .ok (.iload_n 2, 1) := by decide +kernel
theorem dX1_writeTo_102 : decode cX1_writeTo 102 = .ok (.aload_n 1, 1) := by decide +kernel
theorem dX1_writeTo_103 : decode cX1_writeTo 103 = .ok (.getfield 57, 3) := by decide +kernel
theorem dX1_writeTo_106 : decode cX1_writeTo 106 = .ok (.if_icmp .ge 26, 3) := by decide +kernel
theorem dX1_writeTo_109 : decode cX1_writeTo 109 = .ok (.aload_n 1, 1) := by decide +kernel
theorem dX1_writeTo_110 : decode cX1_writeTo 110 = .ok (.iload_n 2, 1) := by decide +kernel
theorem dX1_writeTo_111 : decode cX1_writeTo 111 = .ok (.aload_n 0, 1) := by decide +kernel
theorem dX1_writeTo_112 : decode cX1_writeTo 112 = .ok (.aload_n 0, 1) := by decide +kernel
theorem dX1_writeTo_113 : decode cX1_writeTo 113 = .ok (.getfield 19, 3) := by decide +kernel
theorem dX1_writeTo_116 : decode cX1_writeTo 116 = .ok (.iconst 1, 1) := by decide +kernel
theorem dX1_writeTo_117 : decode cX1_writeTo 117 = .ok (.iadd, 1) := by decide +kernel
theorem dX1_writeTo_118 : decode cX1_writeTo 118 = .ok (.iload_n 2, 1) := by decide +kernel
theorem dX1_writeTo_119 : decode cX1_writeTo 119 = .ok (.iadd, 1) := by decide +kernel
theorem dX1_writeTo_120 : decode cX1_writeTo 120 = .ok (.invokevirtual 34, 3) := by decide +kernel
theorem dX1_writeTo_123 : decode cX1_writeTo 123 = .ok (.invokevirtual 60, 3) := by decide +kernel
theorem dX1_writeTo_126 : decode cX1_writeTo 126 = .ok (.iinc 2 1, 3) := by decide +kernel
theorem dX1_writeTo_129 : decode cX1_writeTo 129 = .ok (.goto (-28), 3) := by decide +kernel
theorem dX1_writeTo_132 : decode cX1_writeTo 132 = .ok (.return_, 1) := by decide +kernel
theorem dX2_init_0 : decode cX2_init 0 = .ok (.aload_n 0, 1) := by decide +kernel
theorem dX2_init_1 : decode cX2_init 1 = .ok (.invokespecial 3, 3) := by decide +kernel
theorem dX2_init_4 : decode cX2_init 4 = .ok (.aload_n 0, 1) := by decide +kernel
theorem dX2_init_5 : decode cX2_init 5 = .ok (.iconst 4, 1) := by decide +kernel
theorem dX2_init_6 : decode cX2_init 6 = .ok (.anewarray 9, 3) := by decide +kernel
theorem dX2_init_9 : decode cX2_init 9 = .ok (.putfield 11, 3) := by decide +kernel
theorem dX2_init_12 : decode cX2_init 12 = .ok (.aload_n 0, 1) := by decide +kernel
theorem dX2_init_13 : decode cX2_init 13 = .ok (.iconst 0, 1) := by decide +kernel
theorem dX2_init_14 : decode cX2_init 14 = .ok (.putfield 17, 3) := by decide +kernel
theorem dX2_init_17 : decode cX2_init 17 = .ok (.iconst 0, 1) := by decide +kernel
theorem dX2_init_18 : decode cX2_init 18 = .ok (.istore_n 1, 1) := by decide +kernel
theorem dX2_init_19 : decode cX2_init 19 = .ok (.iload_n 1, 1) := by decide +kernel
theorem dX2_init_20 : decode cX2_init 20 = .ok (.iconst 4, 1) := by decide +kernel
theorem dX2_init_21 : decode cX2_init 21 = .ok (.if_icmp .ge 22, 3) := by decide +kernel
theorem dX2_init_24 : decode cX2_init 24 = .ok (.aload_n 0, 1) := by decide +kernel
theorem dX2_init_25 : decode cX2_init 25 = .ok (.getfield 11, 3) := by decide +kernel
theorem dX2_init_28 : decode cX2_init 28 = .ok (.iload_n 1, 1) := by decide +kernel
theorem dX2_init_29 : decode cX2_init 29 = .ok (.new 9, 3) := by decide +kernel
theorem dX2_init_32 : decode cX2_init 32 = .ok (.dup, 1) := by decide +kernel
theorem dX2_init_33 : decode cX2_init 33 = .ok (.invokespecial 21, 3) := by decide +kernel
theorem dX2_init_36 : decode cX2_init 36 = .ok (.aastore, 1) := by decide +kernel
theorem dX2_init_37 : decode cX2_init 37 = .ok (.iinc 1 1, 3) := by decide +kernel
theorem dX2_init_40 : decode cX2_init 40 = .ok (.goto (-21), 3) := by decide +kernel
theorem dX2_init_43 : decode cX2_init 43 = .ok (.return_, 1) := by decide +kernel
theorem dX2_record_0 : decode cX2_record 0 = .ok (.aload_n 0, 1) := by decide +kernel
theorem dX2_record_1 : decode cX2_record 1 = .ok (.getfield 17, 3) := by decide +kernel
theorem dX2_record_4 : decode cX2_record 4 = .ok (.iconst 4, 1) := by decide +kernel
theorem dX2_record_5 : decode cX2_record 5 = .ok (.if_icmp .lt 7, 3) := by decide +kernel
theorem dX2_record_8 : decode cX2_record 8 = .ok (.aload_n 0, 1) := by decide +kernel
theorem dX2_record_9 : decode cX2_record 9 = .ok (.invokevirtual 22, 3) := by decide +kernel
theorem dX2_record_12 : decode cX2_record 12 = .ok (.aload_n 0, 1) := by decide +kernel
theorem dX2_record_13 : decode cX2_record 13 = .ok (.aload_n 0, 1) := by decide +kernel
theorem dX2_record_14 : decode cX2_record 14 = .ok (.getfield 17, 3) := by decide +kernel
theorem dX2_record_17 : decode cX2_record 17 = .ok (.invokevirtual 25, 3) := by decide +kernel
theorem dX2_record_20 : decode cX2_record 20 = .ok (.astore_n 2, 1) := by decide +kernel
theorem dX2_record_21 : decode cX2_record 21 = .ok (.aload_n 2, 1) := by decide +kernel
theorem dX2_record_22 : decode cX2_record 22 = .ok (.ifnull 18, 3) := by decide +kernel
theorem dX2_record_25 : decode cX2_record 25 = .ok (.aload_n 2, 1) := by decide +kernel
theorem dX2_record_26 : decode cX2_record 26 = .ok (.aload_n 1, 1) := by decide +kernel
theorem dX2_record_27 : decode cX2_record 27 = .ok (.invokevirtual 29, 3) := by decide +kernel
theorem dX2_record_30 : decode cX2_record 30 = .ok (.aload_n 0, 1) := by decide +kernel
theorem dX2_record_31 : decode cX2_record 31 = .ok (.dup, 1) := by decide +kernel
theorem dX2_record_32 : decode cX2_record 32 = .ok (.getfield 17, 3) := by decide +kernel
theorem dX2_record_35 : decode cX2_record 35 = .ok (.iconst 1, 1) := by decide +kernel
theorem dX2_record_36 : decode cX2_record 36 = .ok (.iadd, 1) := by decide +kernel
theorem dX2_record_37 : decode cX2_record 37 = .ok (.putfield 17, 3) := by decide +kernel
theorem dX2_record_40 : decode cX2_record 40 = .ok (.return_, 1) := by decide +kernel
theorem dX2_dropOldest_0 : decode cX2_dropOldest 0 = .ok (.aload_n 0, 1) := by decide +kernel
theorem dX2_dropOldest_1 : decode cX2_dropOldest 1 = .ok (.getfield 11, 3) := by decide +kernel
theorem dX2_dropOldest_4 : decode cX2_dropOldest 4 = .ok (.iconst 0, 1) := by decide +kernel
theorem dX2_dropOldest_5 : decode cX2_dropOldest 5 = .ok (.aaload, 1) := by decide +kernel
theorem dX2_dropOldest_6 : decode cX2_dropOldest 6 = .ok (.astore_n 1, 1) := by decide +kernel
theorem dX2_dropOldest_7 : decode cX2_dropOldest 7 = .ok (.iconst 1, 1) := by decide +kernel
theorem dX2_dropOldest_8 : decode cX2_dropOldest 8 = .ok (.istore_n 2, 1) := by decide +kernel
theorem dX2_dropOldest_9 : decode cX2_dropOldest 9 = .ok (.iload_n 2, 1) := by decide +kernel
theorem dX2_dropOldest_10 : decode cX2_dropOldest 10 = .ok (.iconst 4, 1) := by decide +kernel
theorem dX2_dropOldest_11 : decode cX2_dropOldest 11 = .ok (.if_icmp .ge 23, 3) := by decide +kernel
theorem dX2_dropOldest_14 : decode cX2_dropOldest 14 = .ok (.aload_n 0, 1) := by decide +kernel
theorem dX2_dropOldest_15 : decode cX2_dropOldest 15 = .ok (.getfield 11, 3) := by decide +kernel
theorem dX2_dropOldest_18 : decode cX2_dropOldest 18 = .ok (.iload_n 2, 1) := by decide +kernel
theorem dX2_dropOldest_19 : decode cX2_dropOldest 19 = .ok (.iconst 1, 1) := by decide +kernel
theorem dX2_dropOldest_20 : decode cX2_dropOldest 20 = .ok (.isub, 1) := by decide +kernel
theorem dX2_dropOldest_21 : decode cX2_dropOldest 21 = .ok (.aload_n 0, 1) := by decide +kernel
theorem dX2_dropOldest_22 : decode cX2_dropOldest 22 = .ok (.getfield 11, 3) := by decide +kernel
theorem dX2_dropOldest_25 : decode cX2_dropOldest 25 = .ok (.iload_n 2, 1) := by decide +kernel
theorem dX2_dropOldest_26 : decode cX2_dropOldest 26 = .ok (.aaload, 1) := by decide +kernel
theorem dX2_dropOldest_27 : decode cX2_dropOldest 27 = .ok (.aastore, 1) := by decide +kernel
theorem dX2_dropOldest_28 : decode cX2_dropOldest 28 = .ok (.iinc 2 1, 3) := by decide +kernel
theorem dX2_dropOldest_31 : decode cX2_dropOldest 31 = .ok (.goto (-22), 3) := by decide +kernel
theorem dX2_dropOldest_34 : decode cX2_dropOldest 34 = .ok (.aload_n 0, 1) := by decide +kernel
theorem dX2_dropOldest_35 : decode cX2_dropOldest 35 = .ok (.getfield 11, 3) := by decide +kernel
theorem dX2_dropOldest_38 : decode cX2_dropOldest 38 = .ok (.iconst 3, 1) := by decide +kernel
theorem dX2_dropOldest_39 : decode cX2_dropOldest 39 = .ok (.aload_n 1, 1) := by decide +kernel
theorem dX2_dropOldest_40 : decode cX2_dropOldest 40 = .ok (.aastore, 1) := by decide +kernel
theorem dX2_dropOldest_41 : decode cX2_dropOldest 41 = .ok (.aload_n 0, 1) := by decide +kernel
theorem dX2_dropOldest_42 : decode cX2_dropOldest 42 = .ok (.dup, 1) := by decide +kernel
theorem dX2_dropOldest_43 : decode cX2_dropOldest 43 = .ok (.getfield 17, 3) := by decide +kernel
theorem dX2_dropOldest_46 : decode cX2_dropOldest 46 = .ok (.iconst 1, 1) := by decide +kernel
theorem dX2_dropOldest_47 : decode cX2_dropOldest 47 = .ok (.isub, 1) := by decide +kernel
theorem dX2_dropOldest_48 : decode cX2_dropOldest 48 = .ok (.putfield 17, 3) := by decide +kernel
theorem dX2_dropOldest_51 : decode cX2_dropOldest 51 = .ok (.return_, 1) := by decide +kernel
theorem dX2_takeLatest_0 : decode cX2_takeLatest 0 = .ok (.aload_n 0, 1) := by decide +kernel
theorem dX2_takeLatest_1 : decode cX2_takeLatest 1 = .ok (.aload_n 0, 1) := by decide +kernel
theorem dX2_takeLatest_2 : decode cX2_takeLatest 2 = .ok (.getfield 17, 3) := by decide +kernel
theorem dX2_takeLatest_5 : decode cX2_takeLatest 5 = .ok (.iconst 1, 1) := by decide +kernel
theorem dX2_takeLatest_6 : decode cX2_takeLatest 6 = .ok (.isub, 1) := by decide +kernel
theorem dX2_takeLatest_7 : decode cX2_takeLatest 7 = .ok (.invokevirtual 25, 3) := by decide +kernel
theorem dX2_takeLatest_10 : decode cX2_takeLatest 10 = .ok (.astore_n 2, 1) := by decide +kernel
theorem dX2_takeLatest_11 : decode cX2_takeLatest 11 = .ok (.aload_n 2, 1) := by decide +kernel
theorem dX2_takeLatest_12 : decode cX2_takeLatest 12 = .ok (.ifnull 18, 3) := by decide +kernel
theorem dX2_takeLatest_15 : decode cX2_takeLatest 15 = .ok (.aload_n 1, 1) := by decide +kernel
theorem dX2_takeLatest_16 : decode cX2_takeLatest 16 = .ok (.aload_n 2, 1) := by decide +kernel
theorem dX2_takeLatest_17 : decode cX2_takeLatest 17 = .ok (.invokevirtual 29, 3) := by decide +kernel
theorem dX2_takeLatest_20 : decode cX2_takeLatest 20 = .ok (.aload_n 0, 1) := by decide +kernel
theorem dX2_takeLatest_21 : decode cX2_takeLatest 21 = .ok (.dup, 1) := by decide +kernel
theorem dX2_takeLatest_22 : decode cX2_takeLatest 22 = .ok (.getfield 17, 3) := by decide +kernel
theorem dX2_takeLatest_25 : decode cX2_takeLatest 25 = .ok (.iconst 1, 1) := by decide +kernel
theorem dX2_takeLatest_26 : decode cX2_takeLatest 26 = .ok (.isub, 1) := by decide +kernel
theorem dX2_takeLatest_27 : decode cX2_takeLatest 27 = .ok (.putfield 17, 3) := by decide +kernel
theorem dX2_takeLatest_30 : decode cX2_takeLatest 30 = .ok (.return_, 1) := by decide +kernel
theorem dX2_stateAt_0 : decode cX2_stateAt 0 = .ok (.iload_n 1, 1) := by decide +kernel
theorem dX2_stateAt_1 : decode cX2_stateAt 1 = .ok (.ifCond .lt 17, 3) := by decide +kernel
theorem dX2_stateAt_4 : decode cX2_stateAt 4 = .ok (.iload_n 1, 1) := by decide +kernel
theorem dX2_stateAt_5 : decode cX2_stateAt 5 = .ok (.iconst 4, 1) := by decide +kernel
theorem dX2_stateAt_6 : decode cX2_stateAt 6 = .ok (.if_icmp .ge 12, 3) := by decide +kernel
theorem dX2_stateAt_9 : decode cX2_stateAt 9 = .ok (.aload_n 0, 1) := by decide +kernel
theorem dX2_stateAt_10 : decode cX2_stateAt 10 = .ok (.getfield 11, 3) := by decide +kernel
theorem dX2_stateAt_13 : decode cX2_stateAt 13 = .ok (.iload_n 1, 1) := by decide +kernel
theorem dX2_stateAt_14 : decode cX2_stateAt 14 = .ok (.aaload, 1) := by decide +kernel
theorem dX2_stateAt_15 : decode cX2_stateAt 15 = .ok (.goto 4, 3) := by decide +kernel
theorem dX2_stateAt_18 : decode cX2_stateAt 18 = .ok (.aconst_null, 1) := by decide +kernel
theorem dX2_stateAt_19 : decode cX2_stateAt 19 = .ok (.areturn, 1) := by decide +kernel
theorem dX3_init_0 : decode cX3_init 0 = .ok (.aload_n 0, 1) := by decide +kernel
theorem dX3_init_1 : decode cX3_init 1 = .ok (.invokespecial 3, 3) := by decide +kernel
theorem dX3_init_4 : decode cX3_init 4 = .ok (.aload_n 0, 1) := by decide +kernel
theorem dX3_init_5 : decode cX3_init 5 = .ok (.bipush 72, 2) := by decide +kernel
theorem dX3_init_7 : decode cX3_init 7 = .ok (.newarray .int, 2) := by decide +kernel
theorem dX3_init_9 : decode cX3_init 9 = .ok (.putfield 9, 3) := by decide +kernel
theorem dX3_init_12 : decode cX3_init 12 = .ok (.aload_n 0, 1) := by decide +kernel
theorem dX3_init_13 : decode cX3_init 13 = .ok (.bipush 6, 2) := by decide +kernel
theorem dX3_init_15 : decode cX3_init 15 = .ok (.newarray .int, 2) := by decide +kernel
theorem dX3_init_17 : decode cX3_init 17 = .ok (.putfield 15, 3) := by decide +kernel
theorem dX3_init_20 : decode cX3_init 20 = .ok (.aload_n 0, 1) := by decide +kernel
theorem dX3_init_21 : decode cX3_init 21 = .ok (.aload_n 1, 1) := by decide +kernel
theorem dX3_init_22 : decode cX3_init 22 = .ok (.putfield 18, 3) := by decide +kernel
theorem dX3_init_25 : decode cX3_init 25 = .ok (.return_, 1) := by decide +kernel
theorem dX3_aim_0 : decode cX3_aim 0 = .ok (.iconst 0, 1) := by decide +kernel
theorem dX3_aim_1 : decode cX3_aim 1 = .ok (.istore_n 1, 1) := by decide +kernel
theorem dX3_aim_2 : decode cX3_aim 2 = .ok (.iload_n 1, 1) := by decide +kernel
theorem dX3_aim_3 : decode cX3_aim 3 = .ok (.bipush 6, 2) := by decide +kernel
theorem dX3_aim_5 : decode cX3_aim 5 = .ok (.if_icmp .ge 58, 3) := by decide +kernel
theorem dX3_aim_8 : decode cX3_aim 8 = .ok (.aload_n 0, 1) := by decide +kernel
theorem dX3_aim_9 : decode cX3_aim 9 = .ok (.getfield 15, 3) := by decide +kernel
theorem dX3_aim_12 : decode cX3_aim 12 = .ok (.iload_n 1, 1) := by decide +kernel
theorem dX3_aim_13 : decode cX3_aim 13 = .ok (.iconst 0, 1) := by decide +kernel
theorem dX3_aim_14 : decode cX3_aim 14 = .ok (.iastore, 1) := by decide +kernel
theorem dX3_aim_15 : decode cX3_aim 15 = .ok (.iconst 0, 1) := by decide +kernel
theorem dX3_aim_16 : decode cX3_aim 16 = .ok (.istore_n 2, 1) := by decide +kernel
theorem dX3_aim_17 : decode cX3_aim 17 = .ok (.iload_n 2, 1) := by decide +kernel
theorem dX3_aim_18 : decode cX3_aim 18 = .ok (.bipush 12, 2) := by decide +kernel
theorem dX3_aim_20 : decode cX3_aim 20 = .ok (.if_icmp .ge 37, 3) := by decide +kernel
theorem dX3_aim_23 : decode cX3_aim 23 = .ok (.aload_n 0, 1) := by decide +kernel
theorem dX3_aim_24 : decode cX3_aim 24 = .ok (.getfield 9, 3) := by decide +kernel
theorem dX3_aim_27 : decode cX3_aim 27 = .ok (.iload_n 1, 1) := by decide +kernel
theorem dX3_aim_28 : decode cX3_aim 28 = .ok (.bipush 12, 2) := by decide +kernel
theorem dX3_aim_30 : decode cX3_aim 30 = .ok (.imul, 1) := by decide +kernel
theorem dX3_aim_31 : decode cX3_aim 31 = .ok (.iload_n 2, 1) := by decide +kernel
theorem dX3_aim_32 : decode cX3_aim 32 = .ok (.iadd, 1) := by decide +kernel
theorem dX3_aim_33 : decode cX3_aim 33 = .ok (.aload_n 0, 1) := by decide +kernel
theorem dX3_aim_34 : decode cX3_aim 34 = .ok (.getfield 18, 3) := by decide +kernel
theorem dX3_aim_37 : decode cX3_aim 37 = .ok (.iload_n 2, 1) := by decide +kernel
theorem dX3_aim_38 : decode cX3_aim 38 = .ok (.aload_n 0, 1) := by decide +kernel
theorem dX3_aim_39 : decode cX3_aim 39 = .ok (.getfield 18, 3) := by decide +kernel
theorem dX3_aim_42 : decode cX3_aim 42 = .ok (.iload_n 1, 1) := by decide +kernel
theorem dX3_aim_43 : decode cX3_aim 43 = .ok (.iload_n 2, 1) := by decide +kernel
theorem dX3_aim_44 : decode cX3_aim 44 = .ok (.invokevirtual 22, 3) := by decide +kernel
theorem dX3_aim_47 : decode cX3_aim 47 = .ok (.invokevirtual 28, 3) := by decide +kernel
theorem dX3_aim_50 : decode cX3_aim 50 = .ok (.iastore, 1) := by decide +kernel
theorem dX3_aim_51 : decode cX3_aim 51 = .ok (.iinc 2 1, 3) := by decide +kernel
theorem dX3_aim_54 : decode cX3_aim 54 = .ok (.goto (-37), 3) := by decide +kernel
theorem dX3_aim_57 : decode cX3_aim 57 = .ok (.iinc 1 1, 3) := by decide +kernel
theorem dX3_aim_60 : decode cX3_aim 60 = .ok (.goto (-58), 3) := by decide +kernel
theorem dX3_aim_63 : decode cX3_aim 63 = .ok (.bipush (-9), 2) := by decide +kernel
theorem dX3_aim_65 : decode cX3_aim 65 = .ok (.istore_n 1, 1) := by decide +kernel
theorem dX3_aim_66 : decode cX3_aim 66 = .ok (.iload_n 1, 1) := by decide +kernel
theorem dX3_aim_67 : decode cX3_aim 67 = .ok (.bipush 9, 2) := by decide +kernel
theorem dX3_aim_69 : decode cX3_aim 69 = .ok (.if_icmp .gt 37, 3) := by decide +kernel
theorem dX3_aim_72 : decode cX3_aim 72 = .ok (.aload_n 0, 1) := by decide +kernel
theorem dX3_aim_73 : decode cX3_aim 73 = .ok (.getfield 18, 3) := by decide +kernel
theorem dX3_aim_76 : decode cX3_aim 76 = .ok (.iload_n 1, 1) := by decide +kernel
theorem dX3_aim_77 : decode cX3_aim 77 = .ok (.invokevirtual 31, 3) := by decide +kernel
theorem dX3_aim_80 : decode cX3_aim 80 = .ok (.istore_n 2, 1) := by decide +kernel
theorem dX3_aim_81 : decode cX3_aim 81 = .ok (.iload_n 2, 1) := by decide +kernel
theorem dX3_aim_82 : decode cX3_aim 82 = .ok (.iconst 0, 1) := by decide +kernel
theorem dX3_aim_83 : decode cX3_aim 83 = .ok (.iconst 5, 1) := by decide +kernel
theorem dX3_aim_84 : decode cX3_aim 84 = .ok (.invokestatic 35, 3) := by decide +kernel
theorem dX3_aim_87 : decode cX3_aim 87 = .ok (.ifCond .eq 13, 3) := by decide +kernel
theorem dX3_aim_90 : decode cX3_aim 90 = .ok (.aload_n 0, 1) := by decide +kernel
theorem dX3_aim_91 : decode cX3_aim 91 = .ok (.getfield 15, 3) := by decide +kernel
theorem dX3_aim_94 : decode cX3_aim 94 = .ok (.iload_n 2, 1) := by decide +kernel
theorem dX3_aim_95 : decode cX3_aim 95 = .ok (.dup2, 1) := by decide +kernel
theorem dX3_aim_96 : decode cX3_aim 96 = .ok (.iaload, 1) := by decide +kernel
theorem dX3_aim_97 : decode cX3_aim 97 = .ok (.iconst 1, 1) := by decide +kernel
theorem dX3_aim_98 : decode cX3_aim 98 = .ok (.iadd, 1) := by decide +kernel
theorem dX3_aim_99 : decode cX3_aim 99 = .ok (.iastore, 1) := by decide +kernel
theorem dX3_aim_100 : decode cX3_aim 100 = .ok (.iinc 1 1, 3) := by decide +kernel
theorem dX3_aim_103 : decode cX3_aim 103 = .ok (.goto (-37), 3) := by decide +kernel
theorem dX3_aim_106 : decode cX3_aim 106 = .ok (.return_, 1) := by decide +kernel
theorem dX3_viewSeen_0 : decode cX3_viewSeen 0 = .ok (.iload_n 1, 1) := by decide +kernel
theorem dX3_viewSeen_1 : decode cX3_viewSeen 1 = .ok (.ifCond .lt 19, 3) := by decide +kernel
theorem dX3_viewSeen_4 : decode cX3_viewSeen 4 = .ok (.iload_n 1, 1) := by decide +kernel
theorem dX3_viewSeen_5 : decode cX3_viewSeen 5 = .ok (.bipush 6, 2) := by decide +kernel
theorem dX3_viewSeen_7 : decode cX3_viewSeen 7 = .ok (.if_icmp .ge 13, 3) := by decide +kernel
theorem dX3_viewSeen_10 : decode cX3_viewSeen 10 = .ok (.iload_n 2, 1) := by decide +kernel
theorem dX3_viewSeen_11 : decode cX3_viewSeen 11 = .ok (.ifCond .lt 9, 3) := by decide +kernel
theorem dX3_viewSeen_14 : decode cX3_viewSeen 14 = .ok (.iload_n 2, 1) := by decide +kernel
theorem dX3_viewSeen_15 : decode cX3_viewSeen 15 = .ok (.bipush 12, 2) := by decide +kernel
theorem dX3_viewSeen_17 : decode cX3_viewSeen 17 = .ok (.if_icmp .lt 5, 3) := by decide +kernel
theorem dX3_viewSeen_20 : decode cX3_viewSeen 20 = .ok (.iconst (-1), 1) := by decide +kernel
theorem dX3_viewSeen_21 : decode cX3_viewSeen 21 = .ok (.ireturn, 1) := by decide +kernel
theorem dX3_viewSeen_22 : decode cX3_viewSeen 22 = .ok (.aload_n 0, 1) := by decide +kernel
theorem dX3_viewSeen_23 : decode cX3_viewSeen 23 = .ok (.getfield 18, 3) := by decide +kernel
theorem dX3_viewSeen_26 : decode cX3_viewSeen 26 = .ok (.aload_n 0, 1) := by decide +kernel
theorem dX3_viewSeen_27 : decode cX3_viewSeen 27 = .ok (.getfield 9, 3) := by decide +kernel
theorem dX3_viewSeen_30 : decode cX3_viewSeen 30 = .ok (.iload_n 1, 1) := by decide +kernel
theorem dX3_viewSeen_31 : decode cX3_viewSeen 31 = .ok (.bipush 12, 2) := by decide +kernel
theorem dX3_viewSeen_33 : decode cX3_viewSeen 33 = .ok (.imul, 1) := by decide +kernel
theorem dX3_viewSeen_34 : decode cX3_viewSeen 34 = .ok (.iload_n 2, 1) := by decide +kernel
theorem dX3_viewSeen_35 : decode cX3_viewSeen 35 = .ok (.iadd, 1) := by decide +kernel
theorem dX3_viewSeen_36 : decode cX3_viewSeen 36 = .ok (.iaload, 1) := by decide +kernel
theorem dX3_viewSeen_37 : decode cX3_viewSeen 37 = .ok (.invokevirtual 39, 3) := by decide +kernel
theorem dX3_viewSeen_40 : decode cX3_viewSeen 40 = .ok (.ireturn, 1) := by decide +kernel
theorem dX3_isGhost_0 : decode cX3_isGhost 0 = .ok (.aload_n 0, 1) := by decide +kernel
theorem dX3_isGhost_1 : decode cX3_isGhost 1 = .ok (.iload_n 1, 1) := by decide +kernel
theorem dX3_isGhost_2 : decode cX3_isGhost 2 = .ok (.iload_n 2, 1) := by decide +kernel
theorem dX3_isGhost_3 : decode cX3_isGhost 3 = .ok (.invokevirtual 42, 3) := by decide +kernel
theorem dX3_isGhost_6 : decode cX3_isGhost 6 = .ok (.istore_n 3, 1) := by decide +kernel
theorem dX3_isGhost_7 : decode cX3_isGhost 7 = .ok (.iload_n 2, 1) := by decide +kernel
theorem dX3_isGhost_8 : decode cX3_isGhost 8 = .ok (.ifCond .le 15, 3) := by decide +kernel
theorem dX3_isGhost_11 : decode cX3_isGhost 11 = .ok (.aload_n 0, 1) := by decide +kernel
theorem dX3_isGhost_12 : decode cX3_isGhost 12 = .ok (.iload_n 1, 1) := by decide +kernel
theorem dX3_isGhost_13 : decode cX3_isGhost 13 = .ok (.iload_n 2, 1) := by decide +kernel
theorem dX3_isGhost_14 : decode cX3_isGhost 14 = .ok (.iconst 1, 1) := by decide +kernel
theorem dX3_isGhost_15 : decode cX3_isGhost 15 = .ok (.isub, 1) := by decide +kernel
theorem dX3_isGhost_16 : decode cX3_isGhost 16 = .ok (.invokevirtual 42, 3) := by decide +kernel
theorem dX3_isGhost_19 : decode cX3_isGhost 19 = .ok (.iload_n 3, 1) := by decide +kernel
theorem dX3_isGhost_20 : decode cX3_isGhost 20 = .ok (.if_icmp .ne 21, 3) := by decide +kernel
theorem dX3_isGhost_23 : decode cX3_isGhost 23 = .ok (.iload_n 2, 1) := by decide +kernel
theorem dX3_isGhost_24 : decode cX3_isGhost 24 = .ok (.bipush 11, 2) := by decide +kernel
theorem dX3_isGhost_26 : decode cX3_isGhost 26 = .ok (.if_icmp .ge 19, 3) := by decide +kernel
theorem dX3_isGhost_29 : decode cX3_isGhost 29 = .ok (.aload_n 0, 1) := by decide +kernel
theorem dX3_isGhost_30 : decode cX3_isGhost 30 = .ok (.iload_n 1, 1) := by decide +kernel
theorem dX3_isGhost_31 : decode cX3_isGhost 31 = .ok (.iload_n 2, 1) := by decide +kernel
theorem dX3_isGhost_32 : decode cX3_isGhost 32 = .ok (.iconst 1, 1) := by decide +kernel
theorem dX3_isGhost_33 : decode cX3_isGhost 33 = .ok (.iadd, 1) := by decide +kernel
theorem dX3_isGhost_34 : decode cX3_isGhost 34 = .ok (.invokevirtual 42, 3) := by decide +kernel
theorem dX3_isGhost_37 : decode cX3_isGhost 37 = .ok (.iload_n 3, 1) := by decide +kernel
theorem dX3_isGhost_38 : decode cX3_isGhost 38 = .ok (.if_icmp .eq 7, 3) := by decide +kernel
theorem dX3_isGhost_41 : decode cX3_isGhost 41 = .ok (.iconst 1, 1) := by decide +kernel
theorem dX3_isGhost_42 : decode cX3_isGhost 42 = .ok (.goto 4, 3) := by decide +kernel
theorem dX3_isGhost_45 : decode cX3_isGhost 45 = .ok (.iconst 0, 1) := by decide +kernel
theorem dX3_isGhost_46 : decode cX3_isGhost 46 = .ok (.ireturn, 1) := by decide +kernel
theorem dX3_ghosts_0 : decode cX3_ghosts 0 = .ok (.iconst 0, 1) := by decide +kernel
theorem dX3_ghosts_1 : decode cX3_ghosts 1 = .ok (.istore_n 2, 1) := by decide +kernel
theorem dX3_ghosts_2 : decode cX3_ghosts 2 = .ok (.iconst 0, 1) := by decide +kernel
theorem dX3_ghosts_3 : decode cX3_ghosts 3 = .ok (.istore_n 3, 1) := by decide +kernel
theorem dX3_ghosts_4 : decode cX3_ghosts 4 = .ok (.iload_n 3, 1) := by decide +kernel
theorem dX3_ghosts_5 : decode cX3_ghosts 5 = .ok (.bipush 12, 2) := by decide +kernel
theorem dX3_ghosts_7 : decode cX3_ghosts 7 = .ok (.if_icmp .ge 21, 3) := by decide +kernel
theorem dX3_ghosts_10 : decode cX3_ghosts 10 = .ok (.aload_n 0, 1) := by decide +kernel
theorem dX3_ghosts_11 : decode cX3_ghosts 11 = .ok (.iload_n 1, 1) := by decide +kernel
theorem dX3_ghosts_12 : decode cX3_ghosts 12 = .ok (.iload_n 3, 1) := by decide +kernel
theorem dX3_ghosts_13 : decode cX3_ghosts 13 = .ok (.invokevirtual 45, 3) := by decide +kernel
theorem dX3_ghosts_16 : decode cX3_ghosts 16 = .ok (.ifCond .eq 6, 3) := by decide +kernel
theorem dX3_ghosts_19 : decode cX3_ghosts 19 = .ok (.iinc 2 1, 3) := by decide +kernel
theorem dX3_ghosts_22 : decode cX3_ghosts 22 = .ok (.iinc 3 1, 3) := by decide +kernel
theorem dX3_ghosts_25 : decode cX3_ghosts 25 = .ok (.goto (-21), 3) := by decide +kernel
theorem dX3_ghosts_28 : decode cX3_ghosts 28 = .ok (.iload_n 2, 1) := by decide +kernel
theorem dX3_ghosts_29 : decode cX3_ghosts 29 = .ok (.ireturn, 1) := by decide +kernel
theorem dX3_ghostsAtAllAngles_0 : decode cX3_ghostsAtAllAngles 0 = .ok (.iconst 0, 1) := by decide +kernel
theorem dX3_ghostsAtAllAngles_1 : decode cX3_ghostsAtAllAngles 1 = .ok (.istore_n 1, 1) := by decide +kernel
theorem dX3_ghostsAtAllAngles_2 : decode cX3_ghostsAtAllAngles 2 = .ok (.iconst 0, 1) := by decide +kernel
theorem dX3_ghostsAtAllAngles_3 : decode cX3_ghostsAtAllAngles 3 = .ok (.istore_n 2, 1) := by decide +kernel
theorem dX3_ghostsAtAllAngles_4 : decode cX3_ghostsAtAllAngles 4 = .ok (.iload_n 2, 1) := by decide +kernel
theorem dX3_ghostsAtAllAngles_5 : decode cX3_ghostsAtAllAngles 5 = .ok (.aload_n 0, 1) := by decide +kernel
theorem dX3_ghostsAtAllAngles_6 : decode cX3_ghostsAtAllAngles 6 = .ok (.getfield 18, 3) := by decide +kernel
theorem dX3_ghostsAtAllAngles_9 : decode cX3_ghostsAtAllAngles 9 = .ok (.getfield 49, 3) := by decide +kernel
theorem dX3_ghostsAtAllAngles_12 : decode cX3_ghostsAtAllAngles 12 = .ok (.if_icmp .ge 30, 3) := by decide +kernel
theorem dX3_ghostsAtAllAngles_15 : decode cX3_ghostsAtAllAngles 15 = .ok (.iload_n 2, 1) := by decide +kernel
theorem dX3_ghostsAtAllAngles_16 : decode cX3_ghostsAtAllAngles 16 = .ok (.bipush 6, 2) := by decide +kernel
theorem dX3_ghostsAtAllAngles_18 : decode cX3_ghostsAtAllAngles 18 = .ok (.if_icmp .ge 24, 3) := by decide +kernel
theorem dX3_ghostsAtAllAngles_21 : decode cX3_ghostsAtAllAngles 21 = .ok (.iload_n 1, 1) := by decide +kernel
theorem dX3_ghostsAtAllAngles_22 : decode cX3_ghostsAtAllAngles 22 = .ok (.aload_n 0, 1) := by decide +kernel
theorem dX3_ghostsAtAllAngles_23 : decode cX3_ghostsAtAllAngles 23 = .ok (.getfield 15, 3) := by decide +kernel
theorem dX3_ghostsAtAllAngles_26 : decode cX3_ghostsAtAllAngles 26 = .ok (.iload_n 2, 1) := by decide +kernel
theorem dX3_ghostsAtAllAngles_27 : decode cX3_ghostsAtAllAngles 27 = .ok (.iaload, 1) := by decide +kernel
theorem dX3_ghostsAtAllAngles_28 : decode cX3_ghostsAtAllAngles 28 = .ok (.aload_n 0, 1) := by decide +kernel
theorem dX3_ghostsAtAllAngles_29 : decode cX3_ghostsAtAllAngles 29 = .ok (.iload_n 2, 1) := by decide +kernel
theorem dX3_ghostsAtAllAngles_30 : decode cX3_ghostsAtAllAngles 30 = .ok (.invokevirtual 53, 3) := by decide +kernel
theorem dX3_ghostsAtAllAngles_33 : decode cX3_ghostsAtAllAngles 33 = .ok (.imul, 1) := by decide +kernel
theorem dX3_ghostsAtAllAngles_34 : decode cX3_ghostsAtAllAngles 34 = .ok (.iadd, 1) := by decide +kernel
theorem dX3_ghostsAtAllAngles_35 : decode cX3_ghostsAtAllAngles 35 = .ok (.istore_n 1, 1) := by decide +kernel
theorem dX3_ghostsAtAllAngles_36 : decode cX3_ghostsAtAllAngles 36 = .ok (.iinc 2 1, 3) := by decide +kernel
theorem dX3_ghostsAtAllAngles_39 : decode cX3_ghostsAtAllAngles 39 = .ok (.goto (-35), 3) := by decide +kernel
theorem dX3_ghostsAtAllAngles_42 : decode cX3_ghostsAtAllAngles 42 = .ok (.iload_n 1, 1) := by decide +kernel
theorem dX3_ghostsAtAllAngles_43 : decode cX3_ghostsAtAllAngles 43 = .ok (.ireturn, 1) := by decide +kernel
theorem dX3_ridgesShowing_0 : decode cX3_ridgesShowing 0 = .ok (.iconst 0, 1) := by decide +kernel
theorem dX3_ridgesShowing_1 : decode cX3_ridgesShowing 1 = .ok (.istore_n 3, 1) := by decide +kernel
theorem dX3_ridgesShowing_2 : decode cX3_ridgesShowing 2 = .ok (.iconst 0, 1) := by decide +kernel
theorem dX3_ridgesShowing_3 : decode cX3_ridgesShowing 3 = .ok (.istore 4, 2) := by decide +kernel
theorem dX3_ridgesShowing_5 : decode cX3_ridgesShowing 5 = .ok (.iload 4, 2) := by decide +kernel
theorem dX3_ridgesShowing_7 : decode cX3_ridgesShowing 7 = .ok (.bipush 12, 2) := by decide +kernel
theorem dX3_ridgesShowing_9 : decode cX3_ridgesShowing 9 = .ok (.if_icmp .ge 23, 3) := by decide +kernel
theorem dX3_ridgesShowing_12 : decode cX3_ridgesShowing 12 = .ok (.aload_n 0, 1) := by decide +kernel
theorem dX3_ridgesShowing_13 : decode cX3_ridgesShowing 13 = .ok (.iload_n 1, 1) := by decide +kernel
theorem dX3_ridgesShowing_14 : decode cX3_ridgesShowing 14 = .ok (.iload 4, 2) := by decide +kernel
theorem dX3_ridgesShowing_16 : decode cX3_ridgesShowing 16 = .ok (.invokevirtual 42, 3) := by decide +kernel
theorem dX3_ridgesShowing_19 : decode cX3_ridgesShowing 19 = .ok (.iload_n 2, 1) := by decide +kernel
theorem dX3_ridgesShowing_20 : decode cX3_ridgesShowing 20 = .ok (.if_icmp .ne 6, 3) := by decide +kernel
theorem dX3_ridgesShowing_23 : decode cX3_ridgesShowing 23 = .ok (.iinc 3 1, 3) := by decide +kernel
theorem dX3_ridgesShowing_26 : decode cX3_ridgesShowing 26 = .ok (.iinc 4 1, 3) := by decide +kernel
theorem dX3_ridgesShowing_29 : decode cX3_ridgesShowing 29 = .ok (.goto (-24), 3) := by decide +kernel
theorem dX3_ridgesShowing_32 : decode cX3_ridgesShowing 32 = .ok (.iload_n 3, 1) := by decide +kernel
theorem dX3_ridgesShowing_33 : decode cX3_ridgesShowing 33 = .ok (.ireturn, 1) := by decide +kernel
theorem dX3_wholeView_0 : decode cX3_wholeView 0 = .ok (.aload_n 0, 1) := by decide +kernel
theorem dX3_wholeView_1 : decode cX3_wholeView 1 = .ok (.iload_n 1, 1) := by decide +kernel
theorem dX3_wholeView_2 : decode cX3_wholeView 2 = .ok (.iconst 0, 1) := by decide +kernel
theorem dX3_wholeView_3 : decode cX3_wholeView 3 = .ok (.invokevirtual 42, 3) := by decide +kernel
theorem dX3_wholeView_6 : decode cX3_wholeView 6 = .ok (.istore_n 2, 1) := by decide +kernel
theorem dX3_wholeView_7 : decode cX3_wholeView 7 = .ok (.aload_n 0, 1) := by decide +kernel
theorem dX3_wholeView_8 : decode cX3_wholeView 8 = .ok (.iload_n 1, 1) := by decide +kernel
theorem dX3_wholeView_9 : decode cX3_wholeView 9 = .ok (.iload_n 2, 1) := by decide +kernel
theorem dX3_wholeView_10 : decode cX3_wholeView 10 = .ok (.invokevirtual 56, 3) := by decide +kernel
theorem dX3_wholeView_13 : decode cX3_wholeView 13 = .ok (.bipush 12, 2) := by decide +kernel
theorem dX3_wholeView_15 : decode cX3_wholeView 15 = .ok (.if_icmp .ne 7, 3) := by decide +kernel
theorem dX3_wholeView_18 : decode cX3_wholeView 18 = .ok (.iload_n 2, 1) := by decide +kernel
theorem dX3_wholeView_19 : decode cX3_wholeView 19 = .ok (.goto 4, 3) := by decide +kernel
theorem dX3_wholeView_22 : decode cX3_wholeView 22 = .ok (.iconst (-1), 1) := by decide +kernel
theorem dX3_wholeView_23 : decode cX3_wholeView 23 = .ok (.ireturn, 1) := by decide +kernel
theorem dX3_mostShownView_0 : decode cX3_mostShownView 0 = .ok (.iconst 0, 1) := by decide +kernel
theorem dX3_mostShownView_1 : decode cX3_mostShownView 1 = .ok (.istore_n 2, 1) := by decide +kernel
theorem dX3_mostShownView_2 : decode cX3_mostShownView 2 = .ok (.iconst (-1), 1) := by decide +kernel
theorem dX3_mostShownView_3 : decode cX3_mostShownView 3 = .ok (.istore_n 3, 1) := by decide +kernel
theorem dX3_mostShownView_4 : decode cX3_mostShownView 4 = .ok (.iconst 0, 1) := by decide +kernel
theorem dX3_mostShownView_5 : decode cX3_mostShownView 5 = .ok (.istore 4, 2) := by decide +kernel
theorem dX3_mostShownView_7 : decode cX3_mostShownView 7 = .ok (.iload 4, 2) := by decide +kernel
theorem dX3_mostShownView_9 : decode cX3_mostShownView 9 = .ok (.aload_n 0, 1) := by decide +kernel
theorem dX3_mostShownView_10 : decode cX3_mostShownView 10 = .ok (.getfield 18, 3) := by decide +kernel
theorem dX3_mostShownView_13 : decode cX3_mostShownView 13 = .ok (.getfield 59, 3) := by decide +kernel
theorem dX3_mostShownView_16 : decode cX3_mostShownView 16 = .ok (.if_icmp .ge 30, 3) := by decide +kernel
theorem dX3_mostShownView_19 : decode cX3_mostShownView 19 = .ok (.aload_n 0, 1) := by decide +kernel
theorem dX3_mostShownView_20 : decode cX3_mostShownView 20 = .ok (.iload_n 1, 1) := by decide +kernel
theorem dX3_mostShownView_21 : decode cX3_mostShownView 21 = .ok (.iload 4, 2) := by decide +kernel
theorem dX3_mostShownView_23 : decode cX3_mostShownView 23 = .ok (.invokevirtual 56, 3) := by decide +kernel
theorem dX3_mostShownView_26 : decode cX3_mostShownView 26 = .ok (.istore 5, 2) := by decide +kernel
theorem dX3_mostShownView_28 : decode cX3_mostShownView 28 = .ok (.iload 5, 2) := by decide +kernel
theorem dX3_mostShownView_30 : decode cX3_mostShownView 30 = .ok (.iload_n 2, 1) := by decide +kernel
theorem dX3_mostShownView_31 : decode cX3_mostShownView 31 = .ok (.if_icmp .le 9, 3) := by decide +kernel
theorem dX3_mostShownView_34 : decode cX3_mostShownView 34 = .ok (.iload 5, 2) := by decide +kernel
theorem dX3_mostShownView_36 : decode cX3_mostShownView 36 = .ok (.istore_n 2, 1) := by decide +kernel
theorem dX3_mostShownView_37 : decode cX3_mostShownView 37 = .ok (.iload 4, 2) := by decide +kernel
theorem dX3_mostShownView_39 : decode cX3_mostShownView 39 = .ok (.istore_n 3, 1) := by decide +kernel
theorem dX3_mostShownView_40 : decode cX3_mostShownView 40 = .ok (.iinc 4 1, 3) := by decide +kernel
theorem dX3_mostShownView_43 : decode cX3_mostShownView 43 = .ok (.goto (-36), 3) := by decide +kernel
theorem dX3_mostShownView_46 : decode cX3_mostShownView 46 = .ok (.iload_n 3, 1) := by decide +kernel
theorem dX3_mostShownView_47 : decode cX3_mostShownView 47 = .ok (.ireturn, 1) := by decide +kernel
theorem dX3_mostShownRidges_0 : decode cX3_mostShownRidges 0 = .ok (.aload_n 0, 1) := by decide +kernel
theorem dX3_mostShownRidges_1 : decode cX3_mostShownRidges 1 = .ok (.iload_n 1, 1) := by decide +kernel
theorem dX3_mostShownRidges_2 : decode cX3_mostShownRidges 2 = .ok (.invokevirtual 62, 3) := by decide +kernel
theorem dX3_mostShownRidges_5 : decode cX3_mostShownRidges 5 = .ok (.istore_n 2, 1) := by decide +kernel
theorem dX3_mostShownRidges_6 : decode cX3_mostShownRidges 6 = .ok (.iload_n 2, 1) := by decide +kernel
theorem dX3_mostShownRidges_7 : decode cX3_mostShownRidges 7 = .ok (.iconst (-1), 1) := by decide +kernel
theorem dX3_mostShownRidges_8 : decode cX3_mostShownRidges 8 = .ok (.if_icmp .ne 7, 3) := by decide +kernel
theorem dX3_mostShownRidges_11 : decode cX3_mostShownRidges 11 = .ok (.iconst 0, 1) := by decide +kernel
theorem dX3_mostShownRidges_12 : decode cX3_mostShownRidges 12 = .ok (.goto 9, 3) := by decide +kernel
theorem dX3_mostShownRidges_15 : decode cX3_mostShownRidges 15 = .ok (.aload_n 0, 1) := by decide +kernel
theorem dX3_mostShownRidges_16 : decode cX3_mostShownRidges 16 = .ok (.iload_n 1, 1) := by decide +kernel
theorem dX3_mostShownRidges_17 : decode cX3_mostShownRidges 17 = .ok (.iload_n 2, 1) := by decide +kernel
theorem dX3_mostShownRidges_18 : decode cX3_mostShownRidges 18 = .ok (.invokevirtual 56, 3) := by decide +kernel
theorem dX3_mostShownRidges_21 : decode cX3_mostShownRidges 21 = .ok (.ireturn, 1) := by decide +kernel
theorem dX3_anglesShowingWhole_0 : decode cX3_anglesShowingWhole 0 = .ok (.iconst 0, 1) := by decide +kernel
theorem dX3_anglesShowingWhole_1 : decode cX3_anglesShowingWhole 1 = .ok (.istore_n 2, 1) := by decide +kernel
theorem dX3_anglesShowingWhole_2 : decode cX3_anglesShowingWhole 2 = .ok (.iconst 0, 1) := by decide +kernel
theorem dX3_anglesShowingWhole_3 : decode cX3_anglesShowingWhole 3 = .ok (.istore_n 3, 1) := by decide +kernel
theorem dX3_anglesShowingWhole_4 : decode cX3_anglesShowingWhole 4 = .ok (.iload_n 3, 1) := by decide +kernel
theorem dX3_anglesShowingWhole_5 : decode cX3_anglesShowingWhole 5 = .ok (.aload_n 0, 1) := by decide +kernel
theorem dX3_anglesShowingWhole_6 : decode cX3_anglesShowingWhole 6 = .ok (.getfield 18, 3) := by decide +kernel
theorem dX3_anglesShowingWhole_9 : decode cX3_anglesShowingWhole 9 = .ok (.getfield 49, 3) := by decide +kernel
theorem dX3_anglesShowingWhole_12 : decode cX3_anglesShowingWhole 12 = .ok (.if_icmp .ge 33, 3) := by decide +kernel
theorem dX3_anglesShowingWhole_15 : decode cX3_anglesShowingWhole 15 = .ok (.iload_n 3, 1) := by decide +kernel
theorem dX3_anglesShowingWhole_16 : decode cX3_anglesShowingWhole 16 = .ok (.bipush 6, 2) := by decide +kernel
theorem dX3_anglesShowingWhole_18 : decode cX3_anglesShowingWhole 18 = .ok (.if_icmp .ge 27, 3) := by decide +kernel
theorem dX3_anglesShowingWhole_21 : decode cX3_anglesShowingWhole 21 = .ok (.aload_n 0, 1) := by decide +kernel
theorem dX3_anglesShowingWhole_22 : decode cX3_anglesShowingWhole 22 = .ok (.iload_n 3, 1) := by decide +kernel
theorem dX3_anglesShowingWhole_23 : decode cX3_anglesShowingWhole 23 = .ok (.invokevirtual 65, 3) := by decide +kernel
theorem dX3_anglesShowingWhole_26 : decode cX3_anglesShowingWhole 26 = .ok (.iload_n 1, 1) := by decide +kernel
theorem dX3_anglesShowingWhole_27 : decode cX3_anglesShowingWhole 27 = .ok (.if_icmp .ne 12, 3) := by decide +kernel
theorem dX3_anglesShowingWhole_30 : decode cX3_anglesShowingWhole 30 = .ok (.iload_n 2, 1) := by decide +kernel
theorem dX3_anglesShowingWhole_31 : decode cX3_anglesShowingWhole 31 = .ok (.aload_n 0, 1) := by decide +kernel
theorem dX3_anglesShowingWhole_32 : decode cX3_anglesShowingWhole 32 = .ok (.getfield 15, 3) := by decide +kernel
theorem dX3_anglesShowingWhole_35 : decode cX3_anglesShowingWhole 35 = .ok (.iload_n 3, 1) := by decide +kernel
theorem dX3_anglesShowingWhole_36 : decode cX3_anglesShowingWhole 36 = .ok (.iaload, 1) := by decide +kernel
theorem dX3_anglesShowingWhole_37 : decode cX3_anglesShowingWhole 37 = .ok (.iadd, 1) := by decide +kernel
theorem dX3_anglesShowingWhole_38 : decode cX3_anglesShowingWhole 38 = .ok (.istore_n 2, 1) := by decide +kernel
theorem dX3_anglesShowingWhole_39 : decode cX3_anglesShowingWhole 39 = .ok (.iinc 3 1, 3) := by decide +kernel
theorem dX3_anglesShowingWhole_42 : decode cX3_anglesShowingWhole 42 = .ok (.goto (-38), 3) := by decide +kernel
theorem dX3_anglesShowingWhole_45 : decode cX3_anglesShowingWhole 45 = .ok (.iload_n 2, 1) := by decide +kernel
theorem dX3_anglesShowingWhole_46 : decode cX3_anglesShowingWhole 46 = .ok (.ireturn, 1) := by decide +kernel
theorem dX3_anglesShowingAnyWhole_0 : decode cX3_anglesShowingAnyWhole 0 = .ok (.bipush 19, 2) := by decide +kernel
theorem dX3_anglesShowingAnyWhole_2 : decode cX3_anglesShowingAnyWhole 2 = .ok (.aload_n 0, 1) := by decide +kernel
theorem dX3_anglesShowingAnyWhole_3 : decode cX3_anglesShowingAnyWhole 3 = .ok (.iconst (-1), 1) := by decide +kernel
theorem dX3_anglesShowingAnyWhole_4 : decode cX3_anglesShowingAnyWhole 4 = .ok (.invokevirtual 68, 3) := by decide +kernel
theorem dX3_anglesShowingAnyWhole_7 : decode cX3_anglesShowingAnyWhole 7 = .ok (.isub, 1) := by decide +kernel
theorem dX3_anglesShowingAnyWhole_8 : decode cX3_anglesShowingAnyWhole 8 = .ok (.ireturn, 1) := by decide +kernel
theorem dX3_wholeViews_0 : decode cX3_wholeViews 0 = .ok (.iconst 0, 1) := by decide +kernel
theorem dX3_wholeViews_1 : decode cX3_wholeViews 1 = .ok (.istore_n 1, 1) := by decide +kernel
theorem dX3_wholeViews_2 : decode cX3_wholeViews 2 = .ok (.iconst 0, 1) := by decide +kernel
theorem dX3_wholeViews_3 : decode cX3_wholeViews 3 = .ok (.istore_n 2, 1) := by decide +kernel
theorem dX3_wholeViews_4 : decode cX3_wholeViews 4 = .ok (.iload_n 2, 1) := by decide +kernel
theorem dX3_wholeViews_5 : decode cX3_wholeViews 5 = .ok (.aload_n 0, 1) := by decide +kernel
theorem dX3_wholeViews_6 : decode cX3_wholeViews 6 = .ok (.getfield 18, 3) := by decide +kernel
theorem dX3_wholeViews_9 : decode cX3_wholeViews 9 = .ok (.getfield 59, 3) := by decide +kernel
theorem dX3_wholeViews_12 : decode cX3_wholeViews 12 = .ok (.if_icmp .ge 20, 3) := by decide +kernel
theorem dX3_wholeViews_15 : decode cX3_wholeViews 15 = .ok (.aload_n 0, 1) := by decide +kernel
theorem dX3_wholeViews_16 : decode cX3_wholeViews 16 = .ok (.iload_n 2, 1) := by decide +kernel
theorem dX3_wholeViews_17 : decode cX3_wholeViews 17 = .ok (.invokevirtual 68, 3) := by decide +kernel
theorem dX3_wholeViews_20 : decode cX3_wholeViews 20 = .ok (.ifCond .le 6, 3) := by decide +kernel
theorem dX3_wholeViews_23 : decode cX3_wholeViews 23 = .ok (.iinc 1 1, 3) := by decide +kernel
theorem dX3_wholeViews_26 : decode cX3_wholeViews 26 = .ok (.iinc 2 1, 3) := by decide +kernel
theorem dX3_wholeViews_29 : decode cX3_wholeViews 29 = .ok (.goto (-25), 3) := by decide +kernel
theorem dX3_wholeViews_32 : decode cX3_wholeViews 32 = .ok (.iload_n 1, 1) := by decide +kernel
theorem dX3_wholeViews_33 : decode cX3_wholeViews 33 = .ok (.ireturn, 1) := by decide +kernel
theorem dX3_clearestAngle_0 : decode cX3_clearestAngle 0 = .ok (.bipush (-9), 2) := by decide +kernel
theorem dX3_clearestAngle_2 : decode cX3_clearestAngle 2 = .ok (.istore_n 2, 1) := by decide +kernel
theorem dX3_clearestAngle_3 : decode cX3_clearestAngle 3 = .ok (.iconst (-1), 1) := by decide +kernel
theorem dX3_clearestAngle_4 : decode cX3_clearestAngle 4 = .ok (.istore_n 3, 1) := by decide +kernel
theorem dX3_clearestAngle_5 : decode cX3_clearestAngle 5 = .ok (.iconst 0, 1) := by decide +kernel
theorem dX3_clearestAngle_6 : decode cX3_clearestAngle 6 = .ok (.istore 4, 2) := by decide +kernel
theorem dX3_clearestAngle_8 : decode cX3_clearestAngle 8 = .ok (.bipush (-9), 2) := by decide +kernel
theorem dX3_clearestAngle_10 : decode cX3_clearestAngle 10 = .ok (.istore 5, 2) := by decide +kernel
theorem dX3_clearestAngle_12 : decode cX3_clearestAngle 12 = .ok (.iload 5, 2) := by decide +kernel
theorem dX3_clearestAngle_14 : decode cX3_clearestAngle 14 = .ok (.bipush 9, 2) := by decide +kernel
theorem dX3_clearestAngle_16 : decode cX3_clearestAngle 16 = .ok (.if_icmp .gt 66, 3) := by decide +kernel
theorem dX3_clearestAngle_19 : decode cX3_clearestAngle 19 = .ok (.aload_n 0, 1) := by decide +kernel
theorem dX3_clearestAngle_20 : decode cX3_clearestAngle 20 = .ok (.getfield 18, 3) := by decide +kernel
theorem dX3_clearestAngle_23 : decode cX3_clearestAngle 23 = .ok (.iload 5, 2) := by decide +kernel
theorem dX3_clearestAngle_25 : decode cX3_clearestAngle 25 = .ok (.invokevirtual 31, 3) := by decide +kernel
theorem dX3_clearestAngle_28 : decode cX3_clearestAngle 28 = .ok (.istore 6, 2) := by decide +kernel
theorem dX3_clearestAngle_30 : decode cX3_clearestAngle 30 = .ok (.aload_n 0, 1) := by decide +kernel
theorem dX3_clearestAngle_31 : decode cX3_clearestAngle 31 = .ok (.iload 6, 2) := by decide +kernel
theorem dX3_clearestAngle_33 : decode cX3_clearestAngle 33 = .ok (.iload_n 1, 1) := by decide +kernel
theorem dX3_clearestAngle_34 : decode cX3_clearestAngle 34 = .ok (.invokevirtual 56, 3) := by decide +kernel
theorem dX3_clearestAngle_37 : decode cX3_clearestAngle 37 = .ok (.istore 7, 2) := by decide +kernel
theorem dX3_clearestAngle_39 : decode cX3_clearestAngle 39 = .ok (.aload_n 0, 1) := by decide +kernel
theorem dX3_clearestAngle_40 : decode cX3_clearestAngle 40 = .ok (.iload 6, 2) := by decide +kernel
theorem dX3_clearestAngle_42 : decode cX3_clearestAngle 42 = .ok (.invokevirtual 53, 3) := by decide +kernel
theorem dX3_clearestAngle_45 : decode cX3_clearestAngle 45 = .ok (.istore 8, 2) := by decide +kernel
theorem dX3_clearestAngle_47 : decode cX3_clearestAngle 47 = .ok (.iload 7, 2) := by decide +kernel
theorem dX3_clearestAngle_49 : decode cX3_clearestAngle 49 = .ok (.iload_n 3, 1) := by decide +kernel
theorem dX3_clearestAngle_50 : decode cX3_clearestAngle 50 = .ok (.if_icmp .gt 16, 3) := by decide +kernel
theorem dX3_clearestAngle_53 : decode cX3_clearestAngle 53 = .ok (.iload 7, 2) := by decide +kernel
theorem dX3_clearestAngle_55 : decode cX3_clearestAngle 55 = .ok (.iload_n 3, 1) := by decide +kernel
theorem dX3_clearestAngle_56 : decode cX3_clearestAngle 56 = .ok (.if_icmp .ne 20, 3) := by decide +kernel
theorem dX3_clearestAngle_59 : decode cX3_clearestAngle 59 = .ok (.iload 8, 2) := by decide +kernel
theorem dX3_clearestAngle_61 : decode cX3_clearestAngle 61 = .ok (.iload 4, 2) := by decide +kernel
theorem dX3_clearestAngle_63 : decode cX3_clearestAngle 63 = .ok (.if_icmp .ge 13, 3) := by decide +kernel
theorem dX3_clearestAngle_66 : decode cX3_clearestAngle 66 = .ok (.iload 5, 2) := by decide +kernel
theorem dX3_clearestAngle_68 : decode cX3_clearestAngle 68 = .ok (.istore_n 2, 1) := by decide +kernel
theorem dX3_clearestAngle_69 : decode cX3_clearestAngle 69 = .ok (.iload 7, 2) := by decide +kernel
theorem dX3_clearestAngle_71 : decode cX3_clearestAngle 71 = .ok (.istore_n 3, 1) := by decide +kernel
theorem dX3_clearestAngle_72 : decode cX3_clearestAngle 72 = .ok (.iload 8, 2) := by decide +kernel
theorem dX3_clearestAngle_74 : decode cX3_clearestAngle 74 = .ok (.istore 4, 2) := by decide +kernel
theorem dX3_clearestAngle_76 : decode cX3_clearestAngle 76 = .ok (.iinc 5 1, 3) := by decide +kernel
theorem dX3_clearestAngle_79 : decode cX3_clearestAngle 79 = .ok (.goto (-67), 3) := by decide +kernel
theorem dX3_clearestAngle_82 : decode cX3_clearestAngle 82 = .ok (.iload_n 2, 1) := by decide +kernel
theorem dX3_clearestAngle_83 : decode cX3_clearestAngle 83 = .ok (.ireturn, 1) := by decide +kernel
theorem dX4_init_0 : decode cX4_init 0 = .ok (.aload_n 0, 1) := by decide +kernel
theorem dX4_init_1 : decode cX4_init 1 = .ok (.invokespecial 1, 3) := by decide +kernel
theorem dX4_init_4 : decode cX4_init 4 = .ok (.aload_n 0, 1) := by decide +kernel
theorem dX4_init_5 : decode cX4_init 5 = .ok (.new 7, 3) := by decide +kernel
theorem dX4_init_8 : decode cX4_init 8 = .ok (.dup, 1) := by decide +kernel
theorem dX4_init_9 : decode cX4_init 9 = .ok (.invokespecial 9, 3) := by decide +kernel
theorem dX4_init_12 : decode cX4_init 12 = .ok (.putfield 10, 3) := by decide +kernel
theorem dX4_init_15 : decode cX4_init 15 = .ok (.aload_n 0, 1) := by decide +kernel
theorem dX4_init_16 : decode cX4_init 16 = .ok (.new 16, 3) := by decide +kernel
theorem dX4_init_19 : decode cX4_init 19 = .ok (.dup, 1) := by decide +kernel
theorem dX4_init_20 : decode cX4_init 20 = .ok (.aload_n 0, 1) := by decide +kernel
theorem dX4_init_21 : decode cX4_init 21 = .ok (.getfield 10, 3) := by decide +kernel
theorem dX4_init_24 : decode cX4_init 24 = .ok (.invokespecial 18, 3) := by decide +kernel
theorem dX4_init_27 : decode cX4_init 27 = .ok (.putfield 21, 3) := by decide +kernel
theorem dX4_init_30 : decode cX4_init 30 = .ok (.aload_n 0, 1) := by decide +kernel
theorem dX4_init_31 : decode cX4_init 31 = .ok (.new 7, 3) := by decide +kernel
theorem dX4_init_34 : decode cX4_init 34 = .ok (.dup, 1) := by decide +kernel
theorem dX4_init_35 : decode cX4_init 35 = .ok (.invokespecial 9, 3) := by decide +kernel
theorem dX4_init_38 : decode cX4_init 38 = .ok (.putfield 25, 3) := by decide +kernel
theorem dX4_init_41 : decode cX4_init 41 = .ok (.aload_n 0, 1) := by decide +kernel
theorem dX4_init_42 : decode cX4_init 42 = .ok (.new 16, 3) := by decide +kernel
theorem dX4_init_45 : decode cX4_init 45 = .ok (.dup, 1) := by decide +kernel
theorem dX4_init_46 : decode cX4_init 46 = .ok (.aload_n 0, 1) := by decide +kernel
theorem dX4_init_47 : decode cX4_init 47 = .ok (.getfield 25, 3) := by decide +kernel
theorem dX4_init_50 : decode cX4_init 50 = .ok (.invokespecial 18, 3) := by decide +kernel
theorem dX4_init_53 : decode cX4_init 53 = .ok (.putfield 28, 3) := by decide +kernel
theorem dX4_init_56 : decode cX4_init 56 = .ok (.aload_n 0, 1) := by decide +kernel
theorem dX4_init_57 : decode cX4_init 57 = .ok (.bipush 6, 2) := by decide +kernel
theorem dX4_init_59 : decode cX4_init 59 = .ok (.newarray .int, 2) := by decide +kernel
theorem dX4_init_61 : decode cX4_init 61 = .ok (.putfield 31, 3) := by decide +kernel
theorem dX4_init_64 : decode cX4_init 64 = .ok (.aload_n 0, 1) := by decide +kernel
theorem dX4_init_65 : decode cX4_init 65 = .ok (.new 35, 3) := by decide +kernel
theorem dX4_init_68 : decode cX4_init 68 = .ok (.dup, 1) := by decide +kernel
theorem dX4_init_69 : decode cX4_init 69 = .ok (.invokespecial 37, 3) := by decide +kernel
theorem dX4_init_72 : decode cX4_init 72 = .ok (.putfield 38, 3) := by decide +kernel
theorem dX4_init_75 : decode cX4_init 75 = .ok (.aload_n 0, 1) := by decide +kernel
theorem dX4_init_76 : decode cX4_init 76 = .ok (.new 7, 3) := by decide +kernel
theorem dX4_init_79 : decode cX4_init 79 = .ok (.dup, 1) := by decide +kernel
theorem dX4_init_80 : decode cX4_init 80 = .ok (.invokespecial 9, 3) := by decide +kernel
theorem dX4_init_83 : decode cX4_init 83 = .ok (.putfield 42, 3) := by decide +kernel
theorem dX4_init_86 : decode cX4_init 86 = .ok (.aload_n 0, 1) := by decide +kernel
theorem dX4_init_87 : decode cX4_init 87 = .ok (.iconst 0, 1) := by decide +kernel
theorem dX4_init_88 : decode cX4_init 88 = .ok (.putfield 45, 3) := by decide +kernel
theorem dX4_init_91 : decode cX4_init 91 = .ok (.aload_n 0, 1) := by decide +kernel
theorem dX4_init_92 : decode cX4_init 92 = .ok (.new 49, 3) := by decide +kernel
theorem dX4_init_95 : decode cX4_init 95 = .ok (.dup, 1) := by decide +kernel
theorem dX4_init_96 : decode cX4_init 96 = .ok (.invokespecial 51, 3) := by decide +kernel
theorem dX4_init_99 : decode cX4_init 99 = .ok (.putfield 52, 3) := by decide +kernel
theorem dX4_init_102 : decode cX4_init 102 = .ok (.return_, 1) := by decide +kernel
theorem dX4_colour_0 : decode cX4_colour 0 = .ok (.aload_n 0, 1) := by decide +kernel
theorem dX4_colour_1 : decode cX4_colour 1 = .ok (.getfield 10, 3) := by decide +kernel
theorem dX4_colour_4 : decode cX4_colour 4 = .ok (.iload_n 1, 1) := by decide +kernel
theorem dX4_colour_5 : decode cX4_colour 5 = .ok (.invokevirtual 56, 3) := by decide +kernel
theorem dX4_colour_8 : decode cX4_colour 8 = .ok (.ifCond .eq 10, 3) := by decide +kernel
theorem dX4_colour_11 : decode cX4_colour 11 = .ok (.iload_n 2, 1) := by decide +kernel
theorem dX4_colour_12 : decode cX4_colour 12 = .ok (.invokestatic 60, 3) := by decide +kernel
theorem dX4_colour_15 : decode cX4_colour 15 = .ok (.ifCond .ne 6, 3) := by decide +kernel
theorem dX4_colour_18 : decode cX4_colour 18 = .ok (.bipush (-101), 2) := by decide +kernel
theorem dX4_colour_20 : decode cX4_colour 20 = .ok (.ireturn, 1) := by decide +kernel
theorem dX4_colour_21 : decode cX4_colour 21 = .ok (.iload_n 3, 1) := by decide +kernel
theorem dX4_colour_22 : decode cX4_colour 22 = .ok (.iconst 0, 1) := by decide +kernel
theorem dX4_colour_23 : decode cX4_colour 23 = .ok (.bipush 9, 2) := by decide +kernel
theorem dX4_colour_25 : decode cX4_colour 25 = .ok (.invokestatic 63, 3) := by decide +kernel
theorem dX4_colour_28 : decode cX4_colour 28 = .ok (.ifCond .ne 6, 3) := by decide +kernel
theorem dX4_colour_31 : decode cX4_colour 31 = .ok (.bipush (-102), 2) := by decide +kernel
theorem dX4_colour_33 : decode cX4_colour 33 = .ok (.ireturn, 1) := by decide +kernel
theorem dX4_colour_34 : decode cX4_colour 34 = .ok (.aload_n 0, 1) := by decide +kernel
theorem dX4_colour_35 : decode cX4_colour 35 = .ok (.getfield 10, 3) := by decide +kernel
theorem dX4_colour_38 : decode cX4_colour 38 = .ok (.iload_n 1, 1) := by decide +kernel
theorem dX4_colour_39 : decode cX4_colour 39 = .ok (.iload_n 2, 1) := by decide +kernel
theorem dX4_colour_40 : decode cX4_colour 40 = .ok (.invokevirtual 67, 3) := by decide +kernel
theorem dX4_colour_43 : decode cX4_colour 43 = .ok (.istore 4, 2) := by decide +kernel
theorem dX4_colour_45 : decode cX4_colour 45 = .ok (.iload 4, 2) := by decide +kernel
theorem dX4_colour_47 : decode cX4_colour 47 = .ok (.iload_n 3, 1) := by decide +kernel
theorem dX4_colour_48 : decode cX4_colour 48 = .ok (.if_icmp .ne 6, 3) := by decide +kernel
theorem dX4_colour_51 : decode cX4_colour 51 = .ok (.bipush (-105), 2) := by decide +kernel
theorem dX4_colour_53 : decode cX4_colour 53 = .ok (.ireturn, 1) := by decide +kernel
theorem dX4_colour_54 : decode cX4_colour 54 = .ok (.aload_n 0, 1) := by decide +kernel
theorem dX4_colour_55 : decode cX4_colour 55 = .ok (.getfield 38, 3) := by decide +kernel
theorem dX4_colour_58 : decode cX4_colour 58 = .ok (.aload_n 0, 1) := by decide +kernel
theorem dX4_colour_59 : decode cX4_colour 59 = .ok (.getfield 10, 3) := by decide +kernel
theorem dX4_colour_62 : decode cX4_colour 62 = .ok (.invokevirtual 71, 3) := by decide +kernel
theorem dX4_colour_65 : decode cX4_colour 65 = .ok (.aload_n 0, 1) := by decide +kernel
theorem dX4_colour_66 : decode cX4_colour 66 = .ok (.getfield 10, 3) := by decide +kernel
theorem dX4_colour_69 : decode cX4_colour 69 = .ok (.iload_n 1, 1) := by decide +kernel
theorem dX4_colour_70 : decode cX4_colour 70 = .ok (.iload_n 2, 1) := by decide +kernel
theorem dX4_colour_71 : decode cX4_colour 71 = .ok (.iload_n 3, 1) := by decide +kernel
theorem dX4_colour_72 : decode cX4_colour 72 = .ok (.invokevirtual 74, 3) := by decide +kernel
theorem dX4_colour_75 : decode cX4_colour 75 = .ok (.iload 4, 2) := by decide +kernel
theorem dX4_colour_77 : decode cX4_colour 77 = .ok (.ireturn, 1) := by decide +kernel
theorem dX4_addView_0 : decode cX4_addView 0 = .ok (.aload_n 0, 1) := by decide +kernel
theorem dX4_addView_1 : decode cX4_addView 1 = .ok (.getfield 10, 3) := by decide +kernel
theorem dX4_addView_4 : decode cX4_addView 4 = .ok (.getfield 78, 3) := by decide +kernel
theorem dX4_addView_7 : decode cX4_addView 7 = .ok (.iconst 4, 1) := by decide +kernel
theorem dX4_addView_8 : decode cX4_addView 8 = .ok (.if_icmp .lt 6, 3) := by decide +kernel
theorem dX4_addView_11 : decode cX4_addView 11 = .ok (.bipush (-103), 2) := by decide +kernel
theorem dX4_addView_13 : decode cX4_addView 13 = .ok (.ireturn, 1) := by decide +kernel
theorem dX4_addView_14 : decode cX4_addView 14 = .ok (.aload_n 0, 1) := by decide +kernel
theorem dX4_addView_15 : decode cX4_addView 15 = .ok (.getfield 38, 3) := by decide +kernel
theorem dX4_addView_18 : decode cX4_addView 18 = .ok (.aload_n 0, 1) := by decide +kernel
theorem dX4_addView_19 : decode cX4_addView 19 = .ok (.getfield 10, 3) := by decide +kernel
theorem dX4_addView_22 : decode cX4_addView 22 = .ok (.invokevirtual 71, 3) := by decide +kernel
theorem dX4_addView_25 : decode cX4_addView 25 = .ok (.aload_n 0, 1) := by decide +kernel
theorem dX4_addView_26 : decode cX4_addView 26 = .ok (.getfield 10, 3) := by decide +kernel
theorem dX4_addView_29 : decode cX4_addView 29 = .ok (.invokevirtual 82, 3) := by decide +kernel
theorem dX4_addView_32 : decode cX4_addView 32 = .ok (.aload_n 0, 1) := by decide +kernel
theorem dX4_addView_33 : decode cX4_addView 33 = .ok (.getfield 10, 3) := by decide +kernel
theorem dX4_addView_36 : decode cX4_addView 36 = .ok (.getfield 78, 3) := by decide +kernel
theorem dX4_addView_39 : decode cX4_addView 39 = .ok (.ireturn, 1) := by decide +kernel
theorem dX4_removeView_0 : decode cX4_removeView 0 = .ok (.aload_n 0, 1) := by decide +kernel
theorem dX4_removeView_1 : decode cX4_removeView 1 = .ok (.getfield 10, 3) := by decide +kernel
theorem dX4_removeView_4 : decode cX4_removeView 4 = .ok (.iload_n 1, 1) := by decide +kernel
theorem dX4_removeView_5 : decode cX4_removeView 5 = .ok (.invokevirtual 56, 3) := by decide +kernel
theorem dX4_removeView_8 : decode cX4_removeView 8 = .ok (.ifCond .ne 6, 3) := by decide +kernel
theorem dX4_removeView_11 : decode cX4_removeView 11 = .ok (.bipush (-101), 2) := by decide +kernel
theorem dX4_removeView_13 : decode cX4_removeView 13 = .ok (.ireturn, 1) := by decide +kernel
theorem dX4_removeView_14 : decode cX4_removeView 14 = .ok (.aload_n 0, 1) := by decide +kernel
theorem dX4_removeView_15 : decode cX4_removeView 15 = .ok (.getfield 10, 3) := by decide +kernel
theorem dX4_removeView_18 : decode cX4_removeView 18 = .ok (.getfield 78, 3) := by decide +kernel
theorem dX4_removeView_21 : decode cX4_removeView 21 = .ok (.iconst 2, 1) := by decide +kernel
theorem dX4_removeView_22 : decode cX4_removeView 22 = .ok (.if_icmp .gt 6, 3) := by decide +kernel
theorem dX4_removeView_25 : decode cX4_removeView 25 = .ok (.bipush (-104), 2) := by decide +kernel
theorem dX4_removeView_27 : decode cX4_removeView 27 = .ok (.ireturn, 1) := by decide +kernel
theorem dX4_removeView_28 : decode cX4_removeView 28 = .ok (.aload_n 0, 1) := by decide +kernel
theorem dX4_removeView_29 : decode cX4_removeView 29 = .ok (.getfield 38, 3) := by decide +kernel
theorem dX4_removeView_32 : decode cX4_removeView 32 = .ok (.aload_n 0, 1) := by decide +kernel
theorem dX4_removeView_33 : decode cX4_removeView 33 = .ok (.getfield 10, 3) := by decide +kernel
theorem dX4_removeView_36 : decode cX4_removeView 36 = .ok (.invokevirtual 71, 3) := by decide +kernel
theorem dX4_removeView_39 : decode cX4_removeView 39 = .ok (.aload_n 0, 1) := by decide +kernel
theorem dX4_removeView_40 : decode cX4_removeView 40 = .ok (.getfield 10, 3) := by decide +kernel
theorem dX4_removeView_43 : decode cX4_removeView 43 = .ok (.iload_n 1, 1) := by decide +kernel
theorem dX4_removeView_44 : decode cX4_removeView 44 = .ok (.invokevirtual 85, 3) := by decide +kernel
theorem dX4_removeView_47 : decode cX4_removeView 47 = .ok (.aload_n 0, 1) := by decide +kernel
theorem dX4_removeView_48 : decode cX4_removeView 48 = .ok (.getfield 10, 3) := by decide +kernel
theorem dX4_removeView_51 : decode cX4_removeView 51 = .ok (.getfield 78, 3) := by decide +kernel
theorem dX4_removeView_54 : decode cX4_removeView 54 = .ok (.ireturn, 1) := by decide +kernel
theorem dX4_swap_0 : decode cX4_swap 0 = .ok (.aload_n 0, 1) := by decide +kernel
theorem dX4_swap_1 : decode cX4_swap 1 = .ok (.getfield 10, 3) := by decide +kernel
theorem dX4_swap_4 : decode cX4_swap 4 = .ok (.iload_n 1, 1) := by decide +kernel
theorem dX4_swap_5 : decode cX4_swap 5 = .ok (.invokevirtual 56, 3) := by decide +kernel
theorem dX4_swap_8 : decode cX4_swap 8 = .ok (.ifCond .eq 14, 3) := by decide +kernel
theorem dX4_swap_11 : decode cX4_swap 11 = .ok (.aload_n 0, 1) := by decide +kernel
theorem dX4_swap_12 : decode cX4_swap 12 = .ok (.getfield 10, 3) := by decide +kernel
theorem dX4_swap_15 : decode cX4_swap 15 = .ok (.iload_n 2, 1) := by decide +kernel
theorem dX4_swap_16 : decode cX4_swap 16 = .ok (.invokevirtual 56, 3) := by decide +kernel
theorem dX4_swap_19 : decode cX4_swap 19 = .ok (.ifCond .ne 6, 3) := by decide +kernel
theorem dX4_swap_22 : decode cX4_swap 22 = .ok (.bipush (-101), 2) := by decide +kernel
theorem dX4_swap_24 : decode cX4_swap 24 = .ok (.ireturn, 1) := by decide +kernel
theorem dX4_swap_25 : decode cX4_swap 25 = .ok (.iload_n 1, 1) := by decide +kernel
theorem dX4_swap_26 : decode cX4_swap 26 = .ok (.iload_n 2, 1) := by decide +kernel
theorem dX4_swap_27 : decode cX4_swap 27 = .ok (.if_icmp .ne 6, 3) := by decide +kernel
theorem dX4_swap_30 : decode cX4_swap 30 = .ok (.bipush (-105), 2) := by decide +kernel
theorem dX4_swap_32 : decode cX4_swap 32 = .ok (.ireturn, 1) := by decide +kernel
theorem dX4_swap_33 : decode cX4_swap 33 = .ok (.aload_n 0, 1) := by decide +kernel
theorem dX4_swap_34 : decode cX4_swap 34 = .ok (.getfield 38, 3) := by decide +kernel
theorem dX4_swap_37 : decode cX4_swap 37 = .ok (.aload_n 0, 1) := by decide +kernel
theorem dX4_swap_38 : decode cX4_swap 38 = .ok (.getfield 10, 3) := by decide +kernel
theorem dX4_swap_41 : decode cX4_swap 41 = .ok (.invokevirtual 71, 3) := by decide +kernel
theorem dX4_swap_44 : decode cX4_swap 44 = .ok (.aload_n 0, 1) := by decide +kernel
theorem dX4_swap_45 : decode cX4_swap 45 = .ok (.getfield 10, 3) := by decide +kernel
theorem dX4_swap_48 : decode cX4_swap 48 = .ok (.iload_n 1, 1) := by decide +kernel
theorem dX4_swap_49 : decode cX4_swap 49 = .ok (.iload_n 2, 1) := by decide +kernel
theorem dX4_swap_50 : decode cX4_swap 50 = .ok (.invokevirtual 89, 3) := by decide +kernel
theorem dX4_swap_53 : decode cX4_swap 53 = .ok (.ireturn, 1) := by decide +kernel
theorem dX4_setPitch_0 : decode cX4_setPitch 0 = .ok (.iload_n 1, 1) := by decide +kernel
theorem dX4_setPitch_1 : decode cX4_setPitch 1 = .ok (.iconst 2, 1) := by decide +kernel
theorem dX4_setPitch_2 : decode cX4_setPitch 2 = .ok (.bipush 6, 2) := by decide +kernel
theorem dX4_setPitch_4 : decode cX4_setPitch 4 = .ok (.invokestatic 63, 3) := by decide +kernel
theorem dX4_setPitch_7 : decode cX4_setPitch 7 = .ok (.ifCond .ne 6, 3) := by decide +kernel
theorem dX4_setPitch_10 : decode cX4_setPitch 10 = .ok (.bipush (-102), 2) := by decide +kernel
theorem dX4_setPitch_12 : decode cX4_setPitch 12 = .ok (.ireturn, 1) := by decide +kernel
theorem dX4_setPitch_13 : decode cX4_setPitch 13 = .ok (.aload_n 0, 1) := by decide +kernel
theorem dX4_setPitch_14 : decode cX4_setPitch 14 = .ok (.getfield 10, 3) := by decide +kernel
theorem dX4_setPitch_17 : decode cX4_setPitch 17 = .ok (.getfield 92, 3) := by decide +kernel
theorem dX4_setPitch_20 : decode cX4_setPitch 20 = .ok (.istore_n 2, 1) := by decide +kernel
theorem dX4_setPitch_21 : decode cX4_setPitch 21 = .ok (.iload_n 2, 1) := by decide +kernel
theorem dX4_setPitch_22 : decode cX4_setPitch 22 = .ok (.iload_n 1, 1) := by decide +kernel
theorem dX4_setPitch_23 : decode cX4_setPitch 23 = .ok (.if_icmp .ne 6, 3) := by decide +kernel
theorem dX4_setPitch_26 : decode cX4_setPitch 26 = .ok (.bipush (-105), 2) := by decide +kernel
theorem dX4_setPitch_28 : decode cX4_setPitch 28 = .ok (.ireturn, 1) := by decide +kernel
theorem dX4_setPitch_29 : decode cX4_setPitch 29 = .ok (.aload_n 0, 1) := by decide +kernel
theorem dX4_setPitch_30 : decode cX4_setPitch 30 = .ok (.getfield 38, 3) := by decide +kernel
theorem dX4_setPitch_33 : decode cX4_setPitch 33 = .ok (.aload_n 0, 1) := by decide +kernel
theorem dX4_setPitch_34 : decode cX4_setPitch 34 = .ok (.getfield 10, 3) := by decide +kernel
theorem dX4_setPitch_37 : decode cX4_setPitch 37 = .ok (.invokevirtual 71, 3) := by decide +kernel
theorem dX4_setPitch_40 : decode cX4_setPitch 40 = .ok (.aload_n 0, 1) := by decide +kernel
theorem dX4_setPitch_41 : decode cX4_setPitch 41 = .ok (.getfield 10, 3) := by decide +kernel
theorem dX4_setPitch_44 : decode cX4_setPitch 44 = .ok (.iload_n 1, 1) := by decide +kernel
theorem dX4_setPitch_45 : decode cX4_setPitch 45 = .ok (.putfield 92, 3) := by decide +kernel
theorem dX4_setPitch_48 : decode cX4_setPitch 48 = .ok (.aload_n 0, 1) := by decide +kernel
theorem dX4_setPitch_49 : decode cX4_setPitch 49 = .ok (.getfield 10, 3) := by decide +kernel
theorem dX4_setPitch_52 : decode cX4_setPitch 52 = .ok (.invokevirtual 95, 3) := by decide +kernel
theorem dX4_setPitch_55 : decode cX4_setPitch 55 = .ok (.iload_n 2, 1) := by decide +kernel
theorem dX4_setPitch_56 : decode cX4_setPitch 56 = .ok (.ireturn, 1) := by decide +kernel
theorem dX4_slice_0 : decode cX4_slice 0 = .ok (.aload_n 0, 1) := by decide +kernel
theorem dX4_slice_1 : decode cX4_slice 1 = .ok (.getfield 10, 3) := by decide +kernel
theorem dX4_slice_4 : decode cX4_slice 4 = .ok (.iload_n 1, 1) := by decide +kernel
theorem dX4_slice_5 : decode cX4_slice 5 = .ok (.invokevirtual 98, 3) := by decide +kernel
theorem dX4_slice_8 : decode cX4_slice 8 = .ok (.ifCond .eq 14, 3) := by decide +kernel
theorem dX4_slice_11 : decode cX4_slice 11 = .ok (.aload_n 0, 1) := by decide +kernel
theorem dX4_slice_12 : decode cX4_slice 12 = .ok (.getfield 10, 3) := by decide +kernel
theorem dX4_slice_15 : decode cX4_slice 15 = .ok (.iload_n 2, 1) := by decide +kernel
theorem dX4_slice_16 : decode cX4_slice 16 = .ok (.invokevirtual 56, 3) := by decide +kernel
theorem dX4_slice_19 : decode cX4_slice 19 = .ok (.ifCond .ne 6, 3) := by decide +kernel
theorem dX4_slice_22 : decode cX4_slice 22 = .ok (.bipush (-101), 2) := by decide +kernel
theorem dX4_slice_24 : decode cX4_slice 24 = .ok (.ireturn, 1) := by decide +kernel
theorem dX4_slice_25 : decode cX4_slice 25 = .ok (.aload_n 0, 1) := by decide +kernel
theorem dX4_slice_26 : decode cX4_slice 26 = .ok (.getfield 10, 3) := by decide +kernel
theorem dX4_slice_29 : decode cX4_slice 29 = .ok (.iload_n 1, 1) := by decide +kernel
theorem dX4_slice_30 : decode cX4_slice 30 = .ok (.invokevirtual 101, 3) := by decide +kernel
theorem dX4_slice_33 : decode cX4_slice 33 = .ok (.istore_n 3, 1) := by decide +kernel
theorem dX4_slice_34 : decode cX4_slice 34 = .ok (.iload_n 3, 1) := by decide +kernel
theorem dX4_slice_35 : decode cX4_slice 35 = .ok (.iload_n 2, 1) := by decide +kernel
theorem dX4_slice_36 : decode cX4_slice 36 = .ok (.if_icmp .ne 6, 3) := by decide +kernel
theorem dX4_slice_39 : decode cX4_slice 39 = .ok (.bipush (-105), 2) := by decide +kernel
theorem dX4_slice_41 : decode cX4_slice 41 = .ok (.ireturn, 1) := by decide +kernel
theorem dX4_slice_42 : decode cX4_slice 42 = .ok (.aload_n 0, 1) := by decide +kernel
theorem dX4_slice_43 : decode cX4_slice 43 = .ok (.getfield 38, 3) := by decide +kernel
theorem dX4_slice_46 : decode cX4_slice 46 = .ok (.aload_n 0, 1) := by decide +kernel
theorem dX4_slice_47 : decode cX4_slice 47 = .ok (.getfield 10, 3) := by decide +kernel
theorem dX4_slice_50 : decode cX4_slice 50 = .ok (.invokevirtual 71, 3) := by decide +kernel
theorem dX4_slice_53 : decode cX4_slice 53 = .ok (.aload_n 0, 1) := by decide +kernel
theorem dX4_slice_54 : decode cX4_slice 54 = .ok (.getfield 10, 3) := by decide +kernel
theorem dX4_slice_57 : decode cX4_slice 57 = .ok (.iload_n 1, 1) := by decide +kernel
theorem dX4_slice_58 : decode cX4_slice 58 = .ok (.iload_n 2, 1) := by decide +kernel
theorem dX4_slice_59 : decode cX4_slice 59 = .ok (.invokevirtual 105, 3) := by decide +kernel
theorem dX4_slice_62 : decode cX4_slice 62 = .ok (.iload_n 3, 1) := by decide +kernel
theorem dX4_slice_63 : decode cX4_slice 63 = .ok (.ireturn, 1) := by decide +kernel
theorem dX4_setShift_0 : decode cX4_setShift 0 = .ok (.iload_n 1, 1) := by decide +kernel
theorem dX4_setShift_1 : decode cX4_setShift 1 = .ok (.bipush (-3), 2) := by decide +kernel
theorem dX4_setShift_3 : decode cX4_setShift 3 = .ok (.iconst 3, 1) := by decide +kernel
theorem dX4_setShift_4 : decode cX4_setShift 4 = .ok (.invokestatic 63, 3) := by decide +kernel
theorem dX4_setShift_7 : decode cX4_setShift 7 = .ok (.ifCond .ne 6, 3) := by decide +kernel
theorem dX4_setShift_10 : decode cX4_setShift 10 = .ok (.bipush (-102), 2) := by decide +kernel
theorem dX4_setShift_12 : decode cX4_setShift 12 = .ok (.ireturn, 1) := by decide +kernel
theorem dX4_setShift_13 : decode cX4_setShift 13 = .ok (.aload_n 0, 1) := by decide +kernel
theorem dX4_setShift_14 : decode cX4_setShift 14 = .ok (.getfield 10, 3) := by decide +kernel
theorem dX4_setShift_17 : decode cX4_setShift 17 = .ok (.getfield 109, 3) := by decide +kernel
theorem dX4_setShift_20 : decode cX4_setShift 20 = .ok (.istore_n 2, 1) := by decide +kernel
theorem dX4_setShift_21 : decode cX4_setShift 21 = .ok (.iload_n 2, 1) := by decide +kernel
theorem dX4_setShift_22 : decode cX4_setShift 22 = .ok (.iload_n 1, 1) := by decide +kernel
theorem dX4_setShift_23 : decode cX4_setShift 23 = .ok (.if_icmp .ne 6, 3) := by decide +kernel
theorem dX4_setShift_26 : decode cX4_setShift 26 = .ok (.bipush (-105), 2) := by decide +kernel
theorem dX4_setShift_28 : decode cX4_setShift 28 = .ok (.ireturn, 1) := by decide +kernel
theorem dX4_setShift_29 : decode cX4_setShift 29 = .ok (.aload_n 0, 1) := by decide +kernel
theorem dX4_setShift_30 : decode cX4_setShift 30 = .ok (.getfield 38, 3) := by decide +kernel
theorem dX4_setShift_33 : decode cX4_setShift 33 = .ok (.aload_n 0, 1) := by decide +kernel
theorem dX4_setShift_34 : decode cX4_setShift 34 = .ok (.getfield 10, 3) := by decide +kernel
theorem dX4_setShift_37 : decode cX4_setShift 37 = .ok (.invokevirtual 71, 3) := by decide +kernel
theorem dX4_setShift_40 : decode cX4_setShift 40 = .ok (.aload_n 0, 1) := by decide +kernel
theorem dX4_setShift_41 : decode cX4_setShift 41 = .ok (.getfield 10, 3) := by decide +kernel
theorem dX4_setShift_44 : decode cX4_setShift 44 = .ok (.iload_n 1, 1) := by decide +kernel
theorem dX4_setShift_45 : decode cX4_setShift 45 = .ok (.putfield 109, 3) := by decide +kernel
theorem dX4_setShift_48 : decode cX4_setShift 48 = .ok (.iload_n 2, 1) := by decide +kernel
theorem dX4_setShift_49 : decode cX4_setShift 49 = .ok (.ireturn, 1) := by decide +kernel
theorem dX4_setLean_0 : decode cX4_setLean 0 = .ok (.iload_n 1, 1) := by decide +kernel
theorem dX4_setLean_1 : decode cX4_setLean 1 = .ok (.iconst 0, 1) := by decide +kernel
theorem dX4_setLean_2 : decode cX4_setLean 2 = .ok (.iconst 3, 1) := by decide +kernel
theorem dX4_setLean_3 : decode cX4_setLean 3 = .ok (.invokestatic 63, 3) := by decide +kernel
theorem dX4_setLean_6 : decode cX4_setLean 6 = .ok (.ifCond .ne 6, 3) := by decide +kernel
theorem dX4_setLean_9 : decode cX4_setLean 9 = .ok (.bipush (-102), 2) := by decide +kernel
theorem dX4_setLean_11 : decode cX4_setLean 11 = .ok (.ireturn, 1) := by decide +kernel
theorem dX4_setLean_12 : decode cX4_setLean 12 = .ok (.aload_n 0, 1) := by decide +kernel
theorem dX4_setLean_13 : decode cX4_setLean 13 = .ok (.getfield 10, 3) := by decide +kernel
theorem dX4_setLean_16 : decode cX4_setLean 16 = .ok (.getfield 112, 3) := by decide +kernel
theorem dX4_setLean_19 : decode cX4_setLean 19 = .ok (.istore_n 2, 1) := by decide +kernel
theorem dX4_setLean_20 : decode cX4_setLean 20 = .ok (.iload_n 2, 1) := by decide +kernel
theorem dX4_setLean_21 : decode cX4_setLean 21 = .ok (.iload_n 1, 1) := by decide +kernel
theorem dX4_setLean_22 : decode cX4_setLean 22 = .ok (.if_icmp .ne 6, 3) := by decide +kernel
theorem dX4_setLean_25 : decode cX4_setLean 25 = .ok (.bipush (-105), 2) := by decide +kernel
theorem dX4_setLean_27 : decode cX4_setLean 27 = .ok (.ireturn, 1) := by decide +kernel
theorem dX4_setLean_28 : decode cX4_setLean 28 = .ok (.aload_n 0, 1) := by decide +kernel
theorem dX4_setLean_29 : decode cX4_setLean 29 = .ok (.getfield 38, 3) := by decide +kernel
theorem dX4_setLean_32 : decode cX4_setLean 32 = .ok (.aload_n 0, 1) := by decide +kernel
theorem dX4_setLean_33 : decode cX4_setLean 33 = .ok (.getfield 10, 3) := by decide +kernel
theorem dX4_setLean_36 : decode cX4_setLean 36 = .ok (.invokevirtual 71, 3) := by decide +kernel
theorem dX4_setLean_39 : decode cX4_setLean 39 = .ok (.aload_n 0, 1) := by decide +kernel
theorem dX4_setLean_40 : decode cX4_setLean 40 = .ok (.getfield 10, 3) := by decide +kernel
theorem dX4_setLean_43 : decode cX4_setLean 43 = .ok (.iload_n 1, 1) := by decide +kernel
theorem dX4_setLean_44 : decode cX4_setLean 44 = .ok (.putfield 112, 3) := by decide +kernel
theorem dX4_setLean_47 : decode cX4_setLean 47 = .ok (.iload_n 2, 1) := by decide +kernel
theorem dX4_setLean_48 : decode cX4_setLean 48 = .ok (.ireturn, 1) := by decide +kernel
theorem dX4_order_0 : decode cX4_order 0 = .ok (.aload_n 0, 1) := by decide +kernel
theorem dX4_order_1 : decode cX4_order 1 = .ok (.invokevirtual 115, 3) := by decide +kernel
theorem dX4_order_4 : decode cX4_order 4 = .ok (.aload_n 0, 1) := by decide +kernel
theorem dX4_order_5 : decode cX4_order 5 = .ok (.getfield 10, 3) := by decide +kernel
theorem dX4_order_8 : decode cX4_order 8 = .ok (.aload_n 0, 1) := by decide +kernel
theorem dX4_order_9 : decode cX4_order 9 = .ok (.getfield 31, 3) := by decide +kernel
theorem dX4_order_12 : decode cX4_order 12 = .ok (.invokevirtual 118, 3) := by decide +kernel
theorem dX4_order_15 : decode cX4_order 15 = .ok (.ifCond .eq 6, 3) := by decide +kernel
theorem dX4_order_18 : decode cX4_order 18 = .ok (.bipush (-105), 2) := by decide +kernel
theorem dX4_order_20 : decode cX4_order 20 = .ok (.ireturn, 1) := by decide +kernel
theorem dX4_order_21 : decode cX4_order 21 = .ok (.aload_n 0, 1) := by decide +kernel
theorem dX4_order_22 : decode cX4_order 22 = .ok (.getfield 38, 3) := by decide +kernel
theorem dX4_order_25 : decode cX4_order 25 = .ok (.aload_n 0, 1) := by decide +kernel
theorem dX4_order_26 : decode cX4_order 26 = .ok (.getfield 10, 3) := by decide +kernel
theorem dX4_order_29 : decode cX4_order 29 = .ok (.invokevirtual 71, 3) := by decide +kernel
theorem dX4_order_32 : decode cX4_order 32 = .ok (.aload_n 0, 1) := by decide +kernel
theorem dX4_order_33 : decode cX4_order 33 = .ok (.getfield 10, 3) := by decide +kernel
theorem dX4_order_36 : decode cX4_order 36 = .ok (.aload_n 0, 1) := by decide +kernel
theorem dX4_order_37 : decode cX4_order 37 = .ok (.getfield 31, 3) := by decide +kernel
theorem dX4_order_40 : decode cX4_order 40 = .ok (.invokevirtual 122, 3) := by decide +kernel
theorem dX4_order_43 : decode cX4_order 43 = .ok (.aload_n 0, 1) := by decide +kernel
theorem dX4_order_44 : decode cX4_order 44 = .ok (.invokevirtual 126, 3) := by decide +kernel
theorem dX4_order_47 : decode cX4_order 47 = .ok (.invokevirtual 130, 3) := by decide +kernel
theorem dX4_order_50 : decode cX4_order 50 = .ok (.ireturn, 1) := by decide +kernel
theorem dX4_read_0 : decode cX4_read 0 = .ok (.aload_n 0, 1) := by decide +kernel
theorem dX4_read_1 : decode cX4_read 1 = .ok (.getfield 52, 3) := by decide +kernel
theorem dX4_read_4 : decode cX4_read 4 = .ok (.invokevirtual 134, 3) := by decide +kernel
theorem dX4_read_7 : decode cX4_read 7 = .ok (.istore_n 1, 1) := by decide +kernel
theorem dX4_read_8 : decode cX4_read 8 = .ok (.iload_n 1, 1) := by decide +kernel
theorem dX4_read_9 : decode cX4_read 9 = .ok (.iconst (-1), 1) := by decide +kernel
theorem dX4_read_10 : decode cX4_read 10 = .ok (.if_icmp .eq 9, 3) := by decide +kernel
theorem dX4_read_13 : decode cX4_read 13 = .ok (.sipush (-200), 3) := by decide +kernel
theorem dX4_read_16 : decode cX4_read 16 = .ok (.iload_n 1, 1) := by decide +kernel
theorem dX4_read_17 : decode cX4_read 17 = .ok (.isub, 1) := by decide +kernel
theorem dX4_read_18 : decode cX4_read 18 = .ok (.ireturn, 1) := by decide +kernel
theorem dX4_read_19 : decode cX4_read 19 = .ok (.aload_n 0, 1) := by decide +kernel
theorem dX4_read_20 : decode cX4_read 20 = .ok (.getfield 38, 3) := by decide +kernel
theorem dX4_read_23 : decode cX4_read 23 = .ok (.aload_n 0, 1) := by decide +kernel
theorem dX4_read_24 : decode cX4_read 24 = .ok (.getfield 10, 3) := by decide +kernel
theorem dX4_read_27 : decode cX4_read 27 = .ok (.invokevirtual 71, 3) := by decide +kernel
theorem dX4_read_30 : decode cX4_read 30 = .ok (.aload_n 0, 1) := by decide +kernel
theorem dX4_read_31 : decode cX4_read 31 = .ok (.getfield 52, 3) := by decide +kernel
theorem dX4_read_34 : decode cX4_read 34 = .ok (.aload_n 0, 1) := by decide +kernel
theorem dX4_read_35 : decode cX4_read 35 = .ok (.getfield 10, 3) := by decide +kernel
theorem dX4_read_38 : decode cX4_read 38 = .ok (.invokevirtual 137, 3) := by decide +kernel
theorem dX4_read_41 : decode cX4_read 41 = .ok (.aload_n 0, 1) := by decide +kernel
theorem dX4_read_42 : decode cX4_read 42 = .ok (.getfield 10, 3) := by decide +kernel
theorem dX4_read_45 : decode cX4_read 45 = .ok (.getfield 78, 3) := by decide +kernel
theorem dX4_read_48 : decode cX4_read 48 = .ok (.ireturn, 1) := by decide +kernel
theorem dX4_press_0 : decode cX4_press 0 = .ok (.iload_n 1, 1) := by decide +kernel
theorem dX4_press_1 : decode cX4_press 1 = .ok (.iconst 1, 1) := by decide +kernel
theorem dX4_press_2 : decode cX4_press 2 = .ok (.sipush 999, 3) := by decide +kernel
theorem dX4_press_5 : decode cX4_press 5 = .ok (.invokestatic 63, 3) := by decide +kernel
theorem dX4_press_8 : decode cX4_press 8 = .ok (.ifCond .ne 6, 3) := by decide +kernel
theorem dX4_press_11 : decode cX4_press 11 = .ok (.bipush (-102), 2) := by decide +kernel
theorem dX4_press_13 : decode cX4_press 13 = .ok (.ireturn, 1) := by decide +kernel
theorem dX4_press_14 : decode cX4_press 14 = .ok (.aload_n 0, 1) := by decide +kernel
theorem dX4_press_15 : decode cX4_press 15 = .ok (.getfield 10, 3) := by decide +kernel
theorem dX4_press_18 : decode cX4_press 18 = .ok (.getfield 140, 3) := by decide +kernel
theorem dX4_press_21 : decode cX4_press 21 = .ok (.iload_n 1, 1) := by decide +kernel
theorem dX4_press_22 : decode cX4_press 22 = .ok (.iadd, 1) := by decide +kernel
theorem dX4_press_23 : decode cX4_press 23 = .ok (.ldc 143, 2) := by decide +kernel
theorem dX4_press_25 : decode cX4_press 25 = .ok (.if_icmp .le 6, 3) := by decide +kernel
theorem dX4_press_28 : decode cX4_press 28 = .ok (.bipush (-103), 2) := by decide +kernel
theorem dX4_press_30 : decode cX4_press 30 = .ok (.ireturn, 1) := by decide +kernel
theorem dX4_press_31 : decode cX4_press 31 = .ok (.aload_n 0, 1) := by decide +kernel
theorem dX4_press_32 : decode cX4_press 32 = .ok (.invokevirtual 126, 3) := by decide +kernel
theorem dX4_press_35 : decode cX4_press 35 = .ok (.invokevirtual 144, 3) := by decide +kernel
theorem dX4_press_38 : decode cX4_press 38 = .ok (.aload_n 0, 1) := by decide +kernel
theorem dX4_press_39 : decode cX4_press 39 = .ok (.getfield 10, 3) := by decide +kernel
theorem dX4_press_42 : decode cX4_press 42 = .ok (.getfield 78, 3) := by decide +kernel
theorem dX4_press_45 : decode cX4_press 45 = .ok (.if_icmp .ne 7, 3) := by decide +kernel
theorem dX4_press_48 : decode cX4_press 48 = .ok (.iload_n 1, 1) := by decide +kernel
theorem dX4_press_49 : decode cX4_press 49 = .ok (.goto 4, 3) := by decide +kernel
theorem dX4_press_52 : decode cX4_press 52 = .ok (.iconst 0, 1) := by decide +kernel
theorem dX4_press_53 : decode cX4_press 53 = .ok (.istore_n 2, 1) := by decide +kernel
theorem dX4_press_54 : decode cX4_press 54 = .ok (.aload_n 0, 1) := by decide +kernel
theorem dX4_press_55 : decode cX4_press 55 = .ok (.getfield 38, 3) := by decide +kernel
theorem dX4_press_58 : decode cX4_press 58 = .ok (.aload_n 0, 1) := by decide +kernel
theorem dX4_press_59 : decode cX4_press 59 = .ok (.getfield 10, 3) := by decide +kernel
theorem dX4_press_62 : decode cX4_press 62 = .ok (.invokevirtual 71, 3) := by decide +kernel
theorem dX4_press_65 : decode cX4_press 65 = .ok (.aload_n 0, 1) := by decide +kernel
theorem dX4_press_66 : decode cX4_press 66 = .ok (.getfield 10, 3) := by decide +kernel
theorem dX4_press_69 : decode cX4_press 69 = .ok (.dup, 1) := by decide +kernel
theorem dX4_press_70 : decode cX4_press 70 = .ok (.getfield 140, 3) := by decide +kernel
theorem dX4_press_73 : decode cX4_press 73 = .ok (.iload_n 1, 1) := by decide +kernel
theorem dX4_press_74 : decode cX4_press 74 = .ok (.iadd, 1) := by decide +kernel
theorem dX4_press_75 : decode cX4_press 75 = .ok (.putfield 140, 3) := by decide +kernel
theorem dX4_press_78 : decode cX4_press 78 = .ok (.aload_n 0, 1) := by decide +kernel
theorem dX4_press_79 : decode cX4_press 79 = .ok (.getfield 10, 3) := by decide +kernel
theorem dX4_press_82 : decode cX4_press 82 = .ok (.dup, 1) := by decide +kernel
theorem dX4_press_83 : decode cX4_press 83 = .ok (.getfield 147, 3) := by decide +kernel
theorem dX4_press_86 : decode cX4_press 86 = .ok (.iload_n 2, 1) := by decide +kernel
theorem dX4_press_87 : decode cX4_press 87 = .ok (.iadd, 1) := by decide +kernel
theorem dX4_press_88 : decode cX4_press 88 = .ok (.putfield 147, 3) := by decide +kernel
theorem dX4_press_91 : decode cX4_press 91 = .ok (.aload_n 0, 1) := by decide +kernel
theorem dX4_press_92 : decode cX4_press 92 = .ok (.getfield 10, 3) := by decide +kernel
theorem dX4_press_95 : decode cX4_press 95 = .ok (.dup, 1) := by decide +kernel
theorem dX4_press_96 : decode cX4_press 96 = .ok (.getfield 150, 3) := by decide +kernel
theorem dX4_press_99 : decode cX4_press 99 = .ok (.iload_n 1, 1) := by decide +kernel
theorem dX4_press_100 : decode cX4_press 100 = .ok (.iconst 3, 1) := by decide +kernel
theorem dX4_press_101 : decode cX4_press 101 = .ok (.aload_n 0, 1) := by decide +kernel
theorem dX4_press_102 : decode cX4_press 102 = .ok (.getfield 10, 3) := by decide +kernel
theorem dX4_press_105 : decode cX4_press 105 = .ok (.getfield 92, 3) := by decide +kernel
theorem dX4_press_108 : decode cX4_press 108 = .ok (.iadd, 1) := by decide +kernel
theorem dX4_press_109 : decode cX4_press 109 = .ok (.imul, 1) := by decide +kernel
theorem dX4_press_110 : decode cX4_press 110 = .ok (.iadd, 1) := by decide +kernel
theorem dX4_press_111 : decode cX4_press 111 = .ok (.putfield 150, 3) := by decide +kernel
theorem dX4_press_114 : decode cX4_press 114 = .ok (.iload_n 2, 1) := by decide +kernel
theorem dX4_press_115 : decode cX4_press 115 = .ok (.ireturn, 1) := by decide +kernel
theorem dX4_type_0 : decode cX4_type 0 = .ok (.aload_n 0, 1) := by decide +kernel
theorem dX4_type_1 : decode cX4_type 1 = .ok (.getfield 52, 3) := by decide +kernel
theorem dX4_type_4 : decode cX4_type 4 = .ok (.invokevirtual 153, 3) := by decide +kernel
theorem dX4_type_7 : decode cX4_type 7 = .ok (.ifCond .eq 6, 3) := by decide +kernel
theorem dX4_type_10 : decode cX4_type 10 = .ok (.bipush (-103), 2) := by decide +kernel
theorem dX4_type_12 : decode cX4_type 12 = .ok (.ireturn, 1) := by decide +kernel
theorem dX4_type_13 : decode cX4_type 13 = .ok (.aload_n 0, 1) := by decide +kernel
theorem dX4_type_14 : decode cX4_type 14 = .ok (.getfield 52, 3) := by decide +kernel
theorem dX4_type_17 : decode cX4_type 17 = .ok (.iload_n 1, 1) := by decide +kernel
theorem dX4_type_18 : decode cX4_type 18 = .ok (.invokevirtual 157, 3) := by decide +kernel
theorem dX4_type_21 : decode cX4_type 21 = .ok (.aload_n 0, 1) := by decide +kernel
theorem dX4_type_22 : decode cX4_type 22 = .ok (.getfield 52, 3) := by decide +kernel
theorem dX4_type_25 : decode cX4_type 25 = .ok (.getfield 161, 3) := by decide +kernel
theorem dX4_type_28 : decode cX4_type 28 = .ok (.ireturn, 1) := by decide +kernel
theorem dX4_clearText_0 : decode cX4_clearText 0 = .ok (.aload_n 0, 1) := by decide +kernel
theorem dX4_clearText_1 : decode cX4_clearText 1 = .ok (.getfield 52, 3) := by decide +kernel
theorem dX4_clearText_4 : decode cX4_clearText 4 = .ok (.getfield 161, 3) := by decide +kernel
theorem dX4_clearText_7 : decode cX4_clearText 7 = .ok (.istore_n 1, 1) := by decide +kernel
theorem dX4_clearText_8 : decode cX4_clearText 8 = .ok (.aload_n 0, 1) := by decide +kernel
theorem dX4_clearText_9 : decode cX4_clearText 9 = .ok (.getfield 52, 3) := by decide +kernel
theorem dX4_clearText_12 : decode cX4_clearText 12 = .ok (.invokevirtual 164, 3) := by decide +kernel
theorem dX4_clearText_15 : decode cX4_clearText 15 = .ok (.iload_n 1, 1) := by decide +kernel
theorem dX4_clearText_16 : decode cX4_clearText 16 = .ok (.ireturn, 1) := by decide +kernel
theorem dX4_undo_0 : decode cX4_undo 0 = .ok (.aload_n 0, 1) := by decide +kernel
theorem dX4_undo_1 : decode cX4_undo 1 = .ok (.getfield 38, 3) := by decide +kernel
theorem dX4_undo_4 : decode cX4_undo 4 = .ok (.getfield 167, 3) := by decide +kernel
theorem dX4_undo_7 : decode cX4_undo 7 = .ok (.ifCond .ne 6, 3) := by decide +kernel
theorem dX4_undo_10 : decode cX4_undo 10 = .ok (.bipush (-105), 2) := by decide +kernel
theorem dX4_undo_12 : decode cX4_undo 12 = .ok (.ireturn, 1) := by decide +kernel
theorem dX4_undo_13 : decode cX4_undo 13 = .ok (.aload_n 0, 1) := by decide +kernel
theorem dX4_undo_14 : decode cX4_undo 14 = .ok (.getfield 38, 3) := by decide +kernel
theorem dX4_undo_17 : decode cX4_undo 17 = .ok (.aload_n 0, 1) := by decide +kernel
theorem dX4_undo_18 : decode cX4_undo 18 = .ok (.getfield 10, 3) := by decide +kernel
theorem dX4_undo_21 : decode cX4_undo 21 = .ok (.invokevirtual 170, 3) := by decide +kernel
theorem dX4_undo_24 : decode cX4_undo 24 = .ok (.aload_n 0, 1) := by decide +kernel
theorem dX4_undo_25 : decode cX4_undo 25 = .ok (.getfield 38, 3) := by decide +kernel
theorem dX4_undo_28 : decode cX4_undo 28 = .ok (.getfield 167, 3) := by decide +kernel
theorem dX4_undo_31 : decode cX4_undo 31 = .ok (.ireturn, 1) := by decide +kernel
theorem dX4_keep_0 : decode cX4_keep 0 = .ok (.aload_n 0, 1) := by decide +kernel
theorem dX4_keep_1 : decode cX4_keep 1 = .ok (.getfield 42, 3) := by decide +kernel
theorem dX4_keep_4 : decode cX4_keep 4 = .ok (.aload_n 0, 1) := by decide +kernel
theorem dX4_keep_5 : decode cX4_keep 5 = .ok (.getfield 10, 3) := by decide +kernel
theorem dX4_keep_8 : decode cX4_keep 8 = .ok (.invokevirtual 173, 3) := by decide +kernel
theorem dX4_keep_11 : decode cX4_keep 11 = .ok (.aload_n 0, 1) := by decide +kernel
theorem dX4_keep_12 : decode cX4_keep 12 = .ok (.iconst 1, 1) := by decide +kernel
theorem dX4_keep_13 : decode cX4_keep 13 = .ok (.putfield 45, 3) := by decide +kernel
theorem dX4_keep_16 : decode cX4_keep 16 = .ok (.aload_n 0, 1) := by decide +kernel
theorem dX4_keep_17 : decode cX4_keep 17 = .ok (.getfield 10, 3) := by decide +kernel
theorem dX4_keep_20 : decode cX4_keep 20 = .ok (.getfield 78, 3) := by decide +kernel
theorem dX4_keep_23 : decode cX4_keep 23 = .ok (.ireturn, 1) := by decide +kernel
theorem dX4_restore_0 : decode cX4_restore 0 = .ok (.aload_n 0, 1) := by decide +kernel
theorem dX4_restore_1 : decode cX4_restore 1 = .ok (.getfield 45, 3) := by decide +kernel
theorem dX4_restore_4 : decode cX4_restore 4 = .ok (.ifCond .ne 6, 3) := by decide +kernel
theorem dX4_restore_7 : decode cX4_restore 7 = .ok (.bipush (-105), 2) := by decide +kernel
theorem dX4_restore_9 : decode cX4_restore 9 = .ok (.ireturn, 1) := by decide +kernel
theorem dX4_restore_10 : decode cX4_restore 10 = .ok (.aload_n 0, 1) := by decide +kernel
theorem dX4_restore_11 : decode cX4_restore 11 = .ok (.getfield 38, 3) := by decide +kernel
theorem dX4_restore_14 : decode cX4_restore 14 = .ok (.aload_n 0, 1) := by decide +kernel
theorem dX4_restore_15 : decode cX4_restore 15 = .ok (.getfield 10, 3) := by decide +kernel
theorem dX4_restore_18 : decode cX4_restore 18 = .ok (.invokevirtual 71, 3) := by decide +kernel
theorem dX4_restore_21 : decode cX4_restore 21 = .ok (.aload_n 0, 1) := by decide +kernel
theorem dX4_restore_22 : decode cX4_restore 22 = .ok (.getfield 10, 3) := by decide +kernel
theorem dX4_restore_25 : decode cX4_restore 25 = .ok (.aload_n 0, 1) := by decide +kernel
theorem dX4_restore_26 : decode cX4_restore 26 = .ok (.getfield 42, 3) := by decide +kernel
theorem dX4_restore_29 : decode cX4_restore 29 = .ok (.invokevirtual 173, 3) := by decide +kernel
theorem dX4_restore_32 : decode cX4_restore 32 = .ok (.aload_n 0, 1) := by decide +kernel
theorem dX4_restore_33 : decode cX4_restore 33 = .ok (.getfield 10, 3) := by decide +kernel
theorem dX4_restore_36 : decode cX4_restore 36 = .ok (.getfield 78, 3) := by decide +kernel
theorem dX4_restore_39 : decode cX4_restore 39 = .ok (.ireturn, 1) := by decide +kernel
theorem dX4_colourOf_0 : decode cX4_colourOf 0 = .ok (.aload_n 0, 1) := by decide +kernel
theorem dX4_colourOf_1 : decode cX4_colourOf 1 = .ok (.getfield 10, 3) := by decide +kernel
theorem dX4_colourOf_4 : decode cX4_colourOf 4 = .ok (.iload_n 1, 1) := by decide +kernel
theorem dX4_colourOf_5 : decode cX4_colourOf 5 = .ok (.invokevirtual 56, 3) := by decide +kernel
theorem dX4_colourOf_8 : decode cX4_colourOf 8 = .ok (.ifCond .eq 10, 3) := by decide +kernel
theorem dX4_colourOf_11 : decode cX4_colourOf 11 = .ok (.iload_n 2, 1) := by decide +kernel
theorem dX4_colourOf_12 : decode cX4_colourOf 12 = .ok (.invokestatic 60, 3) := by decide +kernel
theorem dX4_colourOf_15 : decode cX4_colourOf 15 = .ok (.ifCond .ne 6, 3) := by decide +kernel
theorem dX4_colourOf_18 : decode cX4_colourOf 18 = .ok (.bipush (-101), 2) := by decide +kernel
theorem dX4_colourOf_20 : decode cX4_colourOf 20 = .ok (.ireturn, 1) := by decide +kernel
theorem dX4_colourOf_21 : decode cX4_colourOf 21 = .ok (.aload_n 0, 1) := by decide +kernel
theorem dX4_colourOf_22 : decode cX4_colourOf 22 = .ok (.getfield 10, 3) := by decide +kernel
theorem dX4_colourOf_25 : decode cX4_colourOf 25 = .ok (.iload_n 1, 1) := by decide +kernel
theorem dX4_colourOf_26 : decode cX4_colourOf 26 = .ok (.iload_n 2, 1) := by decide +kernel
theorem dX4_colourOf_27 : decode cX4_colourOf 27 = .ok (.invokevirtual 67, 3) := by decide +kernel
theorem dX4_colourOf_30 : decode cX4_colourOf 30 = .ok (.ireturn, 1) := by decide +kernel
theorem dX4_viewOf_0 : decode cX4_viewOf 0 = .ok (.aload_n 0, 1) := by decide +kernel
theorem dX4_viewOf_1 : decode cX4_viewOf 1 = .ok (.getfield 10, 3) := by decide +kernel
theorem dX4_viewOf_4 : decode cX4_viewOf 4 = .ok (.iload_n 1, 1) := by decide +kernel
theorem dX4_viewOf_5 : decode cX4_viewOf 5 = .ok (.invokevirtual 98, 3) := by decide +kernel
theorem dX4_viewOf_8 : decode cX4_viewOf 8 = .ok (.ifCond .ne 6, 3) := by decide +kernel
theorem dX4_viewOf_11 : decode cX4_viewOf 11 = .ok (.bipush (-101), 2) := by decide +kernel
theorem dX4_viewOf_13 : decode cX4_viewOf 13 = .ok (.ireturn, 1) := by decide +kernel
theorem dX4_viewOf_14 : decode cX4_viewOf 14 = .ok (.aload_n 0, 1) := by decide +kernel
theorem dX4_viewOf_15 : decode cX4_viewOf 15 = .ok (.getfield 10, 3) := by decide +kernel
theorem dX4_viewOf_18 : decode cX4_viewOf 18 = .ok (.iload_n 1, 1) := by decide +kernel
theorem dX4_viewOf_19 : decode cX4_viewOf 19 = .ok (.invokevirtual 101, 3) := by decide +kernel
theorem dX4_viewOf_22 : decode cX4_viewOf 22 = .ok (.ireturn, 1) := by decide +kernel
theorem dX4_behind_0 : decode cX4_behind 0 = .ok (.iload_n 1, 1) := by decide +kernel
theorem dX4_behind_1 : decode cX4_behind 1 = .ok (.invokestatic 60, 3) := by decide +kernel
theorem dX4_behind_4 : decode cX4_behind 4 = .ok (.ifCond .eq 14, 3) := by decide +kernel
theorem dX4_behind_7 : decode cX4_behind 7 = .ok (.aload_n 0, 1) := by decide +kernel
theorem dX4_behind_8 : decode cX4_behind 8 = .ok (.getfield 10, 3) := by decide +kernel
theorem dX4_behind_11 : decode cX4_behind 11 = .ok (.iload_n 2, 1) := by decide +kernel
theorem dX4_behind_12 : decode cX4_behind 12 = .ok (.invokevirtual 98, 3) := by decide +kernel
theorem dX4_behind_15 : decode cX4_behind 15 = .ok (.ifCond .ne 6, 3) := by decide +kernel
theorem dX4_behind_18 : decode cX4_behind 18 = .ok (.bipush (-101), 2) := by decide +kernel
theorem dX4_behind_20 : decode cX4_behind 20 = .ok (.ireturn, 1) := by decide +kernel
theorem dX4_behind_21 : decode cX4_behind 21 = .ok (.iload_n 3, 1) := by decide +kernel
theorem dX4_behind_22 : decode cX4_behind 22 = .ok (.tableswitch 65 0 2 #[26, 39, 52], 26) := by decide +kernel
theorem dX4_behind_48 : decode cX4_behind 48 = .ok (.aload_n 0, 1) := by decide +kernel
theorem dX4_behind_49 : decode cX4_behind 49 = .ok (.getfield 10, 3) := by decide +kernel
theorem dX4_behind_52 : decode cX4_behind 52 = .ok (.iload_n 1, 1) := by decide +kernel
theorem dX4_behind_53 : decode cX4_behind 53 = .ok (.iload_n 2, 1) := by decide +kernel
theorem dX4_behind_54 : decode cX4_behind 54 = .ok (.invokevirtual 176, 3) := by decide +kernel
theorem dX4_behind_57 : decode cX4_behind 57 = .ok (.invokestatic 179, 3) := by decide +kernel
theorem dX4_behind_60 : decode cX4_behind 60 = .ok (.ireturn, 1) := by decide +kernel
theorem dX4_behind_61 : decode cX4_behind 61 = .ok (.aload_n 0, 1) := by decide +kernel
theorem dX4_behind_62 : decode cX4_behind 62 = .ok (.getfield 10, 3) := by decide +kernel
theorem dX4_behind_65 : decode cX4_behind 65 = .ok (.iload_n 1, 1) := by decide +kernel
theorem dX4_behind_66 : decode cX4_behind 66 = .ok (.iload_n 2, 1) := by decide +kernel
theorem dX4_behind_67 : decode cX4_behind 67 = .ok (.invokevirtual 182, 3) := by decide +kernel
theorem dX4_behind_70 : decode cX4_behind 70 = .ok (.invokestatic 179, 3) := by decide +kernel
theorem dX4_behind_73 : decode cX4_behind 73 = .ok (.ireturn, 1) := by decide +kernel
theorem dX4_behind_74 : decode cX4_behind 74 = .ok (.aload_n 0, 1) := by decide +kernel
theorem dX4_behind_75 : decode cX4_behind 75 = .ok (.getfield 10, 3) := by decide +kernel
theorem dX4_behind_78 : decode cX4_behind 78 = .ok (.iload_n 1, 1) := by decide +kernel
theorem dX4_behind_79 : decode cX4_behind 79 = .ok (.iload_n 2, 1) := by decide +kernel
theorem dX4_behind_80 : decode cX4_behind 80 = .ok (.invokevirtual 185, 3) := by decide +kernel
theorem dX4_behind_83 : decode cX4_behind 83 = .ok (.invokestatic 179, 3) := by decide +kernel
theorem dX4_behind_86 : decode cX4_behind 86 = .ok (.ireturn, 1) := by decide +kernel
theorem dX4_behind_87 : decode cX4_behind 87 = .ok (.bipush (-102), 2) := by decide +kernel
theorem dX4_behind_89 : decode cX4_behind 89 = .ok (.ireturn, 1) := by decide +kernel
theorem dX4_seen_0 : decode cX4_seen 0 = .ok (.iload_n 1, 1) := by decide +kernel
theorem dX4_seen_1 : decode cX4_seen 1 = .ok (.invokestatic 188, 3) := by decide +kernel
theorem dX4_seen_4 : decode cX4_seen 4 = .ok (.ifCond .eq 10, 3) := by decide +kernel
theorem dX4_seen_7 : decode cX4_seen 7 = .ok (.iload_n 2, 1) := by decide +kernel
theorem dX4_seen_8 : decode cX4_seen 8 = .ok (.invokestatic 60, 3) := by decide +kernel
theorem dX4_seen_11 : decode cX4_seen 11 = .ok (.ifCond .ne 6, 3) := by decide +kernel
theorem dX4_seen_14 : decode cX4_seen 14 = .ok (.bipush (-101), 2) := by decide +kernel
theorem dX4_seen_16 : decode cX4_seen 16 = .ok (.ireturn, 1) := by decide +kernel
theorem dX4_seen_17 : decode cX4_seen 17 = .ok (.aload_n 0, 1) := by decide +kernel
theorem dX4_seen_18 : decode cX4_seen 18 = .ok (.getfield 10, 3) := by decide +kernel
theorem dX4_seen_21 : decode cX4_seen 21 = .ok (.iload_n 1, 1) := by decide +kernel
theorem dX4_seen_22 : decode cX4_seen 22 = .ok (.invokevirtual 191, 3) := by decide +kernel
theorem dX4_seen_25 : decode cX4_seen 25 = .ok (.istore 4, 2) := by decide +kernel
theorem dX4_seen_27 : decode cX4_seen 27 = .ok (.aload_n 0, 1) := by decide +kernel
theorem dX4_seen_28 : decode cX4_seen 28 = .ok (.getfield 10, 3) := by decide +kernel
theorem dX4_seen_31 : decode cX4_seen 31 = .ok (.iload 4, 2) := by decide +kernel
theorem dX4_seen_33 : decode cX4_seen 33 = .ok (.iload_n 2, 1) := by decide +kernel
theorem dX4_seen_34 : decode cX4_seen 34 = .ok (.invokevirtual 194, 3) := by decide +kernel
theorem dX4_seen_37 : decode cX4_seen 37 = .ok (.istore 5, 2) := by decide +kernel
theorem dX4_seen_39 : decode cX4_seen 39 = .ok (.iload_n 3, 1) := by decide +kernel
theorem dX4_seen_40 : decode cX4_seen 40 = .ok (.tableswitch 82 0 3 #[32, 46, 60, 63], 32) := by decide +kernel
theorem dX4_seen_72 : decode cX4_seen 72 = .ok (.aload_n 0, 1) := by decide +kernel
theorem dX4_seen_73 : decode cX4_seen 73 = .ok (.getfield 10, 3) := by decide +kernel
theorem dX4_seen_76 : decode cX4_seen 76 = .ok (.iload_n 2, 1) := by decide +kernel
theorem dX4_seen_77 : decode cX4_seen 77 = .ok (.iload 5, 2) := by decide +kernel
theorem dX4_seen_79 : decode cX4_seen 79 = .ok (.invokevirtual 176, 3) := by decide +kernel
theorem dX4_seen_82 : decode cX4_seen 82 = .ok (.invokestatic 179, 3) := by decide +kernel
theorem dX4_seen_85 : decode cX4_seen 85 = .ok (.ireturn, 1) := by decide +kernel
theorem dX4_seen_86 : decode cX4_seen 86 = .ok (.aload_n 0, 1) := by decide +kernel
theorem dX4_seen_87 : decode cX4_seen 87 = .ok (.getfield 10, 3) := by decide +kernel
theorem dX4_seen_90 : decode cX4_seen 90 = .ok (.iload_n 2, 1) := by decide +kernel
theorem dX4_seen_91 : decode cX4_seen 91 = .ok (.iload 5, 2) := by decide +kernel
theorem dX4_seen_93 : decode cX4_seen 93 = .ok (.invokevirtual 182, 3) := by decide +kernel
theorem dX4_seen_96 : decode cX4_seen 96 = .ok (.invokestatic 179, 3) := by decide +kernel
theorem dX4_seen_99 : decode cX4_seen 99 = .ok (.ireturn, 1) := by decide +kernel
theorem dX4_seen_100 : decode cX4_seen 100 = .ok (.iload 5, 2) := by decide +kernel
theorem dX4_seen_102 : decode cX4_seen 102 = .ok (.ireturn, 1) := by decide +kernel
theorem dX4_seen_103 : decode cX4_seen 103 = .ok (.aload_n 0, 1) := by decide +kernel
theorem dX4_seen_104 : decode cX4_seen 104 = .ok (.invokevirtual 126, 3) := by decide +kernel
theorem dX4_seen_107 : decode cX4_seen 107 = .ok (.iload 4, 2) := by decide +kernel
theorem dX4_seen_109 : decode cX4_seen 109 = .ok (.iload_n 2, 1) := by decide +kernel
theorem dX4_seen_110 : decode cX4_seen 110 = .ok (.invokevirtual 197, 3) := by decide +kernel
theorem dX4_seen_113 : decode cX4_seen 113 = .ok (.ifCond .eq 7, 3) := by decide +kernel
theorem dX4_seen_116 : decode cX4_seen 116 = .ok (.iconst 1, 1) := by decide +kernel
theorem dX4_seen_117 : decode cX4_seen 117 = .ok (.goto 4, 3) := by decide +kernel
theorem dX4_seen_120 : decode cX4_seen 120 = .ok (.iconst 0, 1) := by decide +kernel
theorem dX4_seen_121 : decode cX4_seen 121 = .ok (.ireturn, 1) := by decide +kernel
theorem dX4_seen_122 : decode cX4_seen 122 = .ok (.bipush (-102), 2) := by decide +kernel
theorem dX4_seen_124 : decode cX4_seen 124 = .ok (.ireturn, 1) := by decide +kernel
theorem dX4_at_0 : decode cX4_at 0 = .ok (.iload_n 1, 1) := by decide +kernel
theorem dX4_at_1 : decode cX4_at 1 = .ok (.invokestatic 188, 3) := by decide +kernel
theorem dX4_at_4 : decode cX4_at 4 = .ok (.ifCond .ne 6, 3) := by decide +kernel
theorem dX4_at_7 : decode cX4_at 7 = .ok (.bipush (-101), 2) := by decide +kernel
theorem dX4_at_9 : decode cX4_at 9 = .ok (.ireturn, 1) := by decide +kernel
theorem dX4_at_10 : decode cX4_at 10 = .ok (.aload_n 0, 1) := by decide +kernel
theorem dX4_at_11 : decode cX4_at 11 = .ok (.getfield 10, 3) := by decide +kernel
theorem dX4_at_14 : decode cX4_at 14 = .ok (.iload_n 1, 1) := by decide +kernel
theorem dX4_at_15 : decode cX4_at 15 = .ok (.invokevirtual 191, 3) := by decide +kernel
theorem dX4_at_18 : decode cX4_at 18 = .ok (.istore_n 3, 1) := by decide +kernel
theorem dX4_at_19 : decode cX4_at 19 = .ok (.aload_n 0, 1) := by decide +kernel
theorem dX4_at_20 : decode cX4_at 20 = .ok (.invokevirtual 126, 3) := by decide +kernel
theorem dX4_at_23 : decode cX4_at 23 = .ok (.pop, 1) := by decide +kernel
theorem dX4_at_24 : decode cX4_at 24 = .ok (.iload_n 2, 1) := by decide +kernel
theorem dX4_at_25 : decode cX4_at 25 = .ok (.tableswitch 87 0 4 #[35, 44, 56, 68, 77], 35) := by decide +kernel
theorem dX4_at_60 : decode cX4_at 60 = .ok (.aload_n 0, 1) := by decide +kernel
theorem dX4_at_61 : decode cX4_at 61 = .ok (.getfield 21, 3) := by decide +kernel
theorem dX4_at_64 : decode cX4_at 64 = .ok (.iload_n 3, 1) := by decide +kernel
theorem dX4_at_65 : decode cX4_at 65 = .ok (.invokevirtual 201, 3) := by decide +kernel
theorem dX4_at_68 : decode cX4_at 68 = .ok (.ireturn, 1) := by decide +kernel
theorem dX4_at_69 : decode cX4_at 69 = .ok (.aload_n 0, 1) := by decide +kernel
theorem dX4_at_70 : decode cX4_at 70 = .ok (.getfield 21, 3) := by decide +kernel
theorem dX4_at_73 : decode cX4_at 73 = .ok (.iload_n 3, 1) := by decide +kernel
theorem dX4_at_74 : decode cX4_at 74 = .ok (.invokevirtual 204, 3) := by decide +kernel
theorem dX4_at_77 : decode cX4_at 77 = .ok (.invokestatic 179, 3) := by decide +kernel
theorem dX4_at_80 : decode cX4_at 80 = .ok (.ireturn, 1) := by decide +kernel
theorem dX4_at_81 : decode cX4_at 81 = .ok (.aload_n 0, 1) := by decide +kernel
theorem dX4_at_82 : decode cX4_at 82 = .ok (.getfield 21, 3) := by decide +kernel
theorem dX4_at_85 : decode cX4_at 85 = .ok (.iload_n 3, 1) := by decide +kernel
theorem dX4_at_86 : decode cX4_at 86 = .ok (.invokevirtual 207, 3) := by decide +kernel
theorem dX4_at_89 : decode cX4_at 89 = .ok (.invokestatic 179, 3) := by decide +kernel
theorem dX4_at_92 : decode cX4_at 92 = .ok (.ireturn, 1) := by decide +kernel
theorem dX4_at_93 : decode cX4_at 93 = .ok (.aload_n 0, 1) := by decide +kernel
theorem dX4_at_94 : decode cX4_at 94 = .ok (.getfield 21, 3) := by decide +kernel
theorem dX4_at_97 : decode cX4_at 97 = .ok (.iload_n 3, 1) := by decide +kernel
theorem dX4_at_98 : decode cX4_at 98 = .ok (.invokevirtual 210, 3) := by decide +kernel
theorem dX4_at_101 : decode cX4_at 101 = .ok (.ireturn, 1) := by decide +kernel
theorem dX4_at_102 : decode cX4_at 102 = .ok (.aload_n 0, 1) := by decide +kernel
theorem dX4_at_103 : decode cX4_at 103 = .ok (.getfield 21, 3) := by decide +kernel
theorem dX4_at_106 : decode cX4_at 106 = .ok (.iload_n 3, 1) := by decide +kernel
theorem dX4_at_107 : decode cX4_at 107 = .ok (.iconst (-1), 1) := by decide +kernel
theorem dX4_at_108 : decode cX4_at 108 = .ok (.invokevirtual 213, 3) := by decide +kernel
theorem dX4_at_111 : decode cX4_at 111 = .ok (.ireturn, 1) := by decide +kernel
theorem dX4_at_112 : decode cX4_at 112 = .ok (.bipush (-102), 2) := by decide +kernel
theorem dX4_at_114 : decode cX4_at 114 = .ok (.ireturn, 1) := by decide +kernel
theorem dX4_view_0 : decode cX4_view 0 = .ok (.aload_n 0, 1) := by decide +kernel
theorem dX4_view_1 : decode cX4_view 1 = .ok (.getfield 10, 3) := by decide +kernel
theorem dX4_view_4 : decode cX4_view 4 = .ok (.iload_n 1, 1) := by decide +kernel
theorem dX4_view_5 : decode cX4_view 5 = .ok (.invokevirtual 56, 3) := by decide +kernel
theorem dX4_view_8 : decode cX4_view 8 = .ok (.ifCond .ne 6, 3) := by decide +kernel
theorem dX4_view_11 : decode cX4_view 11 = .ok (.bipush (-101), 2) := by decide +kernel
theorem dX4_view_13 : decode cX4_view 13 = .ok (.ireturn, 1) := by decide +kernel
theorem dX4_view_14 : decode cX4_view 14 = .ok (.aload_n 0, 1) := by decide +kernel
theorem dX4_view_15 : decode cX4_view 15 = .ok (.invokevirtual 126, 3) := by decide +kernel
theorem dX4_view_18 : decode cX4_view 18 = .ok (.pop, 1) := by decide +kernel
theorem dX4_view_19 : decode cX4_view 19 = .ok (.iload_n 2, 1) := by decide +kernel
theorem dX4_view_20 : decode cX4_view 20 = .ok (.tableswitch 83 0 3 #[32, 41, 50, 59], 32) := by decide +kernel
theorem dX4_view_52 : decode cX4_view 52 = .ok (.aload_n 0, 1) := by decide +kernel
theorem dX4_view_53 : decode cX4_view 53 = .ok (.getfield 10, 3) := by decide +kernel
theorem dX4_view_56 : decode cX4_view 56 = .ok (.iload_n 1, 1) := by decide +kernel
theorem dX4_view_57 : decode cX4_view 57 = .ok (.invokevirtual 216, 3) := by decide +kernel
theorem dX4_view_60 : decode cX4_view 60 = .ok (.ireturn, 1) := by decide +kernel
theorem dX4_view_61 : decode cX4_view 61 = .ok (.aload_n 0, 1) := by decide +kernel
theorem dX4_view_62 : decode cX4_view 62 = .ok (.getfield 21, 3) := by decide +kernel
theorem dX4_view_65 : decode cX4_view 65 = .ok (.iload_n 1, 1) := by decide +kernel
theorem dX4_view_66 : decode cX4_view 66 = .ok (.invokevirtual 219, 3) := by decide +kernel
theorem dX4_view_69 : decode cX4_view 69 = .ok (.ireturn, 1) := by decide +kernel
theorem dX4_view_70 : decode cX4_view 70 = .ok (.aload_n 0, 1) := by decide +kernel
theorem dX4_view_71 : decode cX4_view 71 = .ok (.getfield 21, 3) := by decide +kernel
theorem dX4_view_74 : decode cX4_view 74 = .ok (.iload_n 1, 1) := by decide +kernel
theorem dX4_view_75 : decode cX4_view 75 = .ok (.invokevirtual 222, 3) := by decide +kernel
theorem dX4_view_78 : decode cX4_view 78 = .ok (.ireturn, 1) := by decide +kernel
theorem dX4_view_79 : decode cX4_view 79 = .ok (.aload_n 0, 1) := by decide +kernel
theorem dX4_view_80 : decode cX4_view 80 = .ok (.getfield 21, 3) := by decide +kernel
theorem dX4_view_83 : decode cX4_view 83 = .ok (.aload_n 0, 1) := by decide +kernel
theorem dX4_view_84 : decode cX4_view 84 = .ok (.getfield 10, 3) := by decide +kernel
theorem dX4_view_87 : decode cX4_view 87 = .ok (.aload_n 0, 1) := by decide +kernel
theorem dX4_view_88 : decode cX4_view 88 = .ok (.getfield 21, 3) := by decide +kernel
theorem dX4_view_91 : decode cX4_view 91 = .ok (.iload_n 1, 1) := by decide +kernel
theorem dX4_view_92 : decode cX4_view 92 = .ok (.invokevirtual 222, 3) := by decide +kernel
theorem dX4_view_95 : decode cX4_view 95 = .ok (.invokevirtual 191, 3) := by decide +kernel
theorem dX4_view_98 : decode cX4_view 98 = .ok (.iload_n 1, 1) := by decide +kernel
theorem dX4_view_99 : decode cX4_view 99 = .ok (.invokevirtual 213, 3) := by decide +kernel
theorem dX4_view_102 : decode cX4_view 102 = .ok (.ireturn, 1) := by decide +kernel
theorem dX4_view_103 : decode cX4_view 103 = .ok (.bipush (-102), 2) := by decide +kernel
theorem dX4_view_105 : decode cX4_view 105 = .ok (.ireturn, 1) := by decide +kernel
theorem dX4_bestOrder_0 : decode cX4_bestOrder 0 = .ok (.aload_n 0, 1) := by decide +kernel
theorem dX4_bestOrder_1 : decode cX4_bestOrder 1 = .ok (.getfield 10, 3) := by decide +kernel
theorem dX4_bestOrder_4 : decode cX4_bestOrder 4 = .ok (.iload_n 1, 1) := by decide +kernel
theorem dX4_bestOrder_5 : decode cX4_bestOrder 5 = .ok (.invokevirtual 98, 3) := by decide +kernel
theorem dX4_bestOrder_8 : decode cX4_bestOrder 8 = .ok (.ifCond .eq 12, 3) := by decide +kernel
theorem dX4_bestOrder_11 : decode cX4_bestOrder 11 = .ok (.iload_n 1, 1) := by decide +kernel
theorem dX4_bestOrder_12 : decode cX4_bestOrder 12 = .ok (.iconst 0, 1) := by decide +kernel
theorem dX4_bestOrder_13 : decode cX4_bestOrder 13 = .ok (.iconst 5, 1) := by decide +kernel
theorem dX4_bestOrder_14 : decode cX4_bestOrder 14 = .ok (.invokestatic 63, 3) := by decide +kernel
theorem dX4_bestOrder_17 : decode cX4_bestOrder 17 = .ok (.ifCond .ne 6, 3) := by decide +kernel
theorem dX4_bestOrder_20 : decode cX4_bestOrder 20 = .ok (.bipush (-101), 2) := by decide +kernel
theorem dX4_bestOrder_22 : decode cX4_bestOrder 22 = .ok (.ireturn, 1) := by decide +kernel
theorem dX4_bestOrder_23 : decode cX4_bestOrder 23 = .ok (.aload_n 0, 1) := by decide +kernel
theorem dX4_bestOrder_24 : decode cX4_bestOrder 24 = .ok (.invokevirtual 115, 3) := by decide +kernel
theorem dX4_bestOrder_27 : decode cX4_bestOrder 27 = .ok (.aload_n 0, 1) := by decide +kernel
theorem dX4_bestOrder_28 : decode cX4_bestOrder 28 = .ok (.getfield 31, 3) := by decide +kernel
theorem dX4_bestOrder_31 : decode cX4_bestOrder 31 = .ok (.iload_n 1, 1) := by decide +kernel
theorem dX4_bestOrder_32 : decode cX4_bestOrder 32 = .ok (.iaload, 1) := by decide +kernel
theorem dX4_bestOrder_33 : decode cX4_bestOrder 33 = .ok (.ireturn, 1) := by decide +kernel
theorem dX4_bestShift_0 : decode cX4_bestShift 0 = .ok (.aload_n 0, 1) := by decide +kernel
theorem dX4_bestShift_1 : decode cX4_bestShift 1 = .ok (.getfield 25, 3) := by decide +kernel
theorem dX4_bestShift_4 : decode cX4_bestShift 4 = .ok (.aload_n 0, 1) := by decide +kernel
theorem dX4_bestShift_5 : decode cX4_bestShift 5 = .ok (.getfield 10, 3) := by decide +kernel
theorem dX4_bestShift_8 : decode cX4_bestShift 8 = .ok (.invokevirtual 173, 3) := by decide +kernel
theorem dX4_bestShift_11 : decode cX4_bestShift 11 = .ok (.iconst 0, 1) := by decide +kernel
theorem dX4_bestShift_12 : decode cX4_bestShift 12 = .ok (.istore_n 1, 1) := by decide +kernel
theorem dX4_bestShift_13 : decode cX4_bestShift 13 = .ok (.aload_n 0, 1) := by decide +kernel
theorem dX4_bestShift_14 : decode cX4_bestShift 14 = .ok (.iconst 0, 1) := by decide +kernel
theorem dX4_bestShift_15 : decode cX4_bestShift 15 = .ok (.invokevirtual 225, 3) := by decide +kernel
theorem dX4_bestShift_18 : decode cX4_bestShift 18 = .ok (.istore_n 2, 1) := by decide +kernel
theorem dX4_bestShift_19 : decode cX4_bestShift 19 = .ok (.iconst 1, 1) := by decide +kernel
theorem dX4_bestShift_20 : decode cX4_bestShift 20 = .ok (.istore_n 3, 1) := by decide +kernel
theorem dX4_bestShift_21 : decode cX4_bestShift 21 = .ok (.iload_n 3, 1) := by decide +kernel
theorem dX4_bestShift_22 : decode cX4_bestShift 22 = .ok (.iconst 3, 1) := by decide +kernel
theorem dX4_bestShift_23 : decode cX4_bestShift 23 = .ok (.if_icmp .gt 47, 3) := by decide +kernel
theorem dX4_bestShift_26 : decode cX4_bestShift 26 = .ok (.aload_n 0, 1) := by decide +kernel
theorem dX4_bestShift_27 : decode cX4_bestShift 27 = .ok (.iload_n 3, 1) := by decide +kernel
theorem dX4_bestShift_28 : decode cX4_bestShift 28 = .ok (.ineg, 1) := by decide +kernel
theorem dX4_bestShift_29 : decode cX4_bestShift 29 = .ok (.invokevirtual 225, 3) := by decide +kernel
theorem dX4_bestShift_32 : decode cX4_bestShift 32 = .ok (.istore 4, 2) := by decide +kernel
theorem dX4_bestShift_34 : decode cX4_bestShift 34 = .ok (.iload 4, 2) := by decide +kernel
theorem dX4_bestShift_36 : decode cX4_bestShift 36 = .ok (.iload_n 2, 1) := by decide +kernel
theorem dX4_bestShift_37 : decode cX4_bestShift 37 = .ok (.if_icmp .ge 9, 3) := by decide +kernel
theorem dX4_bestShift_40 : decode cX4_bestShift 40 = .ok (.iload 4, 2) := by decide +kernel
theorem dX4_bestShift_42 : decode cX4_bestShift 42 = .ok (.istore_n 2, 1) := by decide +kernel
theorem dX4_bestShift_43 : decode cX4_bestShift 43 = .ok (.iload_n 3, 1) := by decide +kernel
theorem dX4_bestShift_44 : decode cX4_bestShift 44 = .ok (.ineg, 1) := by decide +kernel
theorem dX4_bestShift_45 : decode cX4_bestShift 45 = .ok (.istore_n 1, 1) := by decide +kernel
theorem dX4_bestShift_46 : decode cX4_bestShift 46 = .ok (.aload_n 0, 1) := by decide +kernel
theorem dX4_bestShift_47 : decode cX4_bestShift 47 = .ok (.iload_n 3, 1) := by decide +kernel
theorem dX4_bestShift_48 : decode cX4_bestShift 48 = .ok (.invokevirtual 225, 3) := by decide +kernel
theorem dX4_bestShift_51 : decode cX4_bestShift 51 = .ok (.istore 5, 2) := by decide +kernel
theorem dX4_bestShift_53 : decode cX4_bestShift 53 = .ok (.iload 5, 2) := by decide +kernel
theorem dX4_bestShift_55 : decode cX4_bestShift 55 = .ok (.iload_n 2, 1) := by decide +kernel
theorem dX4_bestShift_56 : decode cX4_bestShift 56 = .ok (.if_icmp .ge 8, 3) := by decide +kernel
theorem dX4_bestShift_59 : decode cX4_bestShift 59 = .ok (.iload 5, 2) := by decide +kernel
theorem dX4_bestShift_61 : decode cX4_bestShift 61 = .ok (.istore_n 2, 1) := by decide +kernel
theorem dX4_bestShift_62 : decode cX4_bestShift 62 = .ok (.iload_n 3, 1) := by decide +kernel
theorem dX4_bestShift_63 : decode cX4_bestShift 63 = .ok (.istore_n 1, 1) := by decide +kernel
theorem dX4_bestShift_64 : decode cX4_bestShift 64 = .ok (.iinc 3 1, 3) := by decide +kernel
theorem dX4_bestShift_67 : decode cX4_bestShift 67 = .ok (.goto (-46), 3) := by decide +kernel
theorem dX4_bestShift_70 : decode cX4_bestShift 70 = .ok (.iload_n 1, 1) := by decide +kernel
theorem dX4_bestShift_71 : decode cX4_bestShift 71 = .ok (.ireturn, 1) := by decide +kernel
theorem dX4_ifSlice_0 : decode cX4_ifSlice 0 = .ok (.aload_n 0, 1) := by decide +kernel
theorem dX4_ifSlice_1 : decode cX4_ifSlice 1 = .ok (.getfield 10, 3) := by decide +kernel
theorem dX4_ifSlice_4 : decode cX4_ifSlice 4 = .ok (.iload_n 1, 1) := by decide +kernel
theorem dX4_ifSlice_5 : decode cX4_ifSlice 5 = .ok (.invokevirtual 98, 3) := by decide +kernel
theorem dX4_ifSlice_8 : decode cX4_ifSlice 8 = .ok (.ifCond .eq 14, 3) := by decide +kernel
theorem dX4_ifSlice_11 : decode cX4_ifSlice 11 = .ok (.aload_n 0, 1) := by decide +kernel
theorem dX4_ifSlice_12 : decode cX4_ifSlice 12 = .ok (.getfield 10, 3) := by decide +kernel
theorem dX4_ifSlice_15 : decode cX4_ifSlice 15 = .ok (.iload_n 2, 1) := by decide +kernel
theorem dX4_ifSlice_16 : decode cX4_ifSlice 16 = .ok (.invokevirtual 56, 3) := by decide +kernel
theorem dX4_ifSlice_19 : decode cX4_ifSlice 19 = .ok (.ifCond .ne 6, 3) := by decide +kernel
theorem dX4_ifSlice_22 : decode cX4_ifSlice 22 = .ok (.bipush (-101), 2) := by decide +kernel
theorem dX4_ifSlice_24 : decode cX4_ifSlice 24 = .ok (.ireturn, 1) := by decide +kernel
theorem dX4_ifSlice_25 : decode cX4_ifSlice 25 = .ok (.aload_n 0, 1) := by decide +kernel
theorem dX4_ifSlice_26 : decode cX4_ifSlice 26 = .ok (.getfield 25, 3) := by decide +kernel
theorem dX4_ifSlice_29 : decode cX4_ifSlice 29 = .ok (.aload_n 0, 1) := by decide +kernel
theorem dX4_ifSlice_30 : decode cX4_ifSlice 30 = .ok (.getfield 10, 3) := by decide +kernel
theorem dX4_ifSlice_33 : decode cX4_ifSlice 33 = .ok (.invokevirtual 173, 3) := by decide +kernel
theorem dX4_ifSlice_36 : decode cX4_ifSlice 36 = .ok (.aload_n 0, 1) := by decide +kernel
theorem dX4_ifSlice_37 : decode cX4_ifSlice 37 = .ok (.getfield 25, 3) := by decide +kernel
theorem dX4_ifSlice_40 : decode cX4_ifSlice 40 = .ok (.iload_n 1, 1) := by decide +kernel
theorem dX4_ifSlice_41 : decode cX4_ifSlice 41 = .ok (.iload_n 2, 1) := by decide +kernel
theorem dX4_ifSlice_42 : decode cX4_ifSlice 42 = .ok (.invokevirtual 105, 3) := by decide +kernel
theorem dX4_ifSlice_45 : decode cX4_ifSlice 45 = .ok (.aload_n 0, 1) := by decide +kernel
theorem dX4_ifSlice_46 : decode cX4_ifSlice 46 = .ok (.getfield 28, 3) := by decide +kernel
theorem dX4_ifSlice_49 : decode cX4_ifSlice 49 = .ok (.invokevirtual 228, 3) := by decide +kernel
theorem dX4_ifSlice_52 : decode cX4_ifSlice 52 = .ok (.aload_n 0, 1) := by decide +kernel
theorem dX4_ifSlice_53 : decode cX4_ifSlice 53 = .ok (.getfield 28, 3) := by decide +kernel
theorem dX4_ifSlice_56 : decode cX4_ifSlice 56 = .ok (.invokevirtual 130, 3) := by decide +kernel
theorem dX4_ifSlice_59 : decode cX4_ifSlice 59 = .ok (.ireturn, 1) := by decide +kernel
theorem dX4_count_0 : decode cX4_count 0 = .ok (.iload_n 1, 1) := by decide +kernel
theorem dX4_count_1 : decode cX4_count 1 = .ok (.tableswitch 179 0 12 #[67, 75, 83, 91, 99, 107, 115, 123, 131, 139, 155, 163, 171], 67) := by decide +kernel
theorem dX4_count_68 : decode cX4_count 68 = .ok (.aload_n 0, 1) := by decide +kernel
theorem dX4_count_69 : decode cX4_count 69 = .ok (.getfield 10, 3) := by decide +kernel
theorem dX4_count_72 : decode cX4_count 72 = .ok (.getfield 78, 3) := by decide +kernel
theorem dX4_count_75 : decode cX4_count 75 = .ok (.ireturn, 1) := by decide +kernel
theorem dX4_count_76 : decode cX4_count 76 = .ok (.aload_n 0, 1) := by decide +kernel
theorem dX4_count_77 : decode cX4_count 77 = .ok (.getfield 10, 3) := by decide +kernel
theorem dX4_count_80 : decode cX4_count 80 = .ok (.getfield 92, 3) := by decide +kernel
theorem dX4_count_83 : decode cX4_count 83 = .ok (.ireturn, 1) := by decide +kernel
theorem dX4_count_84 : decode cX4_count 84 = .ok (.aload_n 0, 1) := by decide +kernel
theorem dX4_count_85 : decode cX4_count 85 = .ok (.getfield 10, 3) := by decide +kernel
theorem dX4_count_88 : decode cX4_count 88 = .ok (.getfield 109, 3) := by decide +kernel
theorem dX4_count_91 : decode cX4_count 91 = .ok (.ireturn, 1) := by decide +kernel
theorem dX4_count_92 : decode cX4_count 92 = .ok (.aload_n 0, 1) := by decide +kernel
theorem dX4_count_93 : decode cX4_count 93 = .ok (.getfield 10, 3) := by decide +kernel
theorem dX4_count_96 : decode cX4_count 96 = .ok (.getfield 112, 3) := by decide +kernel
theorem dX4_count_99 : decode cX4_count 99 = .ok (.ireturn, 1) := by decide +kernel
theorem dX4_count_100 : decode cX4_count 100 = .ok (.aload_n 0, 1) := by decide +kernel
theorem dX4_count_101 : decode cX4_count 101 = .ok (.invokevirtual 126, 3) := by decide +kernel
theorem dX4_count_104 : decode cX4_count 104 = .ok (.invokevirtual 130, 3) := by decide +kernel
theorem dX4_count_107 : decode cX4_count 107 = .ok (.ireturn, 1) := by decide +kernel
theorem dX4_count_108 : decode cX4_count 108 = .ok (.aload_n 0, 1) := by decide +kernel
theorem dX4_count_109 : decode cX4_count 109 = .ok (.invokevirtual 126, 3) := by decide +kernel
theorem dX4_count_112 : decode cX4_count 112 = .ok (.invokevirtual 231, 3) := by decide +kernel
theorem dX4_count_115 : decode cX4_count 115 = .ok (.ireturn, 1) := by decide +kernel
theorem dX4_count_116 : decode cX4_count 116 = .ok (.aload_n 0, 1) := by decide +kernel
theorem dX4_count_117 : decode cX4_count 117 = .ok (.invokevirtual 126, 3) := by decide +kernel
theorem dX4_count_120 : decode cX4_count 120 = .ok (.invokevirtual 144, 3) := by decide +kernel
theorem dX4_count_123 : decode cX4_count 123 = .ok (.ireturn, 1) := by decide +kernel
theorem dX4_count_124 : decode cX4_count 124 = .ok (.aload_n 0, 1) := by decide +kernel
theorem dX4_count_125 : decode cX4_count 125 = .ok (.getfield 10, 3) := by decide +kernel
theorem dX4_count_128 : decode cX4_count 128 = .ok (.getfield 140, 3) := by decide +kernel
theorem dX4_count_131 : decode cX4_count 131 = .ok (.ireturn, 1) := by decide +kernel
theorem dX4_count_132 : decode cX4_count 132 = .ok (.aload_n 0, 1) := by decide +kernel
theorem dX4_count_133 : decode cX4_count 133 = .ok (.getfield 10, 3) := by decide +kernel
theorem dX4_count_136 : decode cX4_count 136 = .ok (.getfield 147, 3) := by decide +kernel
theorem dX4_count_139 : decode cX4_count 139 = .ok (.ireturn, 1) := by decide +kernel
theorem dX4_count_140 : decode cX4_count 140 = .ok (.aload_n 0, 1) := by decide +kernel
theorem dX4_count_141 : decode cX4_count 141 = .ok (.getfield 10, 3) := by decide +kernel
theorem dX4_count_144 : decode cX4_count 144 = .ok (.getfield 140, 3) := by decide +kernel
theorem dX4_count_147 : decode cX4_count 147 = .ok (.aload_n 0, 1) := by decide +kernel
theorem dX4_count_148 : decode cX4_count 148 = .ok (.getfield 10, 3) := by decide +kernel
theorem dX4_count_151 : decode cX4_count 151 = .ok (.getfield 147, 3) := by decide +kernel
theorem dX4_count_154 : decode cX4_count 154 = .ok (.isub, 1) := by decide +kernel
theorem dX4_count_155 : decode cX4_count 155 = .ok (.ireturn, 1) := by decide +kernel
theorem dX4_count_156 : decode cX4_count 156 = .ok (.aload_n 0, 1) := by decide +kernel
theorem dX4_count_157 : decode cX4_count 157 = .ok (.getfield 10, 3) := by decide +kernel
theorem dX4_count_160 : decode cX4_count 160 = .ok (.getfield 150, 3) := by decide +kernel
theorem dX4_count_163 : decode cX4_count 163 = .ok (.ireturn, 1) := by decide +kernel
theorem dX4_count_164 : decode cX4_count 164 = .ok (.aload_n 0, 1) := by decide +kernel
theorem dX4_count_165 : decode cX4_count 165 = .ok (.getfield 38, 3) := by decide +kernel
theorem dX4_count_168 : decode cX4_count 168 = .ok (.getfield 167, 3) := by decide +kernel
theorem dX4_count_171 : decode cX4_count 171 = .ok (.ireturn, 1) := by decide +kernel
theorem dX4_count_172 : decode cX4_count 172 = .ok (.aload_n 0, 1) := by decide +kernel
theorem dX4_count_173 : decode cX4_count 173 = .ok (.getfield 52, 3) := by decide +kernel
theorem dX4_count_176 : decode cX4_count 176 = .ok (.getfield 161, 3) := by decide +kernel
theorem dX4_count_179 : decode cX4_count 179 = .ok (.ireturn, 1) := by decide +kernel
theorem dX4_count_180 : decode cX4_count 180 = .ok (.bipush (-102), 2) := by decide +kernel
theorem dX4_count_182 : decode cX4_count 182 = .ok (.ireturn, 1) := by decide +kernel
theorem dX4_isWithin_0 : decode cX4_isWithin 0 = .ok (.iload_n 0, 1) := by decide +kernel
theorem dX4_isWithin_1 : decode cX4_isWithin 1 = .ok (.iload_n 1, 1) := by decide +kernel
theorem dX4_isWithin_2 : decode cX4_isWithin 2 = .ok (.if_icmp .lt 12, 3) := by decide +kernel
theorem dX4_isWithin_5 : decode cX4_isWithin 5 = .ok (.iload_n 0, 1) := by decide +kernel
theorem dX4_isWithin_6 : decode cX4_isWithin 6 = .ok (.iload_n 2, 1) := by decide +kernel
theorem dX4_isWithin_7 : decode cX4_isWithin 7 = .ok (.if_icmp .gt 7, 3) := by decide +kernel
theorem dX4_isWithin_10 : decode cX4_isWithin 10 = .ok (.iconst 1, 1) := by decide +kernel
theorem dX4_isWithin_11 : decode cX4_isWithin 11 = .ok (.goto 4, 3) := by decide +kernel
theorem dX4_isWithin_14 : decode cX4_isWithin 14 = .ok (.iconst 0, 1) := by decide +kernel
theorem dX4_isWithin_15 : decode cX4_isWithin 15 = .ok (.ireturn, 1) := by decide +kernel
theorem dX4_isRidge_0 : decode cX4_isRidge 0 = .ok (.iload_n 0, 1) := by decide +kernel
theorem dX4_isRidge_1 : decode cX4_isRidge 1 = .ok (.iconst 0, 1) := by decide +kernel
theorem dX4_isRidge_2 : decode cX4_isRidge 2 = .ok (.bipush 11, 2) := by decide +kernel
theorem dX4_isRidge_4 : decode cX4_isRidge 4 = .ok (.invokestatic 63, 3) := by decide +kernel
theorem dX4_isRidge_7 : decode cX4_isRidge 7 = .ok (.ireturn, 1) := by decide +kernel
theorem dX4_isAngle_0 : decode cX4_isAngle 0 = .ok (.iload_n 0, 1) := by decide +kernel
theorem dX4_isAngle_1 : decode cX4_isAngle 1 = .ok (.bipush (-9), 2) := by decide +kernel
theorem dX4_isAngle_3 : decode cX4_isAngle 3 = .ok (.bipush 9, 2) := by decide +kernel
theorem dX4_isAngle_5 : decode cX4_isAngle 5 = .ok (.invokestatic 63, 3) := by decide +kernel
theorem dX4_isAngle_8 : decode cX4_isAngle 8 = .ok (.ireturn, 1) := by decide +kernel
theorem dX4_noneForNothing_0 : decode cX4_noneForNothing 0 = .ok (.iload_n 0, 1) := by decide +kernel
theorem dX4_noneForNothing_1 : decode cX4_noneForNothing 1 = .ok (.iconst (-1), 1) := by decide +kernel
theorem dX4_noneForNothing_2 : decode cX4_noneForNothing 2 = .ok (.if_icmp .ne 8, 3) := by decide +kernel
theorem dX4_noneForNothing_5 : decode cX4_noneForNothing 5 = .ok (.bipush (-105), 2) := by decide +kernel
theorem dX4_noneForNothing_7 : decode cX4_noneForNothing 7 = .ok (.goto 4, 3) := by decide +kernel
theorem dX4_noneForNothing_10 : decode cX4_noneForNothing 10 = .ok (.iload_n 0, 1) := by decide +kernel
theorem dX4_noneForNothing_11 : decode cX4_noneForNothing 11 = .ok (.ireturn, 1) := by decide +kernel
theorem dX4_copyNumbers_0 : decode cX4_copyNumbers 0 = .ok (.iconst 0, 1) := by decide +kernel
theorem dX4_copyNumbers_1 : decode cX4_copyNumbers 1 = .ok (.istore_n 2, 1) := by decide +kernel
theorem dX4_copyNumbers_2 : decode cX4_copyNumbers 2 = .ok (.iload_n 2, 1) := by decide +kernel
theorem dX4_copyNumbers_3 : decode cX4_copyNumbers 3 = .ok (.aload_n 0, 1) := by decide +kernel
theorem dX4_copyNumbers_4 : decode cX4_copyNumbers 4 = .ok (.arraylength, 1) := by decide +kernel
theorem dX4_copyNumbers_5 : decode cX4_copyNumbers 5 = .ok (.if_icmp .ge 21, 3) := by decide +kernel
theorem dX4_copyNumbers_8 : decode cX4_copyNumbers 8 = .ok (.iload_n 2, 1) := by decide +kernel
theorem dX4_copyNumbers_9 : decode cX4_copyNumbers 9 = .ok (.aload_n 1, 1) := by decide +kernel
theorem dX4_copyNumbers_10 : decode cX4_copyNumbers 10 = .ok (.arraylength, 1) := by decide +kernel
theorem dX4_copyNumbers_11 : decode cX4_copyNumbers 11 = .ok (.if_icmp .ge 15, 3) := by decide +kernel
theorem dX4_copyNumbers_14 : decode cX4_copyNumbers 14 = .ok (.aload_n 1, 1) := by decide +kernel
theorem dX4_copyNumbers_15 : decode cX4_copyNumbers 15 = .ok (.iload_n 2, 1) := by decide +kernel
theorem dX4_copyNumbers_16 : decode cX4_copyNumbers 16 = .ok (.aload_n 0, 1) := by decide +kernel
theorem dX4_copyNumbers_17 : decode cX4_copyNumbers 17 = .ok (.iload_n 2, 1) := by decide +kernel
theorem dX4_copyNumbers_18 : decode cX4_copyNumbers 18 = .ok (.iaload, 1) := by decide +kernel
theorem dX4_copyNumbers_19 : decode cX4_copyNumbers 19 = .ok (.iastore, 1) := by decide +kernel
theorem dX4_copyNumbers_20 : decode cX4_copyNumbers 20 = .ok (.iinc 2 1, 3) := by decide +kernel
theorem dX4_copyNumbers_23 : decode cX4_copyNumbers 23 = .ok (.goto (-21), 3) := by decide +kernel
theorem dX4_copyNumbers_26 : decode cX4_copyNumbers 26 = .ok (.return_, 1) := by decide +kernel
theorem dX4_look_0 : decode cX4_look 0 = .ok (.aload_n 0, 1) := by decide +kernel
theorem dX4_look_1 : decode cX4_look 1 = .ok (.getfield 21, 3) := by decide +kernel
theorem dX4_look_4 : decode cX4_look 4 = .ok (.invokevirtual 228, 3) := by decide +kernel
theorem dX4_look_7 : decode cX4_look 7 = .ok (.aload_n 0, 1) := by decide +kernel
theorem dX4_look_8 : decode cX4_look 8 = .ok (.getfield 21, 3) := by decide +kernel
theorem dX4_look_11 : decode cX4_look 11 = .ok (.areturn, 1) := by decide +kernel
theorem dX4_ghostsWithShift_0 : decode cX4_ghostsWithShift 0 = .ok (.aload_n 0, 1) := by decide +kernel
theorem dX4_ghostsWithShift_1 : decode cX4_ghostsWithShift 1 = .ok (.getfield 25, 3) := by decide +kernel
theorem dX4_ghostsWithShift_4 : decode cX4_ghostsWithShift 4 = .ok (.iload_n 1, 1) := by decide +kernel
theorem dX4_ghostsWithShift_5 : decode cX4_ghostsWithShift 5 = .ok (.putfield 109, 3) := by decide +kernel
theorem dX4_ghostsWithShift_8 : decode cX4_ghostsWithShift 8 = .ok (.aload_n 0, 1) := by decide +kernel
theorem dX4_ghostsWithShift_9 : decode cX4_ghostsWithShift 9 = .ok (.getfield 28, 3) := by decide +kernel
theorem dX4_ghostsWithShift_12 : decode cX4_ghostsWithShift 12 = .ok (.invokevirtual 228, 3) := by decide +kernel
theorem dX4_ghostsWithShift_15 : decode cX4_ghostsWithShift 15 = .ok (.aload_n 0, 1) := by decide +kernel
theorem dX4_ghostsWithShift_16 : decode cX4_ghostsWithShift 16 = .ok (.getfield 28, 3) := by decide +kernel
theorem dX4_ghostsWithShift_19 : decode cX4_ghostsWithShift 19 = .ok (.invokevirtual 130, 3) := by decide +kernel
theorem dX4_ghostsWithShift_22 : decode cX4_ghostsWithShift 22 = .ok (.ireturn, 1) := by decide +kernel
theorem dX4_findBestSlices_0 : decode cX4_findBestSlices 0 = .ok (.aload_n 0, 1) := by decide +kernel
theorem dX4_findBestSlices_1 : decode cX4_findBestSlices 1 = .ok (.getfield 25, 3) := by decide +kernel
theorem dX4_findBestSlices_4 : decode cX4_findBestSlices 4 = .ok (.aload_n 0, 1) := by decide +kernel
theorem dX4_findBestSlices_5 : decode cX4_findBestSlices 5 = .ok (.getfield 10, 3) := by decide +kernel
theorem dX4_findBestSlices_8 : decode cX4_findBestSlices 8 = .ok (.invokevirtual 173, 3) := by decide +kernel
theorem dX4_findBestSlices_11 : decode cX4_findBestSlices 11 = .ok (.aload_n 0, 1) := by decide +kernel
theorem dX4_findBestSlices_12 : decode cX4_findBestSlices 12 = .ok (.getfield 25, 3) := by decide +kernel
theorem dX4_findBestSlices_15 : decode cX4_findBestSlices 15 = .ok (.invokevirtual 234, 3) := by decide +kernel
theorem dX4_findBestSlices_18 : decode cX4_findBestSlices 18 = .ok (.aload_n 0, 1) := by decide +kernel
theorem dX4_findBestSlices_19 : decode cX4_findBestSlices 19 = .ok (.getfield 28, 3) := by decide +kernel
theorem dX4_findBestSlices_22 : decode cX4_findBestSlices 22 = .ok (.invokevirtual 228, 3) := by decide +kernel
theorem dX4_findBestSlices_25 : decode cX4_findBestSlices 25 = .ok (.aload_n 0, 1) := by decide +kernel
theorem dX4_findBestSlices_26 : decode cX4_findBestSlices 26 = .ok (.getfield 25, 3) := by decide +kernel
theorem dX4_findBestSlices_29 : decode cX4_findBestSlices 29 = .ok (.getfield 92, 3) := by decide +kernel
theorem dX4_findBestSlices_32 : decode cX4_findBestSlices 32 = .ok (.aload_n 0, 1) := by decide +kernel
theorem dX4_findBestSlices_33 : decode cX4_findBestSlices 33 = .ok (.getfield 25, 3) := by decide +kernel
theorem dX4_findBestSlices_36 : decode cX4_findBestSlices 36 = .ok (.getfield 78, 3) := by decide +kernel
theorem dX4_findBestSlices_39 : decode cX4_findBestSlices 39 = .ok (.if_icmp .lt 7, 3) := by decide +kernel
theorem dX4_findBestSlices_42 : decode cX4_findBestSlices 42 = .ok (.iconst 1, 1) := by decide +kernel
theorem dX4_findBestSlices_43 : decode cX4_findBestSlices 43 = .ok (.goto 4, 3) := by decide +kernel
theorem dX4_findBestSlices_46 : decode cX4_findBestSlices 46 = .ok (.iconst 0, 1) := by decide +kernel
theorem dX4_findBestSlices_47 : decode cX4_findBestSlices 47 = .ok (.istore_n 1, 1) := by decide +kernel
theorem dX4_findBestSlices_48 : decode cX4_findBestSlices 48 = .ok (.iconst 0, 1) := by decide +kernel
theorem dX4_findBestSlices_49 : decode cX4_findBestSlices 49 = .ok (.istore_n 2, 1) := by decide +kernel
theorem dX4_findBestSlices_50 : decode cX4_findBestSlices 50 = .ok (.iconst 0, 1) := by decide +kernel
theorem dX4_findBestSlices_51 : decode cX4_findBestSlices 51 = .ok (.istore_n 3, 1) := by decide +kernel
theorem dX4_findBestSlices_52 : decode cX4_findBestSlices 52 = .ok (.iconst 1, 1) := by decide +kernel
theorem dX4_findBestSlices_53 : decode cX4_findBestSlices 53 = .ok (.istore 4, 2) := by decide +kernel
theorem dX4_findBestSlices_55 : decode cX4_findBestSlices 55 = .ok (.iconst 0, 1) := by decide +kernel
theorem dX4_findBestSlices_56 : decode cX4_findBestSlices 56 = .ok (.istore 5, 2) := by decide +kernel
theorem dX4_findBestSlices_58 : decode cX4_findBestSlices 58 = .ok (.iload 4, 2) := by decide +kernel
theorem dX4_findBestSlices_60 : decode cX4_findBestSlices 60 = .ok (.ifCond .eq 78, 3) := by decide +kernel
theorem dX4_findBestSlices_63 : decode cX4_findBestSlices 63 = .ok (.iload 5, 2) := by decide +kernel
theorem dX4_findBestSlices_65 : decode cX4_findBestSlices 65 = .ok (.sipush 5000, 3) := by decide +kernel
theorem dX4_findBestSlices_68 : decode cX4_findBestSlices 68 = .ok (.if_icmp .ge 70, 3) := by decide +kernel
theorem dX4_findBestSlices_71 : decode cX4_findBestSlices 71 = .ok (.iload_n 1, 1) := by decide +kernel
theorem dX4_findBestSlices_72 : decode cX4_findBestSlices 72 = .ok (.ifCond .eq 13, 3) := by decide +kernel
theorem dX4_findBestSlices_75 : decode cX4_findBestSlices 75 = .ok (.aload_n 0, 1) := by decide +kernel
theorem dX4_findBestSlices_76 : decode cX4_findBestSlices 76 = .ok (.getfield 25, 3) := by decide +kernel
theorem dX4_findBestSlices_79 : decode cX4_findBestSlices 79 = .ok (.invokevirtual 237, 3) := by decide +kernel
theorem dX4_findBestSlices_82 : decode cX4_findBestSlices 82 = .ok (.ifCond .eq 41, 3) := by decide +kernel
theorem dX4_findBestSlices_85 : decode cX4_findBestSlices 85 = .ok (.aload_n 0, 1) := by decide +kernel
theorem dX4_findBestSlices_86 : decode cX4_findBestSlices 86 = .ok (.getfield 28, 3) := by decide +kernel
theorem dX4_findBestSlices_89 : decode cX4_findBestSlices 89 = .ok (.invokevirtual 130, 3) := by decide +kernel
theorem dX4_findBestSlices_92 : decode cX4_findBestSlices 92 = .ok (.istore 6, 2) := by decide +kernel
theorem dX4_findBestSlices_94 : decode cX4_findBestSlices 94 = .ok (.iload_n 2, 1) := by decide +kernel
theorem dX4_findBestSlices_95 : decode cX4_findBestSlices 95 = .ok (.ifCond .eq 9, 3) := by decide +kernel
theorem dX4_findBestSlices_98 : decode cX4_findBestSlices 98 = .ok (.iload 6, 2) := by decide +kernel
theorem dX4_findBestSlices_100 : decode cX4_findBestSlices 100 = .ok (.iload_n 3, 1) := by decide +kernel
theorem dX4_findBestSlices_101 : decode cX4_findBestSlices 101 = .ok (.if_icmp .ge 22, 3) := by decide +kernel
theorem dX4_findBestSlices_104 : decode cX4_findBestSlices 104 = .ok (.iconst 1, 1) := by decide +kernel
theorem dX4_findBestSlices_105 : decode cX4_findBestSlices 105 = .ok (.istore_n 2, 1) := by decide +kernel
theorem dX4_findBestSlices_106 : decode cX4_findBestSlices 106 = .ok (.iload 6, 2) := by decide +kernel
theorem dX4_findBestSlices_108 : decode cX4_findBestSlices 108 = .ok (.istore_n 3, 1) := by decide +kernel
theorem dX4_findBestSlices_109 : decode cX4_findBestSlices 109 = .ok (.aload_n 0, 1) := by decide +kernel
theorem dX4_findBestSlices_110 : decode cX4_findBestSlices 110 = .ok (.getfield 25, 3) := by decide +kernel
theorem dX4_findBestSlices_113 : decode cX4_findBestSlices 113 = .ok (.getfield 240, 3) := by decide +kernel
theorem dX4_findBestSlices_116 : decode cX4_findBestSlices 116 = .ok (.aload_n 0, 1) := by decide +kernel
theorem dX4_findBestSlices_117 : decode cX4_findBestSlices 117 = .ok (.getfield 31, 3) := by decide +kernel
theorem dX4_findBestSlices_120 : decode cX4_findBestSlices 120 = .ok (.invokestatic 243, 3) := by decide +kernel
theorem dX4_findBestSlices_123 : decode cX4_findBestSlices 123 = .ok (.aload_n 0, 1) := by decide +kernel
theorem dX4_findBestSlices_124 : decode cX4_findBestSlices 124 = .ok (.getfield 25, 3) := by decide +kernel
theorem dX4_findBestSlices_127 : decode cX4_findBestSlices 127 = .ok (.invokevirtual 247, 3) := by decide +kernel
theorem dX4_findBestSlices_130 : decode cX4_findBestSlices 130 = .ok (.istore 4, 2) := by decide +kernel
theorem dX4_findBestSlices_132 : decode cX4_findBestSlices 132 = .ok (.iinc 5 1, 3) := by decide +kernel
theorem dX4_findBestSlices_135 : decode cX4_findBestSlices 135 = .ok (.goto (-77), 3) := by decide +kernel
theorem dX4_findBestSlices_138 : decode cX4_findBestSlices 138 = .ok (.return_, 1) := by decide +kernel
theorem dX5_init_0 : decode cX5_init 0 = .ok (.aload_n 0, 1) := by decide +kernel
theorem dX5_init_1 : decode cX5_init 1 = .ok (.invokespecial 1, 3) := by decide +kernel
theorem dX5_init_4 : decode cX5_init 4 = .ok (.aload_n 0, 1) := by decide +kernel
theorem dX5_init_5 : decode cX5_init 5 = .ok (.bipush 61, 2) := by decide +kernel
theorem dX5_init_7 : decode cX5_init 7 = .ok (.newarray .int, 2) := by decide +kernel
theorem dX5_init_9 : decode cX5_init 9 = .ok (.putfield 7, 3) := by decide +kernel
theorem dX5_init_12 : decode cX5_init 12 = .ok (.aload_n 0, 1) := by decide +kernel
theorem dX5_init_13 : decode cX5_init 13 = .ok (.bipush 61, 2) := by decide +kernel
theorem dX5_init_15 : decode cX5_init 15 = .ok (.newarray .int, 2) := by decide +kernel
theorem dX5_init_17 : decode cX5_init 17 = .ok (.putfield 13, 3) := by decide +kernel
theorem dX5_init_20 : decode cX5_init 20 = .ok (.aload_n 0, 1) := by decide +kernel
theorem dX5_init_21 : decode cX5_init 21 = .ok (.sipush 244, 3) := by decide +kernel
theorem dX5_init_24 : decode cX5_init 24 = .ok (.newarray .int, 2) := by decide +kernel
theorem dX5_init_26 : decode cX5_init 26 = .ok (.putfield 16, 3) := by decide +kernel
theorem dX5_init_29 : decode cX5_init 29 = .ok (.aload_n 0, 1) := by decide +kernel
theorem dX5_init_30 : decode cX5_init 30 = .ok (.bipush 61, 2) := by decide +kernel
theorem dX5_init_32 : decode cX5_init 32 = .ok (.newarray .int, 2) := by decide +kernel
theorem dX5_init_34 : decode cX5_init 34 = .ok (.putfield 19, 3) := by decide +kernel
theorem dX5_init_37 : decode cX5_init 37 = .ok (.aload_n 0, 1) := by decide +kernel
theorem dX5_init_38 : decode cX5_init 38 = .ok (.sipush 228, 3) := by decide +kernel
theorem dX5_init_41 : decode cX5_init 41 = .ok (.newarray .int, 2) := by decide +kernel
theorem dX5_init_43 : decode cX5_init 43 = .ok (.putfield 22, 3) := by decide +kernel
theorem dX5_init_46 : decode cX5_init 46 = .ok (.aload_n 0, 1) := by decide +kernel
theorem dX5_init_47 : decode cX5_init 47 = .ok (.bipush 6, 2) := by decide +kernel
theorem dX5_init_49 : decode cX5_init 49 = .ok (.newarray .int, 2) := by decide +kernel
theorem dX5_init_51 : decode cX5_init 51 = .ok (.putfield 25, 3) := by decide +kernel
theorem dX5_init_54 : decode cX5_init 54 = .ok (.aload_n 0, 1) := by decide +kernel
theorem dX5_init_55 : decode cX5_init 55 = .ok (.bipush 6, 2) := by decide +kernel
theorem dX5_init_57 : decode cX5_init 57 = .ok (.newarray .int, 2) := by decide +kernel
theorem dX5_init_59 : decode cX5_init 59 = .ok (.putfield 28, 3) := by decide +kernel
theorem dX5_init_62 : decode cX5_init 62 = .ok (.aload_n 0, 1) := by decide +kernel
theorem dX5_init_63 : decode cX5_init 63 = .ok (.bipush 80, 2) := by decide +kernel
theorem dX5_init_65 : decode cX5_init 65 = .ok (.newarray .int, 2) := by decide +kernel
theorem dX5_init_67 : decode cX5_init 67 = .ok (.putfield 31, 3) := by decide +kernel
theorem dX5_init_70 : decode cX5_init 70 = .ok (.aload_n 0, 1) := by decide +kernel
theorem dX5_init_71 : decode cX5_init 71 = .ok (.getfield 7, 3) := by decide +kernel
theorem dX5_init_74 : decode cX5_init 74 = .ok (.iconst 0, 1) := by decide +kernel
theorem dX5_init_75 : decode cX5_init 75 = .ok (.iconst 2, 1) := by decide +kernel
theorem dX5_init_76 : decode cX5_init 76 = .ok (.iastore, 1) := by decide +kernel
theorem dX5_init_77 : decode cX5_init 77 = .ok (.aload_n 0, 1) := by decide +kernel
theorem dX5_init_78 : decode cX5_init 78 = .ok (.getfield 7, 3) := by decide +kernel
theorem dX5_init_81 : decode cX5_init 81 = .ok (.iconst 1, 1) := by decide +kernel
theorem dX5_init_82 : decode cX5_init 82 = .ok (.iconst 2, 1) := by decide +kernel
theorem dX5_init_83 : decode cX5_init 83 = .ok (.iastore, 1) := by decide +kernel
theorem dX5_init_84 : decode cX5_init 84 = .ok (.aload_n 0, 1) := by decide +kernel
theorem dX5_init_85 : decode cX5_init 85 = .ok (.invokevirtual 34, 3) := by decide +kernel
theorem dX5_init_88 : decode cX5_init 88 = .ok (.return_, 1) := by decide +kernel
theorem dX5_in_0 : decode cX5_in 0 = .ok (.lload_n 0, 1) := by decide +kernel
theorem dX5_in_1 : decode cX5_in 1 = .ok (.lload_n 2, 1) := by decide +kernel
theorem dX5_in_2 : decode cX5_in 2 = .ok (.lcmp, 1) := by decide +kernel
theorem dX5_in_3 : decode cX5_in 3 = .ok (.ifCond .lt 14, 3) := by decide +kernel
theorem dX5_in_6 : decode cX5_in 6 = .ok (.lload_n 0, 1) := by decide +kernel
theorem dX5_in_7 : decode cX5_in 7 = .ok (.lload 4, 2) := by decide +kernel
theorem dX5_in_9 : decode cX5_in 9 = .ok (.lcmp, 1) := by decide +kernel
theorem dX5_in_10 : decode cX5_in 10 = .ok (.ifCond .gt 7, 3) := by decide +kernel
theorem dX5_in_13 : decode cX5_in 13 = .ok (.iconst 1, 1) := by decide +kernel
theorem dX5_in_14 : decode cX5_in 14 = .ok (.goto 4, 3) := by decide +kernel
theorem dX5_in_17 : decode cX5_in 17 = .ok (.iconst 0, 1) := by decide +kernel
theorem dX5_in_18 : decode cX5_in 18 = .ok (.ireturn, 1) := by decide +kernel
theorem dX5_remember_0 : decode cX5_remember 0 = .ok (.iconst 0, 1) := by decide +kernel
theorem dX5_remember_1 : decode cX5_remember 1 = .ok (.istore_n 1, 1) := by decide +kernel
theorem dX5_remember_2 : decode cX5_remember 2 = .ok (.iload_n 1, 1) := by decide +kernel
theorem dX5_remember_3 : decode cX5_remember 3 = .ok (.bipush 61, 2) := by decide +kernel
theorem dX5_remember_5 : decode cX5_remember 5 = .ok (.if_icmp .ge 21, 3) := by decide +kernel
theorem dX5_remember_8 : decode cX5_remember 8 = .ok (.aload_n 0, 1) := by decide +kernel
theorem dX5_remember_9 : decode cX5_remember 9 = .ok (.getfield 13, 3) := by decide +kernel
theorem dX5_remember_12 : decode cX5_remember 12 = .ok (.iload_n 1, 1) := by decide +kernel
theorem dX5_remember_13 : decode cX5_remember 13 = .ok (.aload_n 0, 1) := by decide +kernel
theorem dX5_remember_14 : decode cX5_remember 14 = .ok (.getfield 7, 3) := by decide +kernel
theorem dX5_remember_17 : decode cX5_remember 17 = .ok (.iload_n 1, 1) := by decide +kernel
theorem dX5_remember_18 : decode cX5_remember 18 = .ok (.iaload, 1) := by decide +kernel
theorem dX5_remember_19 : decode cX5_remember 19 = .ok (.iastore, 1) := by decide +kernel
theorem dX5_remember_20 : decode cX5_remember 20 = .ok (.iinc 1 1, 3) := by decide +kernel
theorem dX5_remember_23 : decode cX5_remember 23 = .ok (.goto (-21), 3) := by decide +kernel
theorem dX5_remember_26 : decode cX5_remember 26 = .ok (.return_, 1) := by decide +kernel
theorem dX5_acted_0 : decode cX5_acted 0 = .ok (.aload_n 0, 1) := by decide +kernel
theorem dX5_acted_1 : decode cX5_acted 1 = .ok (.getfield 37, 3) := by decide +kernel
theorem dX5_acted_4 : decode cX5_acted 4 = .ok (.iconst 4, 1) := by decide +kernel
theorem dX5_acted_5 : decode cX5_acted 5 = .ok (.if_icmp .ne 43, 3) := by decide +kernel
theorem dX5_acted_8 : decode cX5_acted 8 = .ok (.iconst 0, 1) := by decide +kernel
theorem dX5_acted_9 : decode cX5_acted 9 = .ok (.istore_n 2, 1) := by decide +kernel
theorem dX5_acted_10 : decode cX5_acted 10 = .ok (.iload_n 2, 1) := by decide +kernel
theorem dX5_acted_11 : decode cX5_acted 11 = .ok (.sipush 183, 3) := by decide +kernel
theorem dX5_acted_14 : decode cX5_acted 14 = .ok (.if_icmp .ge 24, 3) := by decide +kernel
theorem dX5_acted_17 : decode cX5_acted 17 = .ok (.aload_n 0, 1) := by decide +kernel
theorem dX5_acted_18 : decode cX5_acted 18 = .ok (.getfield 16, 3) := by decide +kernel
theorem dX5_acted_21 : decode cX5_acted 21 = .ok (.iload_n 2, 1) := by decide +kernel
theorem dX5_acted_22 : decode cX5_acted 22 = .ok (.aload_n 0, 1) := by decide +kernel
theorem dX5_acted_23 : decode cX5_acted 23 = .ok (.getfield 16, 3) := by decide +kernel
theorem dX5_acted_26 : decode cX5_acted 26 = .ok (.iload_n 2, 1) := by decide +kernel
theorem dX5_acted_27 : decode cX5_acted 27 = .ok (.bipush 61, 2) := by decide +kernel
theorem dX5_acted_29 : decode cX5_acted 29 = .ok (.iadd, 1) := by decide +kernel
theorem dX5_acted_30 : decode cX5_acted 30 = .ok (.iaload, 1) := by decide +kernel
theorem dX5_acted_31 : decode cX5_acted 31 = .ok (.iastore, 1) := by decide +kernel
theorem dX5_acted_32 : decode cX5_acted 32 = .ok (.iinc 2 1, 3) := by decide +kernel
theorem dX5_acted_35 : decode cX5_acted 35 = .ok (.goto (-25), 3) := by decide +kernel
theorem dX5_acted_38 : decode cX5_acted 38 = .ok (.aload_n 0, 1) := by decide +kernel
theorem dX5_acted_39 : decode cX5_acted 39 = .ok (.dup, 1) := by decide +kernel
theorem dX5_acted_40 : decode cX5_acted 40 = .ok (.getfield 37, 3) := by decide +kernel
theorem dX5_acted_43 : decode cX5_acted 43 = .ok (.iconst 1, 1) := by decide +kernel
theorem dX5_acted_44 : decode cX5_acted 44 = .ok (.isub, 1) := by decide +kernel
theorem dX5_acted_45 : decode cX5_acted 45 = .ok (.putfield 37, 3) := by decide +kernel
theorem dX5_acted_48 : decode cX5_acted 48 = .ok (.iconst 0, 1) := by decide +kernel
theorem dX5_acted_49 : decode cX5_acted 49 = .ok (.istore_n 2, 1) := by decide +kernel
theorem dX5_acted_50 : decode cX5_acted 50 = .ok (.iload_n 2, 1) := by decide +kernel
theorem dX5_acted_51 : decode cX5_acted 51 = .ok (.bipush 61, 2) := by decide +kernel
theorem dX5_acted_53 : decode cX5_acted 53 = .ok (.if_icmp .ge 29, 3) := by decide +kernel
theorem dX5_acted_56 : decode cX5_acted 56 = .ok (.aload_n 0, 1) := by decide +kernel
theorem dX5_acted_57 : decode cX5_acted 57 = .ok (.getfield 16, 3) := by decide +kernel
theorem dX5_acted_60 : decode cX5_acted 60 = .ok (.bipush 61, 2) := by decide +kernel
theorem dX5_acted_62 : decode cX5_acted 62 = .ok (.aload_n 0, 1) := by decide +kernel
theorem dX5_acted_63 : decode cX5_acted 63 = .ok (.getfield 37, 3) := by decide +kernel
theorem dX5_acted_66 : decode cX5_acted 66 = .ok (.imul, 1) := by decide +kernel
theorem dX5_acted_67 : decode cX5_acted 67 = .ok (.iload_n 2, 1) := by decide +kernel
theorem dX5_acted_68 : decode cX5_acted 68 = .ok (.iadd, 1) := by decide +kernel
theorem dX5_acted_69 : decode cX5_acted 69 = .ok (.aload_n 0, 1) := by decide +kernel
theorem dX5_acted_70 : decode cX5_acted 70 = .ok (.getfield 13, 3) := by decide +kernel
theorem dX5_acted_73 : decode cX5_acted 73 = .ok (.iload_n 2, 1) := by decide +kernel
theorem dX5_acted_74 : decode cX5_acted 74 = .ok (.iaload, 1) := by decide +kernel
theorem dX5_acted_75 : decode cX5_acted 75 = .ok (.iastore, 1) := by decide +kernel
theorem dX5_acted_76 : decode cX5_acted 76 = .ok (.iinc 2 1, 3) := by decide +kernel
theorem dX5_acted_79 : decode cX5_acted 79 = .ok (.goto (-29), 3) := by decide +kernel
theorem dX5_acted_82 : decode cX5_acted 82 = .ok (.aload_n 0, 1) := by decide +kernel
theorem dX5_acted_83 : decode cX5_acted 83 = .ok (.dup, 1) := by decide +kernel
theorem dX5_acted_84 : decode cX5_acted 84 = .ok (.getfield 37, 3) := by decide +kernel
theorem dX5_acted_87 : decode cX5_acted 87 = .ok (.iconst 1, 1) := by decide +kernel
theorem dX5_acted_88 : decode cX5_acted 88 = .ok (.iadd, 1) := by decide +kernel
theorem dX5_acted_89 : decode cX5_acted 89 = .ok (.putfield 37, 3) := by decide +kernel
theorem dX5_acted_92 : decode cX5_acted 92 = .ok (.iload_n 1, 1) := by decide +kernel
theorem dX5_acted_93 : decode cX5_acted 93 = .ok (.ireturn, 1) := by decide +kernel
theorem dX5_isView_0 : decode cX5_isView 0 = .ok (.iload_n 1, 1) := by decide +kernel
theorem dX5_isView_1 : decode cX5_isView 1 = .ok (.i2l, 1) := by decide +kernel
theorem dX5_isView_2 : decode cX5_isView 2 = .ok (.lconst 0, 1) := by decide +kernel
end
section
theorem dX5_isView_3 : decode cX5_isView 3 = .ok (.aload_n 0, 1) := by decide +kernel
theorem dX5_isView_4 : decode cX5_isView 4 = .ok (.getfield 7, 3) := by decide +kernel
theorem dX5_isView_7 : decode cX5_isView 7 = .ok (.iconst 0, 1) := by decide +kernel
theorem dX5_isView_8 : decode cX5_isView 8 = .ok (.iaload, 1) := by decide +kernel
theorem dX5_isView_9 : decode cX5_isView 9 = .ok (.i2l, 1) := by decide +kernel
theorem dX5_isView_10 : decode cX5_isView 10 = .ok (.lconst 1, 1) := by decide +kernel
theorem dX5_isView_11 : decode cX5_isView 11 = .ok (.lsub, 1) := by decide +kernel
theorem dX5_isView_12 : decode cX5_isView 12 = .ok (.invokestatic 41, 3) := by decide +kernel
theorem dX5_isView_15 : decode cX5_isView 15 = .ok (.ireturn, 1) := by decide +kernel
theorem dX5_isRidge_0 : decode cX5_isRidge 0 = .ok (.iload_n 0, 1) := by decide +kernel
theorem dX5_isRidge_1 : decode cX5_isRidge 1 = .ok (.i2l, 1) := by decide +kernel
theorem dX5_isRidge_2 : decode cX5_isRidge 2 = .ok (.lconst 0, 1) := by decide +kernel
theorem dX5_isRidge_3 : decode cX5_isRidge 3 = .ok (.ldc2_w 45, 3) := by decide +kernel
theorem dX5_isRidge_6 : decode cX5_isRidge 6 = .ok (.invokestatic 41, 3) := by decide +kernel
theorem dX5_isRidge_9 : decode cX5_isRidge 9 = .ok (.ireturn, 1) := by decide +kernel
theorem dX5_isSlice_0 : decode cX5_isSlice 0 = .ok (.iload_n 1, 1) := by decide +kernel
theorem dX5_isSlice_1 : decode cX5_isSlice 1 = .ok (.i2l, 1) := by decide +kernel
theorem dX5_isSlice_2 : decode cX5_isSlice 2 = .ok (.lconst 0, 1) := by decide +kernel
theorem dX5_isSlice_3 : decode cX5_isSlice 3 = .ok (.aload_n 0, 1) := by decide +kernel
theorem dX5_isSlice_4 : decode cX5_isSlice 4 = .ok (.getfield 7, 3) := by decide +kernel
theorem dX5_isSlice_7 : decode cX5_isSlice 7 = .ok (.iconst 1, 1) := by decide +kernel
theorem dX5_isSlice_8 : decode cX5_isSlice 8 = .ok (.iaload, 1) := by decide +kernel
theorem dX5_isSlice_9 : decode cX5_isSlice 9 = .ok (.i2l, 1) := by decide +kernel
theorem dX5_isSlice_10 : decode cX5_isSlice 10 = .ok (.lconst 1, 1) := by decide +kernel
theorem dX5_isSlice_11 : decode cX5_isSlice 11 = .ok (.lsub, 1) := by decide +kernel
theorem dX5_isSlice_12 : decode cX5_isSlice 12 = .ok (.invokestatic 41, 3) := by decide +kernel
theorem dX5_isSlice_15 : decode cX5_isSlice 15 = .ok (.ireturn, 1) := by decide +kernel
theorem dX5_isAngle_0 : decode cX5_isAngle 0 = .ok (.iload_n 0, 1) := by decide +kernel
theorem dX5_isAngle_1 : decode cX5_isAngle 1 = .ok (.i2l, 1) := by decide +kernel
theorem dX5_isAngle_2 : decode cX5_isAngle 2 = .ok (.ldc2_w 47, 3) := by decide +kernel
theorem dX5_isAngle_5 : decode cX5_isAngle 5 = .ok (.ldc2_w 49, 3) := by decide +kernel
theorem dX5_isAngle_8 : decode cX5_isAngle 8 = .ok (.invokestatic 41, 3) := by decide +kernel
theorem dX5_isAngle_11 : decode cX5_isAngle 11 = .ok (.ireturn, 1) := by decide +kernel
theorem dX5_colourAt_0 : decode cX5_colourAt 0 = .ok (.aload_n 0, 1) := by decide +kernel
theorem dX5_colourAt_1 : decode cX5_colourAt 1 = .ok (.getfield 7, 3) := by decide +kernel
theorem dX5_colourAt_4 : decode cX5_colourAt 4 = .ok (.bipush 13, 2) := by decide +kernel
theorem dX5_colourAt_6 : decode cX5_colourAt 6 = .ok (.bipush 12, 2) := by decide +kernel
theorem dX5_colourAt_8 : decode cX5_colourAt 8 = .ok (.iload_n 1, 1) := by decide +kernel
theorem dX5_colourAt_9 : decode cX5_colourAt 9 = .ok (.imul, 1) := by decide +kernel
theorem dX5_colourAt_10 : decode cX5_colourAt 10 = .ok (.iadd, 1) := by decide +kernel
theorem dX5_colourAt_11 : decode cX5_colourAt 11 = .ok (.iload_n 2, 1) := by decide +kernel
theorem dX5_colourAt_12 : decode cX5_colourAt 12 = .ok (.iadd, 1) := by decide +kernel
theorem dX5_colourAt_13 : decode cX5_colourAt 13 = .ok (.iaload, 1) := by decide +kernel
theorem dX5_colourAt_14 : decode cX5_colourAt 14 = .ok (.ireturn, 1) := by decide +kernel
theorem dX5_ordersAsFirst_0 : decode cX5_ordersAsFirst 0 = .ok (.iconst 0, 1) := by decide +kernel
theorem dX5_ordersAsFirst_1 : decode cX5_ordersAsFirst 1 = .ok (.istore_n 1, 1) := by decide +kernel
theorem dX5_ordersAsFirst_2 : decode cX5_ordersAsFirst 2 = .ok (.iload_n 1, 1) := by decide +kernel
theorem dX5_ordersAsFirst_3 : decode cX5_ordersAsFirst 3 = .ok (.bipush 6, 2) := by decide +kernel
theorem dX5_ordersAsFirst_5 : decode cX5_ordersAsFirst 5 = .ok (.if_icmp .ge 40, 3) := by decide +kernel
theorem dX5_ordersAsFirst_8 : decode cX5_ordersAsFirst 8 = .ok (.aload_n 0, 1) := by decide +kernel
theorem dX5_ordersAsFirst_9 : decode cX5_ordersAsFirst 9 = .ok (.getfield 7, 3) := by decide +kernel
theorem dX5_ordersAsFirst_12 : decode cX5_ordersAsFirst 12 = .ok (.bipush 7, 2) := by decide +kernel
theorem dX5_ordersAsFirst_14 : decode cX5_ordersAsFirst 14 = .ok (.iload_n 1, 1) := by decide +kernel
theorem dX5_ordersAsFirst_15 : decode cX5_ordersAsFirst 15 = .ok (.iadd, 1) := by decide +kernel
theorem dX5_ordersAsFirst_16 : decode cX5_ordersAsFirst 16 = .ok (.iload_n 1, 1) := by decide +kernel
theorem dX5_ordersAsFirst_17 : decode cX5_ordersAsFirst 17 = .ok (.aload_n 0, 1) := by decide +kernel
theorem dX5_ordersAsFirst_18 : decode cX5_ordersAsFirst 18 = .ok (.getfield 7, 3) := by decide +kernel
theorem dX5_ordersAsFirst_21 : decode cX5_ordersAsFirst 21 = .ok (.iconst 1, 1) := by decide +kernel
theorem dX5_ordersAsFirst_22 : decode cX5_ordersAsFirst 22 = .ok (.iaload, 1) := by decide +kernel
theorem dX5_ordersAsFirst_23 : decode cX5_ordersAsFirst 23 = .ok (.if_icmp .ge 14, 3) := by decide +kernel
theorem dX5_ordersAsFirst_26 : decode cX5_ordersAsFirst 26 = .ok (.iload_n 1, 1) := by decide +kernel
theorem dX5_ordersAsFirst_27 : decode cX5_ordersAsFirst 27 = .ok (.aload_n 0, 1) := by decide +kernel
theorem dX5_ordersAsFirst_28 : decode cX5_ordersAsFirst 28 = .ok (.getfield 7, 3) := by decide +kernel
theorem dX5_ordersAsFirst_31 : decode cX5_ordersAsFirst 31 = .ok (.iconst 0, 1) := by decide +kernel
theorem dX5_ordersAsFirst_32 : decode cX5_ordersAsFirst 32 = .ok (.iaload, 1) := by decide +kernel
theorem dX5_ordersAsFirst_33 : decode cX5_ordersAsFirst 33 = .ok (.irem, 1) := by decide +kernel
theorem dX5_ordersAsFirst_34 : decode cX5_ordersAsFirst 34 = .ok (.goto 4, 3) := by decide +kernel
theorem dX5_ordersAsFirst_37 : decode cX5_ordersAsFirst 37 = .ok (.iconst 0, 1) := by decide +kernel
theorem dX5_ordersAsFirst_38 : decode cX5_ordersAsFirst 38 = .ok (.iastore, 1) := by decide +kernel
theorem dX5_ordersAsFirst_39 : decode cX5_ordersAsFirst 39 = .ok (.iinc 1 1, 3) := by decide +kernel
theorem dX5_ordersAsFirst_42 : decode cX5_ordersAsFirst 42 = .ok (.goto (-40), 3) := by decide +kernel
theorem dX5_ordersAsFirst_45 : decode cX5_ordersAsFirst 45 = .ok (.return_, 1) := by decide +kernel
theorem dX5_dueAt_0 : decode cX5_dueAt 0 = .ok (.iload_n 1, 1) := by decide +kernel
theorem dX5_dueAt_1 : decode cX5_dueAt 1 = .ok (.aload_n 0, 1) := by decide +kernel
theorem dX5_dueAt_2 : decode cX5_dueAt 2 = .ok (.getfield 7, 3) := by decide +kernel
theorem dX5_dueAt_5 : decode cX5_dueAt 5 = .ok (.iconst 1, 1) := by decide +kernel
theorem dX5_dueAt_6 : decode cX5_dueAt 6 = .ok (.iaload, 1) := by decide +kernel
theorem dX5_dueAt_7 : decode cX5_dueAt 7 = .ok (.imul, 1) := by decide +kernel
theorem dX5_dueAt_8 : decode cX5_dueAt 8 = .ok (.iload_n 2, 1) := by decide +kernel
theorem dX5_dueAt_9 : decode cX5_dueAt 9 = .ok (.iadd, 1) := by decide +kernel
theorem dX5_dueAt_10 : decode cX5_dueAt 10 = .ok (.aload_n 0, 1) := by decide +kernel
theorem dX5_dueAt_11 : decode cX5_dueAt 11 = .ok (.getfield 7, 3) := by decide +kernel
theorem dX5_dueAt_14 : decode cX5_dueAt 14 = .ok (.iconst 2, 1) := by decide +kernel
theorem dX5_dueAt_15 : decode cX5_dueAt 15 = .ok (.iaload, 1) := by decide +kernel
theorem dX5_dueAt_16 : decode cX5_dueAt 16 = .ok (.isub, 1) := by decide +kernel
theorem dX5_dueAt_17 : decode cX5_dueAt 17 = .ok (.istore_n 3, 1) := by decide +kernel
theorem dX5_dueAt_18 : decode cX5_dueAt 18 = .ok (.iload_n 3, 1) := by decide +kernel
theorem dX5_dueAt_19 : decode cX5_dueAt 19 = .ok (.i2l, 1) := by decide +kernel
theorem dX5_dueAt_20 : decode cX5_dueAt 20 = .ok (.lconst 0, 1) := by decide +kernel
theorem dX5_dueAt_21 : decode cX5_dueAt 21 = .ok (.ldc2_w 51, 3) := by decide +kernel
theorem dX5_dueAt_24 : decode cX5_dueAt 24 = .ok (.aload_n 0, 1) := by decide +kernel
theorem dX5_dueAt_25 : decode cX5_dueAt 25 = .ok (.getfield 7, 3) := by decide +kernel
theorem dX5_dueAt_28 : decode cX5_dueAt 28 = .ok (.iconst 1, 1) := by decide +kernel
theorem dX5_dueAt_29 : decode cX5_dueAt 29 = .ok (.iaload, 1) := by decide +kernel
theorem dX5_dueAt_30 : decode cX5_dueAt 30 = .ok (.i2l, 1) := by decide +kernel
theorem dX5_dueAt_31 : decode cX5_dueAt 31 = .ok (.lmul, 1) := by decide +kernel
theorem dX5_dueAt_32 : decode cX5_dueAt 32 = .ok (.lconst 1, 1) := by decide +kernel
theorem dX5_dueAt_33 : decode cX5_dueAt 33 = .ok (.lsub, 1) := by decide +kernel
theorem dX5_dueAt_34 : decode cX5_dueAt 34 = .ok (.invokestatic 41, 3) := by decide +kernel
theorem dX5_dueAt_37 : decode cX5_dueAt 37 = .ok (.ifCond .eq 7, 3) := by decide +kernel
theorem dX5_dueAt_40 : decode cX5_dueAt 40 = .ok (.iload_n 3, 1) := by decide +kernel
theorem dX5_dueAt_41 : decode cX5_dueAt 41 = .ok (.goto 5, 3) := by decide +kernel
theorem dX5_dueAt_44 : decode cX5_dueAt 44 = .ok (.bipush (-105), 2) := by decide +kernel
theorem dX5_dueAt_46 : decode cX5_dueAt 46 = .ok (.ireturn, 1) := by decide +kernel
theorem dX5_placeSeen_0 : decode cX5_placeSeen 0 = .ok (.aload_n 0, 1) := by decide +kernel
theorem dX5_placeSeen_1 : decode cX5_placeSeen 1 = .ok (.getfield 7, 3) := by decide +kernel
theorem dX5_placeSeen_4 : decode cX5_placeSeen 4 = .ok (.iconst 1, 1) := by decide +kernel
theorem dX5_placeSeen_5 : decode cX5_placeSeen 5 = .ok (.iaload, 1) := by decide +kernel
theorem dX5_placeSeen_6 : decode cX5_placeSeen 6 = .ok (.iload_n 1, 1) := by decide +kernel
theorem dX5_placeSeen_7 : decode cX5_placeSeen 7 = .ok (.bipush 9, 2) := by decide +kernel
theorem dX5_placeSeen_9 : decode cX5_placeSeen 9 = .ok (.iadd, 1) := by decide +kernel
theorem dX5_placeSeen_10 : decode cX5_placeSeen 10 = .ok (.imul, 1) := by decide +kernel
theorem dX5_placeSeen_11 : decode cX5_placeSeen 11 = .ok (.bipush 19, 2) := by decide +kernel
theorem dX5_placeSeen_13 : decode cX5_placeSeen 13 = .ok (.idiv, 1) := by decide +kernel
theorem dX5_placeSeen_14 : decode cX5_placeSeen 14 = .ok (.aload_n 0, 1) := by decide +kernel
theorem dX5_placeSeen_15 : decode cX5_placeSeen 15 = .ok (.getfield 7, 3) := by decide +kernel
theorem dX5_placeSeen_18 : decode cX5_placeSeen 18 = .ok (.iconst 3, 1) := by decide +kernel
theorem dX5_placeSeen_19 : decode cX5_placeSeen 19 = .ok (.iaload, 1) := by decide +kernel
theorem dX5_placeSeen_20 : decode cX5_placeSeen 20 = .ok (.iload_n 2, 1) := by decide +kernel
theorem dX5_placeSeen_21 : decode cX5_placeSeen 21 = .ok (.bipush 6, 2) := by decide +kernel
theorem dX5_placeSeen_23 : decode cX5_placeSeen 23 = .ok (.isub, 1) := by decide +kernel
theorem dX5_placeSeen_24 : decode cX5_placeSeen 24 = .ok (.imul, 1) := by decide +kernel
theorem dX5_placeSeen_25 : decode cX5_placeSeen 25 = .ok (.iconst 4, 1) := by decide +kernel
theorem dX5_placeSeen_26 : decode cX5_placeSeen 26 = .ok (.idiv, 1) := by decide +kernel
theorem dX5_placeSeen_27 : decode cX5_placeSeen 27 = .ok (.iadd, 1) := by decide +kernel
theorem dX5_placeSeen_28 : decode cX5_placeSeen 28 = .ok (.istore_n 3, 1) := by decide +kernel
theorem dX5_placeSeen_29 : decode cX5_placeSeen 29 = .ok (.iload_n 3, 1) := by decide +kernel
theorem dX5_placeSeen_30 : decode cX5_placeSeen 30 = .ok (.ifCond .ge 7, 3) := by decide +kernel
theorem dX5_placeSeen_33 : decode cX5_placeSeen 33 = .ok (.iconst 0, 1) := by decide +kernel
theorem dX5_placeSeen_34 : decode cX5_placeSeen 34 = .ok (.goto 25, 3) := by decide +kernel
theorem dX5_placeSeen_37 : decode cX5_placeSeen 37 = .ok (.iload_n 3, 1) := by decide +kernel
theorem dX5_placeSeen_38 : decode cX5_placeSeen 38 = .ok (.aload_n 0, 1) := by decide +kernel
theorem dX5_placeSeen_39 : decode cX5_placeSeen 39 = .ok (.getfield 7, 3) := by decide +kernel
theorem dX5_placeSeen_42 : decode cX5_placeSeen 42 = .ok (.iconst 1, 1) := by decide +kernel
theorem dX5_placeSeen_43 : decode cX5_placeSeen 43 = .ok (.iaload, 1) := by decide +kernel
theorem dX5_placeSeen_44 : decode cX5_placeSeen 44 = .ok (.if_icmp .lt 14, 3) := by decide +kernel
theorem dX5_placeSeen_47 : decode cX5_placeSeen 47 = .ok (.aload_n 0, 1) := by decide +kernel
theorem dX5_placeSeen_48 : decode cX5_placeSeen 48 = .ok (.getfield 7, 3) := by decide +kernel
theorem dX5_placeSeen_51 : decode cX5_placeSeen 51 = .ok (.iconst 1, 1) := by decide +kernel
theorem dX5_placeSeen_52 : decode cX5_placeSeen 52 = .ok (.iaload, 1) := by decide +kernel
theorem dX5_placeSeen_53 : decode cX5_placeSeen 53 = .ok (.iconst 1, 1) := by decide +kernel
theorem dX5_placeSeen_54 : decode cX5_placeSeen 54 = .ok (.isub, 1) := by decide +kernel
theorem dX5_placeSeen_55 : decode cX5_placeSeen 55 = .ok (.goto 4, 3) := by decide +kernel
theorem dX5_placeSeen_58 : decode cX5_placeSeen 58 = .ok (.iload_n 3, 1) := by decide +kernel
theorem dX5_placeSeen_59 : decode cX5_placeSeen 59 = .ok (.ireturn, 1) := by decide +kernel
theorem dX5_laysSlots_0 : decode cX5_laysSlots 0 = .ok (.bipush (-9), 2) := by decide +kernel
theorem dX5_laysSlots_2 : decode cX5_laysSlots 2 = .ok (.istore_n 1, 1) := by decide +kernel
theorem dX5_laysSlots_3 : decode cX5_laysSlots 3 = .ok (.iload_n 1, 1) := by decide +kernel
theorem dX5_laysSlots_4 : decode cX5_laysSlots 4 = .ok (.bipush 9, 2) := by decide +kernel
theorem dX5_laysSlots_6 : decode cX5_laysSlots 6 = .ok (.if_icmp .gt 68, 3) := by decide +kernel
theorem dX5_laysSlots_9 : decode cX5_laysSlots 9 = .ok (.iconst 0, 1) := by decide +kernel
theorem dX5_laysSlots_10 : decode cX5_laysSlots 10 = .ok (.istore_n 2, 1) := by decide +kernel
theorem dX5_laysSlots_11 : decode cX5_laysSlots 11 = .ok (.iload_n 2, 1) := by decide +kernel
theorem dX5_laysSlots_12 : decode cX5_laysSlots 12 = .ok (.bipush 12, 2) := by decide +kernel
theorem dX5_laysSlots_14 : decode cX5_laysSlots 14 = .ok (.if_icmp .ge 54, 3) := by decide +kernel
theorem dX5_laysSlots_17 : decode cX5_laysSlots 17 = .ok (.aload_n 0, 1) := by decide +kernel
theorem dX5_laysSlots_18 : decode cX5_laysSlots 18 = .ok (.iload_n 2, 1) := by decide +kernel
theorem dX5_laysSlots_19 : decode cX5_laysSlots 19 = .ok (.aload_n 0, 1) := by decide +kernel
theorem dX5_laysSlots_20 : decode cX5_laysSlots 20 = .ok (.iload_n 1, 1) := by decide +kernel
theorem dX5_laysSlots_21 : decode cX5_laysSlots 21 = .ok (.iload_n 2, 1) := by decide +kernel
theorem dX5_laysSlots_22 : decode cX5_laysSlots 22 = .ok (.invokevirtual 53, 3) := by decide +kernel
theorem dX5_laysSlots_25 : decode cX5_laysSlots 25 = .ok (.invokevirtual 57, 3) := by decide +kernel
theorem dX5_laysSlots_28 : decode cX5_laysSlots 28 = .ok (.istore_n 3, 1) := by decide +kernel
theorem dX5_laysSlots_29 : decode cX5_laysSlots 29 = .ok (.aload_n 0, 1) := by decide +kernel
theorem dX5_laysSlots_30 : decode cX5_laysSlots 30 = .ok (.getfield 22, 3) := by decide +kernel
theorem dX5_laysSlots_33 : decode cX5_laysSlots 33 = .ok (.bipush 12, 2) := by decide +kernel
theorem dX5_laysSlots_35 : decode cX5_laysSlots 35 = .ok (.iload_n 1, 1) := by decide +kernel
theorem dX5_laysSlots_36 : decode cX5_laysSlots 36 = .ok (.bipush 9, 2) := by decide +kernel
theorem dX5_laysSlots_38 : decode cX5_laysSlots 38 = .ok (.iadd, 1) := by decide +kernel
theorem dX5_laysSlots_39 : decode cX5_laysSlots 39 = .ok (.imul, 1) := by decide +kernel
theorem dX5_laysSlots_40 : decode cX5_laysSlots 40 = .ok (.iload_n 2, 1) := by decide +kernel
theorem dX5_laysSlots_41 : decode cX5_laysSlots 41 = .ok (.iadd, 1) := by decide +kernel
theorem dX5_laysSlots_42 : decode cX5_laysSlots 42 = .ok (.iload_n 3, 1) := by decide +kernel
theorem dX5_laysSlots_43 : decode cX5_laysSlots 43 = .ok (.bipush (-105), 2) := by decide +kernel
theorem dX5_laysSlots_45 : decode cX5_laysSlots 45 = .ok (.if_icmp .ne 8, 3) := by decide +kernel
theorem dX5_laysSlots_48 : decode cX5_laysSlots 48 = .ok (.bipush (-105), 2) := by decide +kernel
theorem dX5_laysSlots_50 : decode cX5_laysSlots 50 = .ok (.goto 11, 3) := by decide +kernel
theorem dX5_laysSlots_53 : decode cX5_laysSlots 53 = .ok (.iload_n 3, 1) := by decide +kernel
theorem dX5_laysSlots_54 : decode cX5_laysSlots 54 = .ok (.aload_n 0, 1) := by decide +kernel
theorem dX5_laysSlots_55 : decode cX5_laysSlots 55 = .ok (.getfield 7, 3) := by decide +kernel
theorem dX5_laysSlots_58 : decode cX5_laysSlots 58 = .ok (.iconst 1, 1) := by decide +kernel
theorem dX5_laysSlots_59 : decode cX5_laysSlots 59 = .ok (.iaload, 1) := by decide +kernel
theorem dX5_laysSlots_60 : decode cX5_laysSlots 60 = .ok (.irem, 1) := by decide +kernel
theorem dX5_laysSlots_61 : decode cX5_laysSlots 61 = .ok (.iastore, 1) := by decide +kernel
theorem dX5_laysSlots_62 : decode cX5_laysSlots 62 = .ok (.iinc 2 1, 3) := by decide +kernel
theorem dX5_laysSlots_65 : decode cX5_laysSlots 65 = .ok (.goto (-54), 3) := by decide +kernel
theorem dX5_laysSlots_68 : decode cX5_laysSlots 68 = .ok (.iinc 1 1, 3) := by decide +kernel
theorem dX5_laysSlots_71 : decode cX5_laysSlots 71 = .ok (.goto (-68), 3) := by decide +kernel
theorem dX5_laysSlots_74 : decode cX5_laysSlots 74 = .ok (.return_, 1) := by decide +kernel
theorem dX5_viewSeen_0 : decode cX5_viewSeen 0 = .ok (.aload_n 0, 1) := by decide +kernel
theorem dX5_viewSeen_1 : decode cX5_viewSeen 1 = .ok (.getfield 22, 3) := by decide +kernel
theorem dX5_viewSeen_4 : decode cX5_viewSeen 4 = .ok (.bipush 12, 2) := by decide +kernel
theorem dX5_viewSeen_6 : decode cX5_viewSeen 6 = .ok (.iload_n 1, 1) := by decide +kernel
theorem dX5_viewSeen_7 : decode cX5_viewSeen 7 = .ok (.bipush 9, 2) := by decide +kernel
theorem dX5_viewSeen_9 : decode cX5_viewSeen 9 = .ok (.iadd, 1) := by decide +kernel
theorem dX5_viewSeen_10 : decode cX5_viewSeen 10 = .ok (.imul, 1) := by decide +kernel
theorem dX5_viewSeen_11 : decode cX5_viewSeen 11 = .ok (.iload_n 2, 1) := by decide +kernel
theorem dX5_viewSeen_12 : decode cX5_viewSeen 12 = .ok (.iadd, 1) := by decide +kernel
theorem dX5_viewSeen_13 : decode cX5_viewSeen 13 = .ok (.iaload, 1) := by decide +kernel
theorem dX5_viewSeen_14 : decode cX5_viewSeen 14 = .ok (.istore_n 3, 1) := by decide +kernel
theorem dX5_viewSeen_15 : decode cX5_viewSeen 15 = .ok (.iload_n 3, 1) := by decide +kernel
theorem dX5_viewSeen_16 : decode cX5_viewSeen 16 = .ok (.bipush (-105), 2) := by decide +kernel
theorem dX5_viewSeen_18 : decode cX5_viewSeen 18 = .ok (.if_icmp .ne 8, 3) := by decide +kernel
theorem dX5_viewSeen_21 : decode cX5_viewSeen 21 = .ok (.bipush (-105), 2) := by decide +kernel
theorem dX5_viewSeen_23 : decode cX5_viewSeen 23 = .ok (.goto 12, 3) := by decide +kernel
theorem dX5_viewSeen_26 : decode cX5_viewSeen 26 = .ok (.aload_n 0, 1) := by decide +kernel
theorem dX5_viewSeen_27 : decode cX5_viewSeen 27 = .ok (.getfield 7, 3) := by decide +kernel
theorem dX5_viewSeen_30 : decode cX5_viewSeen 30 = .ok (.bipush 7, 2) := by decide +kernel
theorem dX5_viewSeen_32 : decode cX5_viewSeen 32 = .ok (.iload_n 3, 1) := by decide +kernel
theorem dX5_viewSeen_33 : decode cX5_viewSeen 33 = .ok (.iadd, 1) := by decide +kernel
theorem dX5_viewSeen_34 : decode cX5_viewSeen 34 = .ok (.iaload, 1) := by decide +kernel
theorem dX5_viewSeen_35 : decode cX5_viewSeen 35 = .ok (.ireturn, 1) := by decide +kernel
theorem dX5_isGhost_0 : decode cX5_isGhost 0 = .ok (.aload_n 0, 1) := by decide +kernel
theorem dX5_isGhost_1 : decode cX5_isGhost 1 = .ok (.iload_n 1, 1) := by decide +kernel
theorem dX5_isGhost_2 : decode cX5_isGhost 2 = .ok (.iload_n 2, 1) := by decide +kernel
theorem dX5_isGhost_3 : decode cX5_isGhost 3 = .ok (.invokevirtual 60, 3) := by decide +kernel
theorem dX5_isGhost_6 : decode cX5_isGhost 6 = .ok (.istore_n 3, 1) := by decide +kernel
theorem dX5_isGhost_7 : decode cX5_isGhost 7 = .ok (.iload_n 2, 1) := by decide +kernel
theorem dX5_isGhost_8 : decode cX5_isGhost 8 = .ok (.ifCond .le 15, 3) := by decide +kernel
theorem dX5_isGhost_11 : decode cX5_isGhost 11 = .ok (.aload_n 0, 1) := by decide +kernel
theorem dX5_isGhost_12 : decode cX5_isGhost 12 = .ok (.iload_n 1, 1) := by decide +kernel
theorem dX5_isGhost_13 : decode cX5_isGhost 13 = .ok (.iload_n 2, 1) := by decide +kernel
theorem dX5_isGhost_14 : decode cX5_isGhost 14 = .ok (.iconst 1, 1) := by decide +kernel
theorem dX5_isGhost_15 : decode cX5_isGhost 15 = .ok (.isub, 1) := by decide +kernel
theorem dX5_isGhost_16 : decode cX5_isGhost 16 = .ok (.invokevirtual 60, 3) := by decide +kernel
theorem dX5_isGhost_19 : decode cX5_isGhost 19 = .ok (.iload_n 3, 1) := by decide +kernel
theorem dX5_isGhost_20 : decode cX5_isGhost 20 = .ok (.if_icmp .ne 21, 3) := by decide +kernel
theorem dX5_isGhost_23 : decode cX5_isGhost 23 = .ok (.iload_n 2, 1) := by decide +kernel
theorem dX5_isGhost_24 : decode cX5_isGhost 24 = .ok (.bipush 11, 2) := by decide +kernel
theorem dX5_isGhost_26 : decode cX5_isGhost 26 = .ok (.if_icmp .ge 19, 3) := by decide +kernel
theorem dX5_isGhost_29 : decode cX5_isGhost 29 = .ok (.aload_n 0, 1) := by decide +kernel
theorem dX5_isGhost_30 : decode cX5_isGhost 30 = .ok (.iload_n 1, 1) := by decide +kernel
theorem dX5_isGhost_31 : decode cX5_isGhost 31 = .ok (.iload_n 2, 1) := by decide +kernel
theorem dX5_isGhost_32 : decode cX5_isGhost 32 = .ok (.iconst 1, 1) := by decide +kernel
theorem dX5_isGhost_33 : decode cX5_isGhost 33 = .ok (.iadd, 1) := by decide +kernel
theorem dX5_isGhost_34 : decode cX5_isGhost 34 = .ok (.invokevirtual 60, 3) := by decide +kernel
theorem dX5_isGhost_37 : decode cX5_isGhost 37 = .ok (.iload_n 3, 1) := by decide +kernel
theorem dX5_isGhost_38 : decode cX5_isGhost 38 = .ok (.if_icmp .eq 7, 3) := by decide +kernel
theorem dX5_isGhost_41 : decode cX5_isGhost 41 = .ok (.iconst 1, 1) := by decide +kernel
theorem dX5_isGhost_42 : decode cX5_isGhost 42 = .ok (.goto 4, 3) := by decide +kernel
theorem dX5_isGhost_45 : decode cX5_isGhost 45 = .ok (.iconst 0, 1) := by decide +kernel
theorem dX5_isGhost_46 : decode cX5_isGhost 46 = .ok (.ireturn, 1) := by decide +kernel
theorem dX5_ghostsAt_0 : decode cX5_ghostsAt 0 = .ok (.iconst 0, 1) := by decide +kernel
theorem dX5_ghostsAt_1 : decode cX5_ghostsAt 1 = .ok (.istore_n 2, 1) := by decide +kernel
theorem dX5_ghostsAt_2 : decode cX5_ghostsAt 2 = .ok (.iconst 0, 1) := by decide +kernel
theorem dX5_ghostsAt_3 : decode cX5_ghostsAt 3 = .ok (.istore_n 3, 1) := by decide +kernel
theorem dX5_ghostsAt_4 : decode cX5_ghostsAt 4 = .ok (.iload_n 3, 1) := by decide +kernel
theorem dX5_ghostsAt_5 : decode cX5_ghostsAt 5 = .ok (.bipush 12, 2) := by decide +kernel
theorem dX5_ghostsAt_7 : decode cX5_ghostsAt 7 = .ok (.if_icmp .ge 26, 3) := by decide +kernel
theorem dX5_ghostsAt_10 : decode cX5_ghostsAt 10 = .ok (.iload_n 2, 1) := by decide +kernel
theorem dX5_ghostsAt_11 : decode cX5_ghostsAt 11 = .ok (.aload_n 0, 1) := by decide +kernel
theorem dX5_ghostsAt_12 : decode cX5_ghostsAt 12 = .ok (.iload_n 1, 1) := by decide +kernel
theorem dX5_ghostsAt_13 : decode cX5_ghostsAt 13 = .ok (.iload_n 3, 1) := by decide +kernel
theorem dX5_ghostsAt_14 : decode cX5_ghostsAt 14 = .ok (.invokevirtual 63, 3) := by decide +kernel
theorem dX5_ghostsAt_17 : decode cX5_ghostsAt 17 = .ok (.ifCond .eq 7, 3) := by decide +kernel
theorem dX5_ghostsAt_20 : decode cX5_ghostsAt 20 = .ok (.iconst 1, 1) := by decide +kernel
theorem dX5_ghostsAt_21 : decode cX5_ghostsAt 21 = .ok (.goto 4, 3) := by decide +kernel
theorem dX5_ghostsAt_24 : decode cX5_ghostsAt 24 = .ok (.iconst 0, 1) := by decide +kernel
theorem dX5_ghostsAt_25 : decode cX5_ghostsAt 25 = .ok (.iadd, 1) := by decide +kernel
theorem dX5_ghostsAt_26 : decode cX5_ghostsAt 26 = .ok (.istore_n 2, 1) := by decide +kernel
theorem dX5_ghostsAt_27 : decode cX5_ghostsAt 27 = .ok (.iinc 3 1, 3) := by decide +kernel
theorem dX5_ghostsAt_30 : decode cX5_ghostsAt 30 = .ok (.goto (-26), 3) := by decide +kernel
theorem dX5_ghostsAt_33 : decode cX5_ghostsAt 33 = .ok (.iload_n 2, 1) := by decide +kernel
theorem dX5_ghostsAt_34 : decode cX5_ghostsAt 34 = .ok (.ireturn, 1) := by decide +kernel
theorem dX5_ghosts_0 : decode cX5_ghosts 0 = .ok (.iconst 0, 1) := by decide +kernel
theorem dX5_ghosts_1 : decode cX5_ghosts 1 = .ok (.istore_n 1, 1) := by decide +kernel
theorem dX5_ghosts_2 : decode cX5_ghosts 2 = .ok (.bipush (-9), 2) := by decide +kernel
theorem dX5_ghosts_4 : decode cX5_ghosts 4 = .ok (.istore_n 2, 1) := by decide +kernel
theorem dX5_ghosts_5 : decode cX5_ghosts 5 = .ok (.iload_n 2, 1) := by decide +kernel
theorem dX5_ghosts_6 : decode cX5_ghosts 6 = .ok (.bipush 9, 2) := by decide +kernel
theorem dX5_ghosts_8 : decode cX5_ghosts 8 = .ok (.if_icmp .gt 17, 3) := by decide +kernel
theorem dX5_ghosts_11 : decode cX5_ghosts 11 = .ok (.iload_n 1, 1) := by decide +kernel
theorem dX5_ghosts_12 : decode cX5_ghosts 12 = .ok (.aload_n 0, 1) := by decide +kernel
theorem dX5_ghosts_13 : decode cX5_ghosts 13 = .ok (.iload_n 2, 1) := by decide +kernel
theorem dX5_ghosts_14 : decode cX5_ghosts 14 = .ok (.invokevirtual 67, 3) := by decide +kernel
theorem dX5_ghosts_17 : decode cX5_ghosts 17 = .ok (.iadd, 1) := by decide +kernel
theorem dX5_ghosts_18 : decode cX5_ghosts 18 = .ok (.istore_n 1, 1) := by decide +kernel
theorem dX5_ghosts_19 : decode cX5_ghosts 19 = .ok (.iinc 2 1, 3) := by decide +kernel
theorem dX5_ghosts_22 : decode cX5_ghosts 22 = .ok (.goto (-17), 3) := by decide +kernel
theorem dX5_ghosts_25 : decode cX5_ghosts 25 = .ok (.iload_n 1, 1) := by decide +kernel
theorem dX5_ghosts_26 : decode cX5_ghosts 26 = .ok (.ireturn, 1) := by decide +kernel
theorem dX5_ghostsNow_0 : decode cX5_ghostsNow 0 = .ok (.aload_n 0, 1) := by decide +kernel
theorem dX5_ghostsNow_1 : decode cX5_ghostsNow 1 = .ok (.invokevirtual 71, 3) := by decide +kernel
theorem dX5_ghostsNow_4 : decode cX5_ghostsNow 4 = .ok (.aload_n 0, 1) := by decide +kernel
theorem dX5_ghostsNow_5 : decode cX5_ghostsNow 5 = .ok (.invokevirtual 74, 3) := by decide +kernel
theorem dX5_ghostsNow_8 : decode cX5_ghostsNow 8 = .ok (.ireturn, 1) := by decide +kernel
theorem dX5_showing_0 : decode cX5_showing 0 = .ok (.iconst 0, 1) := by decide +kernel
theorem dX5_showing_1 : decode cX5_showing 1 = .ok (.istore_n 3, 1) := by decide +kernel
theorem dX5_showing_2 : decode cX5_showing 2 = .ok (.iconst 0, 1) := by decide +kernel
theorem dX5_showing_3 : decode cX5_showing 3 = .ok (.istore 4, 2) := by decide +kernel
theorem dX5_showing_5 : decode cX5_showing 5 = .ok (.iload 4, 2) := by decide +kernel
theorem dX5_showing_7 : decode cX5_showing 7 = .ok (.bipush 12, 2) := by decide +kernel
theorem dX5_showing_9 : decode cX5_showing 9 = .ok (.if_icmp .ge 28, 3) := by decide +kernel
theorem dX5_showing_12 : decode cX5_showing 12 = .ok (.iload_n 3, 1) := by decide +kernel
theorem dX5_showing_13 : decode cX5_showing 13 = .ok (.aload_n 0, 1) := by decide +kernel
theorem dX5_showing_14 : decode cX5_showing 14 = .ok (.iload_n 1, 1) := by decide +kernel
theorem dX5_showing_15 : decode cX5_showing 15 = .ok (.iload 4, 2) := by decide +kernel
theorem dX5_showing_17 : decode cX5_showing 17 = .ok (.invokevirtual 60, 3) := by decide +kernel
theorem dX5_showing_20 : decode cX5_showing 20 = .ok (.iload_n 2, 1) := by decide +kernel
theorem dX5_showing_21 : decode cX5_showing 21 = .ok (.if_icmp .ne 7, 3) := by decide +kernel
theorem dX5_showing_24 : decode cX5_showing 24 = .ok (.iconst 1, 1) := by decide +kernel
theorem dX5_showing_25 : decode cX5_showing 25 = .ok (.goto 4, 3) := by decide +kernel
theorem dX5_showing_28 : decode cX5_showing 28 = .ok (.iconst 0, 1) := by decide +kernel
theorem dX5_showing_29 : decode cX5_showing 29 = .ok (.iadd, 1) := by decide +kernel
theorem dX5_showing_30 : decode cX5_showing 30 = .ok (.istore_n 3, 1) := by decide +kernel
theorem dX5_showing_31 : decode cX5_showing 31 = .ok (.iinc 4 1, 3) := by decide +kernel
theorem dX5_showing_34 : decode cX5_showing 34 = .ok (.goto (-29), 3) := by decide +kernel
theorem dX5_showing_37 : decode cX5_showing 37 = .ok (.iload_n 3, 1) := by decide +kernel
theorem dX5_showing_38 : decode cX5_showing 38 = .ok (.ireturn, 1) := by decide +kernel
theorem dX5_wholeAngles_0 : decode cX5_wholeAngles 0 = .ok (.iconst 0, 1) := by decide +kernel
theorem dX5_wholeAngles_1 : decode cX5_wholeAngles 1 = .ok (.istore_n 2, 1) := by decide +kernel
theorem dX5_wholeAngles_2 : decode cX5_wholeAngles 2 = .ok (.bipush (-9), 2) := by decide +kernel
theorem dX5_wholeAngles_4 : decode cX5_wholeAngles 4 = .ok (.istore_n 3, 1) := by decide +kernel
theorem dX5_wholeAngles_5 : decode cX5_wholeAngles 5 = .ok (.iload_n 3, 1) := by decide +kernel
theorem dX5_wholeAngles_6 : decode cX5_wholeAngles 6 = .ok (.bipush 9, 2) := by decide +kernel
theorem dX5_wholeAngles_8 : decode cX5_wholeAngles 8 = .ok (.if_icmp .gt 28, 3) := by decide +kernel
theorem dX5_wholeAngles_11 : decode cX5_wholeAngles 11 = .ok (.iload_n 2, 1) := by decide +kernel
theorem dX5_wholeAngles_12 : decode cX5_wholeAngles 12 = .ok (.aload_n 0, 1) := by decide +kernel
theorem dX5_wholeAngles_13 : decode cX5_wholeAngles 13 = .ok (.iload_n 3, 1) := by decide +kernel
theorem dX5_wholeAngles_14 : decode cX5_wholeAngles 14 = .ok (.iload_n 1, 1) := by decide +kernel
theorem dX5_wholeAngles_15 : decode cX5_wholeAngles 15 = .ok (.invokevirtual 78, 3) := by decide +kernel
theorem dX5_wholeAngles_18 : decode cX5_wholeAngles 18 = .ok (.bipush 12, 2) := by decide +kernel
theorem dX5_wholeAngles_20 : decode cX5_wholeAngles 20 = .ok (.if_icmp .ne 7, 3) := by decide +kernel
theorem dX5_wholeAngles_23 : decode cX5_wholeAngles 23 = .ok (.iconst 1, 1) := by decide +kernel
theorem dX5_wholeAngles_24 : decode cX5_wholeAngles 24 = .ok (.goto 4, 3) := by decide +kernel
theorem dX5_wholeAngles_27 : decode cX5_wholeAngles 27 = .ok (.iconst 0, 1) := by decide +kernel
theorem dX5_wholeAngles_28 : decode cX5_wholeAngles 28 = .ok (.iadd, 1) := by decide +kernel
theorem dX5_wholeAngles_29 : decode cX5_wholeAngles 29 = .ok (.istore_n 2, 1) := by decide +kernel
theorem dX5_wholeAngles_30 : decode cX5_wholeAngles 30 = .ok (.iinc 3 1, 3) := by decide +kernel
theorem dX5_wholeAngles_33 : decode cX5_wholeAngles 33 = .ok (.goto (-28), 3) := by decide +kernel
theorem dX5_wholeAngles_36 : decode cX5_wholeAngles 36 = .ok (.iload_n 2, 1) := by decide +kernel
theorem dX5_wholeAngles_37 : decode cX5_wholeAngles 37 = .ok (.ireturn, 1) := by decide +kernel
theorem dX5_whole_0 : decode cX5_whole 0 = .ok (.aload_n 0, 1) := by decide +kernel
theorem dX5_whole_1 : decode cX5_whole 1 = .ok (.invokevirtual 71, 3) := by decide +kernel
theorem dX5_whole_4 : decode cX5_whole 4 = .ok (.iconst 0, 1) := by decide +kernel
theorem dX5_whole_5 : decode cX5_whole 5 = .ok (.istore_n 2, 1) := by decide +kernel
theorem dX5_whole_6 : decode cX5_whole 6 = .ok (.iconst 0, 1) := by decide +kernel
theorem dX5_whole_7 : decode cX5_whole 7 = .ok (.istore_n 3, 1) := by decide +kernel
theorem dX5_whole_8 : decode cX5_whole 8 = .ok (.iload_n 3, 1) := by decide +kernel
theorem dX5_whole_9 : decode cX5_whole 9 = .ok (.aload_n 0, 1) := by decide +kernel
theorem dX5_whole_10 : decode cX5_whole 10 = .ok (.getfield 7, 3) := by decide +kernel
theorem dX5_whole_13 : decode cX5_whole 13 = .ok (.iconst 0, 1) := by decide +kernel
theorem dX5_whole_14 : decode cX5_whole 14 = .ok (.iaload, 1) := by decide +kernel
theorem dX5_whole_15 : decode cX5_whole 15 = .ok (.if_icmp .ge 38, 3) := by decide +kernel
theorem dX5_whole_18 : decode cX5_whole 18 = .ok (.aload_n 0, 1) := by decide +kernel
theorem dX5_whole_19 : decode cX5_whole 19 = .ok (.iload_n 3, 1) := by decide +kernel
theorem dX5_whole_20 : decode cX5_whole 20 = .ok (.invokevirtual 81, 3) := by decide +kernel
theorem dX5_whole_23 : decode cX5_whole 23 = .ok (.istore 4, 2) := by decide +kernel
theorem dX5_whole_25 : decode cX5_whole 25 = .ok (.iload_n 2, 1) := by decide +kernel
theorem dX5_whole_26 : decode cX5_whole 26 = .ok (.iload_n 1, 1) := by decide +kernel
theorem dX5_whole_27 : decode cX5_whole 27 = .ok (.ifCond .eq 16, 3) := by decide +kernel
theorem dX5_whole_30 : decode cX5_whole 30 = .ok (.iload 4, 2) := by decide +kernel
theorem dX5_whole_32 : decode cX5_whole 32 = .ok (.ifCond .le 7, 3) := by decide +kernel
theorem dX5_whole_35 : decode cX5_whole 35 = .ok (.iconst 1, 1) := by decide +kernel
theorem dX5_whole_36 : decode cX5_whole 36 = .ok (.goto 9, 3) := by decide +kernel
theorem dX5_whole_39 : decode cX5_whole 39 = .ok (.iconst 0, 1) := by decide +kernel
theorem dX5_whole_40 : decode cX5_whole 40 = .ok (.goto 5, 3) := by decide +kernel
theorem dX5_whole_43 : decode cX5_whole 43 = .ok (.iload 4, 2) := by decide +kernel
theorem dX5_whole_45 : decode cX5_whole 45 = .ok (.iadd, 1) := by decide +kernel
theorem dX5_whole_46 : decode cX5_whole 46 = .ok (.istore_n 2, 1) := by decide +kernel
theorem dX5_whole_47 : decode cX5_whole 47 = .ok (.iinc 3 1, 3) := by decide +kernel
theorem dX5_whole_50 : decode cX5_whole 50 = .ok (.goto (-42), 3) := by decide +kernel
theorem dX5_whole_53 : decode cX5_whole 53 = .ok (.iload_n 2, 1) := by decide +kernel
theorem dX5_whole_54 : decode cX5_whole 54 = .ok (.ireturn, 1) := by decide +kernel
theorem dX5_colour_0 : decode cX5_colour 0 = .ok (.aload_n 0, 1) := by decide +kernel
theorem dX5_colour_1 : decode cX5_colour 1 = .ok (.iload_n 1, 1) := by decide +kernel
theorem dX5_colour_2 : decode cX5_colour 2 = .ok (.invokevirtual 84, 3) := by decide +kernel
theorem dX5_colour_5 : decode cX5_colour 5 = .ok (.ifCond .eq 10, 3) := by decide +kernel
theorem dX5_colour_8 : decode cX5_colour 8 = .ok (.iload_n 2, 1) := by decide +kernel
theorem dX5_colour_9 : decode cX5_colour 9 = .ok (.invokestatic 88, 3) := by decide +kernel
theorem dX5_colour_12 : decode cX5_colour 12 = .ok (.ifCond .ne 6, 3) := by decide +kernel
theorem dX5_colour_15 : decode cX5_colour 15 = .ok (.bipush (-101), 2) := by decide +kernel
theorem dX5_colour_17 : decode cX5_colour 17 = .ok (.ireturn, 1) := by decide +kernel
theorem dX5_colour_18 : decode cX5_colour 18 = .ok (.iload_n 3, 1) := by decide +kernel
theorem dX5_colour_19 : decode cX5_colour 19 = .ok (.i2l, 1) := by decide +kernel
theorem dX5_colour_20 : decode cX5_colour 20 = .ok (.lconst 0, 1) := by decide +kernel
theorem dX5_colour_21 : decode cX5_colour 21 = .ok (.ldc2_w 49, 3) := by decide +kernel
theorem dX5_colour_24 : decode cX5_colour 24 = .ok (.invokestatic 41, 3) := by decide +kernel
theorem dX5_colour_27 : decode cX5_colour 27 = .ok (.ifCond .ne 6, 3) := by decide +kernel
theorem dX5_colour_30 : decode cX5_colour 30 = .ok (.bipush (-102), 2) := by decide +kernel
theorem dX5_colour_32 : decode cX5_colour 32 = .ok (.ireturn, 1) := by decide +kernel
theorem dX5_colour_33 : decode cX5_colour 33 = .ok (.aload_n 0, 1) := by decide +kernel
theorem dX5_colour_34 : decode cX5_colour 34 = .ok (.iload_n 1, 1) := by decide +kernel
theorem dX5_colour_35 : decode cX5_colour 35 = .ok (.iload_n 2, 1) := by decide +kernel
theorem dX5_colour_36 : decode cX5_colour 36 = .ok (.invokevirtual 91, 3) := by decide +kernel
theorem dX5_colour_39 : decode cX5_colour 39 = .ok (.istore 4, 2) := by decide +kernel
theorem dX5_colour_41 : decode cX5_colour 41 = .ok (.iload 4, 2) := by decide +kernel
theorem dX5_colour_43 : decode cX5_colour 43 = .ok (.iload_n 3, 1) := by decide +kernel
theorem dX5_colour_44 : decode cX5_colour 44 = .ok (.if_icmp .ne 6, 3) := by decide +kernel
theorem dX5_colour_47 : decode cX5_colour 47 = .ok (.bipush (-105), 2) := by decide +kernel
theorem dX5_colour_49 : decode cX5_colour 49 = .ok (.ireturn, 1) := by decide +kernel
theorem dX5_colour_50 : decode cX5_colour 50 = .ok (.aload_n 0, 1) := by decide +kernel
theorem dX5_colour_51 : decode cX5_colour 51 = .ok (.invokevirtual 94, 3) := by decide +kernel
theorem dX5_colour_54 : decode cX5_colour 54 = .ok (.aload_n 0, 1) := by decide +kernel
theorem dX5_colour_55 : decode cX5_colour 55 = .ok (.getfield 7, 3) := by decide +kernel
theorem dX5_colour_58 : decode cX5_colour 58 = .ok (.bipush 13, 2) := by decide +kernel
theorem dX5_colour_60 : decode cX5_colour 60 = .ok (.bipush 12, 2) := by decide +kernel
theorem dX5_colour_62 : decode cX5_colour 62 = .ok (.iload_n 1, 1) := by decide +kernel
theorem dX5_colour_63 : decode cX5_colour 63 = .ok (.imul, 1) := by decide +kernel
theorem dX5_colour_64 : decode cX5_colour 64 = .ok (.iadd, 1) := by decide +kernel
theorem dX5_colour_65 : decode cX5_colour 65 = .ok (.iload_n 2, 1) := by decide +kernel
theorem dX5_colour_66 : decode cX5_colour 66 = .ok (.iadd, 1) := by decide +kernel
theorem dX5_colour_67 : decode cX5_colour 67 = .ok (.iload_n 3, 1) := by decide +kernel
theorem dX5_colour_68 : decode cX5_colour 68 = .ok (.iastore, 1) := by decide +kernel
theorem dX5_colour_69 : decode cX5_colour 69 = .ok (.aload_n 0, 1) := by decide +kernel
theorem dX5_colour_70 : decode cX5_colour 70 = .ok (.iload 4, 2) := by decide +kernel
theorem dX5_colour_72 : decode cX5_colour 72 = .ok (.invokevirtual 97, 3) := by decide +kernel
theorem dX5_colour_75 : decode cX5_colour 75 = .ok (.ireturn, 1) := by decide +kernel
theorem dX5_addView_0 : decode cX5_addView 0 = .ok (.aload_n 0, 1) := by decide +kernel
theorem dX5_addView_1 : decode cX5_addView 1 = .ok (.getfield 7, 3) := by decide +kernel
theorem dX5_addView_4 : decode cX5_addView 4 = .ok (.iconst 0, 1) := by decide +kernel
theorem dX5_addView_5 : decode cX5_addView 5 = .ok (.iaload, 1) := by decide +kernel
theorem dX5_addView_6 : decode cX5_addView 6 = .ok (.iconst 4, 1) := by decide +kernel
theorem dX5_addView_7 : decode cX5_addView 7 = .ok (.if_icmp .ne 6, 3) := by decide +kernel
theorem dX5_addView_10 : decode cX5_addView 10 = .ok (.bipush (-103), 2) := by decide +kernel
theorem dX5_addView_12 : decode cX5_addView 12 = .ok (.ireturn, 1) := by decide +kernel
theorem dX5_addView_13 : decode cX5_addView 13 = .ok (.aload_n 0, 1) := by decide +kernel
theorem dX5_addView_14 : decode cX5_addView 14 = .ok (.invokevirtual 94, 3) := by decide +kernel
theorem dX5_addView_17 : decode cX5_addView 17 = .ok (.aload_n 0, 1) := by decide +kernel
theorem dX5_addView_18 : decode cX5_addView 18 = .ok (.getfield 7, 3) := by decide +kernel
theorem dX5_addView_21 : decode cX5_addView 21 = .ok (.iconst 0, 1) := by decide +kernel
theorem dX5_addView_22 : decode cX5_addView 22 = .ok (.dup2, 1) := by decide +kernel
theorem dX5_addView_23 : decode cX5_addView 23 = .ok (.iaload, 1) := by decide +kernel
theorem dX5_addView_24 : decode cX5_addView 24 = .ok (.iconst 1, 1) := by decide +kernel
theorem dX5_addView_25 : decode cX5_addView 25 = .ok (.iadd, 1) := by decide +kernel
theorem dX5_addView_26 : decode cX5_addView 26 = .ok (.iastore, 1) := by decide +kernel
theorem dX5_addView_27 : decode cX5_addView 27 = .ok (.aload_n 0, 1) := by decide +kernel
theorem dX5_addView_28 : decode cX5_addView 28 = .ok (.invokevirtual 34, 3) := by decide +kernel
theorem dX5_addView_31 : decode cX5_addView 31 = .ok (.aload_n 0, 1) := by decide +kernel
theorem dX5_addView_32 : decode cX5_addView 32 = .ok (.aload_n 0, 1) := by decide +kernel
theorem dX5_addView_33 : decode cX5_addView 33 = .ok (.getfield 7, 3) := by decide +kernel
theorem dX5_addView_36 : decode cX5_addView 36 = .ok (.iconst 0, 1) := by decide +kernel
theorem dX5_addView_37 : decode cX5_addView 37 = .ok (.iaload, 1) := by decide +kernel
theorem dX5_addView_38 : decode cX5_addView 38 = .ok (.invokevirtual 97, 3) := by decide +kernel
theorem dX5_addView_41 : decode cX5_addView 41 = .ok (.ireturn, 1) := by decide +kernel
theorem dX5_removeView_0 : decode cX5_removeView 0 = .ok (.aload_n 0, 1) := by decide +kernel
theorem dX5_removeView_1 : decode cX5_removeView 1 = .ok (.iload_n 1, 1) := by decide +kernel
theorem dX5_removeView_2 : decode cX5_removeView 2 = .ok (.invokevirtual 84, 3) := by decide +kernel
theorem dX5_removeView_5 : decode cX5_removeView 5 = .ok (.ifCond .ne 6, 3) := by decide +kernel
theorem dX5_removeView_8 : decode cX5_removeView 8 = .ok (.bipush (-101), 2) := by decide +kernel
theorem dX5_removeView_10 : decode cX5_removeView 10 = .ok (.ireturn, 1) := by decide +kernel
theorem dX5_removeView_11 : decode cX5_removeView 11 = .ok (.aload_n 0, 1) := by decide +kernel
theorem dX5_removeView_12 : decode cX5_removeView 12 = .ok (.getfield 7, 3) := by decide +kernel
theorem dX5_removeView_15 : decode cX5_removeView 15 = .ok (.iconst 0, 1) := by decide +kernel
theorem dX5_removeView_16 : decode cX5_removeView 16 = .ok (.iaload, 1) := by decide +kernel
theorem dX5_removeView_17 : decode cX5_removeView 17 = .ok (.iconst 2, 1) := by decide +kernel
theorem dX5_removeView_18 : decode cX5_removeView 18 = .ok (.if_icmp .ne 6, 3) := by decide +kernel
theorem dX5_removeView_21 : decode cX5_removeView 21 = .ok (.bipush (-104), 2) := by decide +kernel
theorem dX5_removeView_23 : decode cX5_removeView 23 = .ok (.ireturn, 1) := by decide +kernel
theorem dX5_removeView_24 : decode cX5_removeView 24 = .ok (.aload_n 0, 1) := by decide +kernel
theorem dX5_removeView_25 : decode cX5_removeView 25 = .ok (.invokevirtual 94, 3) := by decide +kernel
theorem dX5_removeView_28 : decode cX5_removeView 28 = .ok (.aload_n 0, 1) := by decide +kernel
theorem dX5_removeView_29 : decode cX5_removeView 29 = .ok (.getfield 7, 3) := by decide +kernel
theorem dX5_removeView_32 : decode cX5_removeView 32 = .ok (.iconst 0, 1) := by decide +kernel
theorem dX5_removeView_33 : decode cX5_removeView 33 = .ok (.dup2, 1) := by decide +kernel
theorem dX5_removeView_34 : decode cX5_removeView 34 = .ok (.iaload, 1) := by decide +kernel
theorem dX5_removeView_35 : decode cX5_removeView 35 = .ok (.iconst 1, 1) := by decide +kernel
theorem dX5_removeView_36 : decode cX5_removeView 36 = .ok (.isub, 1) := by decide +kernel
theorem dX5_removeView_37 : decode cX5_removeView 37 = .ok (.iastore, 1) := by decide +kernel
theorem dX5_removeView_38 : decode cX5_removeView 38 = .ok (.bipush 13, 2) := by decide +kernel
theorem dX5_removeView_40 : decode cX5_removeView 40 = .ok (.bipush 12, 2) := by decide +kernel
theorem dX5_removeView_42 : decode cX5_removeView 42 = .ok (.iload_n 1, 1) := by decide +kernel
theorem dX5_removeView_43 : decode cX5_removeView 43 = .ok (.imul, 1) := by decide +kernel
theorem dX5_removeView_44 : decode cX5_removeView 44 = .ok (.iadd, 1) := by decide +kernel
theorem dX5_removeView_45 : decode cX5_removeView 45 = .ok (.istore_n 2, 1) := by decide +kernel
theorem dX5_removeView_46 : decode cX5_removeView 46 = .ok (.iload_n 2, 1) := by decide +kernel
theorem dX5_removeView_47 : decode cX5_removeView 47 = .ok (.bipush 61, 2) := by decide +kernel
theorem dX5_removeView_49 : decode cX5_removeView 49 = .ok (.if_icmp .ge 37, 3) := by decide +kernel
theorem dX5_removeView_52 : decode cX5_removeView 52 = .ok (.aload_n 0, 1) := by decide +kernel
theorem dX5_removeView_53 : decode cX5_removeView 53 = .ok (.getfield 7, 3) := by decide +kernel
theorem dX5_removeView_56 : decode cX5_removeView 56 = .ok (.iload_n 2, 1) := by decide +kernel
theorem dX5_removeView_57 : decode cX5_removeView 57 = .ok (.iload_n 2, 1) := by decide +kernel
theorem dX5_removeView_58 : decode cX5_removeView 58 = .ok (.bipush 12, 2) := by decide +kernel
theorem dX5_removeView_60 : decode cX5_removeView 60 = .ok (.iadd, 1) := by decide +kernel
theorem dX5_removeView_61 : decode cX5_removeView 61 = .ok (.bipush 61, 2) := by decide +kernel
theorem dX5_removeView_63 : decode cX5_removeView 63 = .ok (.if_icmp .ge 15, 3) := by decide +kernel
theorem dX5_removeView_66 : decode cX5_removeView 66 = .ok (.aload_n 0, 1) := by decide +kernel
theorem dX5_removeView_67 : decode cX5_removeView 67 = .ok (.getfield 7, 3) := by decide +kernel
theorem dX5_removeView_70 : decode cX5_removeView 70 = .ok (.iload_n 2, 1) := by decide +kernel
theorem dX5_removeView_71 : decode cX5_removeView 71 = .ok (.bipush 12, 2) := by decide +kernel
theorem dX5_removeView_73 : decode cX5_removeView 73 = .ok (.iadd, 1) := by decide +kernel
theorem dX5_removeView_74 : decode cX5_removeView 74 = .ok (.iaload, 1) := by decide +kernel
theorem dX5_removeView_75 : decode cX5_removeView 75 = .ok (.goto 4, 3) := by decide +kernel
theorem dX5_removeView_78 : decode cX5_removeView 78 = .ok (.iconst 0, 1) := by decide +kernel
theorem dX5_removeView_79 : decode cX5_removeView 79 = .ok (.iastore, 1) := by decide +kernel
theorem dX5_removeView_80 : decode cX5_removeView 80 = .ok (.iinc 2 1, 3) := by decide +kernel
theorem dX5_removeView_83 : decode cX5_removeView 83 = .ok (.goto (-37), 3) := by decide +kernel
theorem dX5_removeView_86 : decode cX5_removeView 86 = .ok (.aload_n 0, 1) := by decide +kernel
theorem dX5_removeView_87 : decode cX5_removeView 87 = .ok (.invokevirtual 34, 3) := by decide +kernel
theorem dX5_removeView_90 : decode cX5_removeView 90 = .ok (.aload_n 0, 1) := by decide +kernel
theorem dX5_removeView_91 : decode cX5_removeView 91 = .ok (.aload_n 0, 1) := by decide +kernel
theorem dX5_removeView_92 : decode cX5_removeView 92 = .ok (.getfield 7, 3) := by decide +kernel
theorem dX5_removeView_95 : decode cX5_removeView 95 = .ok (.iconst 0, 1) := by decide +kernel
theorem dX5_removeView_96 : decode cX5_removeView 96 = .ok (.iaload, 1) := by decide +kernel
theorem dX5_removeView_97 : decode cX5_removeView 97 = .ok (.invokevirtual 97, 3) := by decide +kernel
theorem dX5_removeView_100 : decode cX5_removeView 100 = .ok (.ireturn, 1) := by decide +kernel
theorem dX5_swap_0 : decode cX5_swap 0 = .ok (.aload_n 0, 1) := by decide +kernel
theorem dX5_swap_1 : decode cX5_swap 1 = .ok (.iload_n 1, 1) := by decide +kernel
theorem dX5_swap_2 : decode cX5_swap 2 = .ok (.invokevirtual 84, 3) := by decide +kernel
theorem dX5_swap_5 : decode cX5_swap 5 = .ok (.ifCond .eq 11, 3) := by decide +kernel
theorem dX5_swap_8 : decode cX5_swap 8 = .ok (.aload_n 0, 1) := by decide +kernel
theorem dX5_swap_9 : decode cX5_swap 9 = .ok (.iload_n 2, 1) := by decide +kernel
theorem dX5_swap_10 : decode cX5_swap 10 = .ok (.invokevirtual 84, 3) := by decide +kernel
theorem dX5_swap_13 : decode cX5_swap 13 = .ok (.ifCond .ne 6, 3) := by decide +kernel
theorem dX5_swap_16 : decode cX5_swap 16 = .ok (.bipush (-101), 2) := by decide +kernel
theorem dX5_swap_18 : decode cX5_swap 18 = .ok (.ireturn, 1) := by decide +kernel
theorem dX5_swap_19 : decode cX5_swap 19 = .ok (.iload_n 1, 1) := by decide +kernel
theorem dX5_swap_20 : decode cX5_swap 20 = .ok (.iload_n 2, 1) := by decide +kernel
theorem dX5_swap_21 : decode cX5_swap 21 = .ok (.if_icmp .ne 6, 3) := by decide +kernel
theorem dX5_swap_24 : decode cX5_swap 24 = .ok (.bipush (-105), 2) := by decide +kernel
theorem dX5_swap_26 : decode cX5_swap 26 = .ok (.ireturn, 1) := by decide +kernel
theorem dX5_swap_27 : decode cX5_swap 27 = .ok (.aload_n 0, 1) := by decide +kernel
theorem dX5_swap_28 : decode cX5_swap 28 = .ok (.invokevirtual 94, 3) := by decide +kernel
theorem dX5_swap_31 : decode cX5_swap 31 = .ok (.iconst 0, 1) := by decide +kernel
theorem dX5_swap_32 : decode cX5_swap 32 = .ok (.istore_n 3, 1) := by decide +kernel
theorem dX5_swap_33 : decode cX5_swap 33 = .ok (.iconst 0, 1) := by decide +kernel
theorem dX5_swap_34 : decode cX5_swap 34 = .ok (.istore 4, 2) := by decide +kernel
theorem dX5_swap_36 : decode cX5_swap 36 = .ok (.iload 4, 2) := by decide +kernel
theorem dX5_swap_38 : decode cX5_swap 38 = .ok (.bipush 12, 2) := by decide +kernel
theorem dX5_swap_40 : decode cX5_swap 40 = .ok (.if_icmp .ge 77, 3) := by decide +kernel
theorem dX5_swap_43 : decode cX5_swap 43 = .ok (.aload_n 0, 1) := by decide +kernel
theorem dX5_swap_44 : decode cX5_swap 44 = .ok (.iload_n 1, 1) := by decide +kernel
theorem dX5_swap_45 : decode cX5_swap 45 = .ok (.iload 4, 2) := by decide +kernel
theorem dX5_swap_47 : decode cX5_swap 47 = .ok (.invokevirtual 91, 3) := by decide +kernel
theorem dX5_swap_50 : decode cX5_swap 50 = .ok (.istore 5, 2) := by decide +kernel
theorem dX5_swap_52 : decode cX5_swap 52 = .ok (.iload_n 3, 1) := by decide +kernel
theorem dX5_swap_53 : decode cX5_swap 53 = .ok (.iload 5, 2) := by decide +kernel
theorem dX5_swap_55 : decode cX5_swap 55 = .ok (.aload_n 0, 1) := by decide +kernel
theorem dX5_swap_56 : decode cX5_swap 56 = .ok (.iload_n 2, 1) := by decide +kernel
theorem dX5_swap_57 : decode cX5_swap 57 = .ok (.iload 4, 2) := by decide +kernel
theorem dX5_swap_59 : decode cX5_swap 59 = .ok (.invokevirtual 91, 3) := by decide +kernel
theorem dX5_swap_62 : decode cX5_swap 62 = .ok (.if_icmp .ne 7, 3) := by decide +kernel
theorem dX5_swap_65 : decode cX5_swap 65 = .ok (.iconst 0, 1) := by decide +kernel
theorem dX5_swap_66 : decode cX5_swap 66 = .ok (.goto 4, 3) := by decide +kernel
theorem dX5_swap_69 : decode cX5_swap 69 = .ok (.iconst 1, 1) := by decide +kernel
theorem dX5_swap_70 : decode cX5_swap 70 = .ok (.iadd, 1) := by decide +kernel
theorem dX5_swap_71 : decode cX5_swap 71 = .ok (.istore_n 3, 1) := by decide +kernel
theorem dX5_swap_72 : decode cX5_swap 72 = .ok (.aload_n 0, 1) := by decide +kernel
theorem dX5_swap_73 : decode cX5_swap 73 = .ok (.getfield 7, 3) := by decide +kernel
theorem dX5_swap_76 : decode cX5_swap 76 = .ok (.bipush 13, 2) := by decide +kernel
theorem dX5_swap_78 : decode cX5_swap 78 = .ok (.bipush 12, 2) := by decide +kernel
theorem dX5_swap_80 : decode cX5_swap 80 = .ok (.iload_n 1, 1) := by decide +kernel
theorem dX5_swap_81 : decode cX5_swap 81 = .ok (.imul, 1) := by decide +kernel
theorem dX5_swap_82 : decode cX5_swap 82 = .ok (.iadd, 1) := by decide +kernel
theorem dX5_swap_83 : decode cX5_swap 83 = .ok (.iload 4, 2) := by decide +kernel
theorem dX5_swap_85 : decode cX5_swap 85 = .ok (.iadd, 1) := by decide +kernel
theorem dX5_swap_86 : decode cX5_swap 86 = .ok (.aload_n 0, 1) := by decide +kernel
theorem dX5_swap_87 : decode cX5_swap 87 = .ok (.iload_n 2, 1) := by decide +kernel
theorem dX5_swap_88 : decode cX5_swap 88 = .ok (.iload 4, 2) := by decide +kernel
theorem dX5_swap_90 : decode cX5_swap 90 = .ok (.invokevirtual 91, 3) := by decide +kernel
theorem dX5_swap_93 : decode cX5_swap 93 = .ok (.iastore, 1) := by decide +kernel
theorem dX5_swap_94 : decode cX5_swap 94 = .ok (.aload_n 0, 1) := by decide +kernel
theorem dX5_swap_95 : decode cX5_swap 95 = .ok (.getfield 7, 3) := by decide +kernel
theorem dX5_swap_98 : decode cX5_swap 98 = .ok (.bipush 13, 2) := by decide +kernel
theorem dX5_swap_100 : decode cX5_swap 100 = .ok (.bipush 12, 2) := by decide +kernel
theorem dX5_swap_102 : decode cX5_swap 102 = .ok (.iload_n 2, 1) := by decide +kernel
theorem dX5_swap_103 : decode cX5_swap 103 = .ok (.imul, 1) := by decide +kernel
theorem dX5_swap_104 : decode cX5_swap 104 = .ok (.iadd, 1) := by decide +kernel
theorem dX5_swap_105 : decode cX5_swap 105 = .ok (.iload 4, 2) := by decide +kernel
theorem dX5_swap_107 : decode cX5_swap 107 = .ok (.iadd, 1) := by decide +kernel
theorem dX5_swap_108 : decode cX5_swap 108 = .ok (.iload 5, 2) := by decide +kernel
theorem dX5_swap_110 : decode cX5_swap 110 = .ok (.iastore, 1) := by decide +kernel
theorem dX5_swap_111 : decode cX5_swap 111 = .ok (.iinc 4 1, 3) := by decide +kernel
theorem dX5_swap_114 : decode cX5_swap 114 = .ok (.goto (-78), 3) := by decide +kernel
theorem dX5_swap_117 : decode cX5_swap 117 = .ok (.aload_n 0, 1) := by decide +kernel
theorem dX5_swap_118 : decode cX5_swap 118 = .ok (.iload_n 3, 1) := by decide +kernel
theorem dX5_swap_119 : decode cX5_swap 119 = .ok (.invokevirtual 97, 3) := by decide +kernel
theorem dX5_swap_122 : decode cX5_swap 122 = .ok (.ireturn, 1) := by decide +kernel
theorem dX5_settles_0 : decode cX5_settles 0 = .ok (.iload_n 3, 1) := by decide +kernel
theorem dX5_settles_1 : decode cX5_settles 1 = .ok (.ifCond .ne 6, 3) := by decide +kernel
theorem dX5_settles_4 : decode cX5_settles 4 = .ok (.bipush (-102), 2) := by decide +kernel
theorem dX5_settles_6 : decode cX5_settles 6 = .ok (.ireturn, 1) := by decide +kernel
theorem dX5_settles_7 : decode cX5_settles 7 = .ok (.aload_n 0, 1) := by decide +kernel
theorem dX5_settles_8 : decode cX5_settles 8 = .ok (.getfield 7, 3) := by decide +kernel
theorem dX5_settles_11 : decode cX5_settles 11 = .ok (.iload_n 1, 1) := by decide +kernel
theorem dX5_settles_12 : decode cX5_settles 12 = .ok (.iaload, 1) := by decide +kernel
theorem dX5_settles_13 : decode cX5_settles 13 = .ok (.istore 4, 2) := by decide +kernel
theorem dX5_settles_15 : decode cX5_settles 15 = .ok (.iload 4, 2) := by decide +kernel
theorem dX5_settles_17 : decode cX5_settles 17 = .ok (.iload_n 2, 1) := by decide +kernel
theorem dX5_settles_18 : decode cX5_settles 18 = .ok (.if_icmp .ne 6, 3) := by decide +kernel
theorem dX5_settles_21 : decode cX5_settles 21 = .ok (.bipush (-105), 2) := by decide +kernel
theorem dX5_settles_23 : decode cX5_settles 23 = .ok (.ireturn, 1) := by decide +kernel
theorem dX5_settles_24 : decode cX5_settles 24 = .ok (.aload_n 0, 1) := by decide +kernel
theorem dX5_settles_25 : decode cX5_settles 25 = .ok (.invokevirtual 94, 3) := by decide +kernel
theorem dX5_settles_28 : decode cX5_settles 28 = .ok (.aload_n 0, 1) := by decide +kernel
theorem dX5_settles_29 : decode cX5_settles 29 = .ok (.getfield 7, 3) := by decide +kernel
theorem dX5_settles_32 : decode cX5_settles 32 = .ok (.iload_n 1, 1) := by decide +kernel
theorem dX5_settles_33 : decode cX5_settles 33 = .ok (.iload_n 2, 1) := by decide +kernel
theorem dX5_settles_34 : decode cX5_settles 34 = .ok (.iastore, 1) := by decide +kernel
theorem dX5_settles_35 : decode cX5_settles 35 = .ok (.iload_n 1, 1) := by decide +kernel
theorem dX5_settles_36 : decode cX5_settles 36 = .ok (.iconst 1, 1) := by decide +kernel
theorem dX5_settles_37 : decode cX5_settles 37 = .ok (.if_icmp .ne 7, 3) := by decide +kernel
theorem dX5_settles_40 : decode cX5_settles 40 = .ok (.aload_n 0, 1) := by decide +kernel
theorem dX5_settles_41 : decode cX5_settles 41 = .ok (.invokevirtual 34, 3) := by decide +kernel
theorem dX5_settles_44 : decode cX5_settles 44 = .ok (.aload_n 0, 1) := by decide +kernel
theorem dX5_settles_45 : decode cX5_settles 45 = .ok (.iload 4, 2) := by decide +kernel
theorem dX5_settles_47 : decode cX5_settles 47 = .ok (.invokevirtual 97, 3) := by decide +kernel
theorem dX5_settles_50 : decode cX5_settles 50 = .ok (.ireturn, 1) := by decide +kernel
theorem dX5_setPitch_0 : decode cX5_setPitch 0 = .ok (.aload_n 0, 1) := by decide +kernel
theorem dX5_setPitch_1 : decode cX5_setPitch 1 = .ok (.iconst 1, 1) := by decide +kernel
theorem dX5_setPitch_2 : decode cX5_setPitch 2 = .ok (.iload_n 1, 1) := by decide +kernel
theorem dX5_setPitch_3 : decode cX5_setPitch 3 = .ok (.iload_n 1, 1) := by decide +kernel
theorem dX5_setPitch_4 : decode cX5_setPitch 4 = .ok (.i2l, 1) := by decide +kernel
theorem dX5_setPitch_5 : decode cX5_setPitch 5 = .ok (.ldc2_w 100, 3) := by decide +kernel
theorem dX5_setPitch_8 : decode cX5_setPitch 8 = .ok (.ldc2_w 102, 3) := by decide +kernel
theorem dX5_setPitch_11 : decode cX5_setPitch 11 = .ok (.invokestatic 41, 3) := by decide +kernel
theorem dX5_setPitch_14 : decode cX5_setPitch 14 = .ok (.invokevirtual 104, 3) := by decide +kernel
theorem dX5_setPitch_17 : decode cX5_setPitch 17 = .ok (.ireturn, 1) := by decide +kernel
theorem dX5_setShift_0 : decode cX5_setShift 0 = .ok (.aload_n 0, 1) := by decide +kernel
theorem dX5_setShift_1 : decode cX5_setShift 1 = .ok (.iconst 2, 1) := by decide +kernel
theorem dX5_setShift_2 : decode cX5_setShift 2 = .ok (.iload_n 1, 1) := by decide +kernel
theorem dX5_setShift_3 : decode cX5_setShift 3 = .ok (.iload_n 1, 1) := by decide +kernel
theorem dX5_setShift_4 : decode cX5_setShift 4 = .ok (.i2l, 1) := by decide +kernel
theorem dX5_setShift_5 : decode cX5_setShift 5 = .ok (.ldc2_w 108, 3) := by decide +kernel
theorem dX5_setShift_8 : decode cX5_setShift 8 = .ok (.ldc2_w 110, 3) := by decide +kernel
theorem dX5_setShift_11 : decode cX5_setShift 11 = .ok (.invokestatic 41, 3) := by decide +kernel
theorem dX5_setShift_14 : decode cX5_setShift 14 = .ok (.invokevirtual 104, 3) := by decide +kernel
theorem dX5_setShift_17 : decode cX5_setShift 17 = .ok (.ireturn, 1) := by decide +kernel
theorem dX5_setLean_0 : decode cX5_setLean 0 = .ok (.aload_n 0, 1) := by decide +kernel
theorem dX5_setLean_1 : decode cX5_setLean 1 = .ok (.iconst 3, 1) := by decide +kernel
theorem dX5_setLean_2 : decode cX5_setLean 2 = .ok (.iload_n 1, 1) := by decide +kernel
theorem dX5_setLean_3 : decode cX5_setLean 3 = .ok (.iload_n 1, 1) := by decide +kernel
theorem dX5_setLean_4 : decode cX5_setLean 4 = .ok (.i2l, 1) := by decide +kernel
theorem dX5_setLean_5 : decode cX5_setLean 5 = .ok (.lconst 0, 1) := by decide +kernel
theorem dX5_setLean_6 : decode cX5_setLean 6 = .ok (.ldc2_w 110, 3) := by decide +kernel
theorem dX5_setLean_9 : decode cX5_setLean 9 = .ok (.invokestatic 41, 3) := by decide +kernel
theorem dX5_setLean_12 : decode cX5_setLean 12 = .ok (.invokevirtual 104, 3) := by decide +kernel
theorem dX5_setLean_15 : decode cX5_setLean 15 = .ok (.ireturn, 1) := by decide +kernel
theorem dX5_slice_0 : decode cX5_slice 0 = .ok (.aload_n 0, 1) := by decide +kernel
theorem dX5_slice_1 : decode cX5_slice 1 = .ok (.iload_n 1, 1) := by decide +kernel
theorem dX5_slice_2 : decode cX5_slice 2 = .ok (.invokevirtual 112, 3) := by decide +kernel
theorem dX5_slice_5 : decode cX5_slice 5 = .ok (.ifCond .eq 11, 3) := by decide +kernel
theorem dX5_slice_8 : decode cX5_slice 8 = .ok (.aload_n 0, 1) := by decide +kernel
theorem dX5_slice_9 : decode cX5_slice 9 = .ok (.iload_n 2, 1) := by decide +kernel
theorem dX5_slice_10 : decode cX5_slice 10 = .ok (.invokevirtual 84, 3) := by decide +kernel
theorem dX5_slice_13 : decode cX5_slice 13 = .ok (.ifCond .ne 6, 3) := by decide +kernel
theorem dX5_slice_16 : decode cX5_slice 16 = .ok (.bipush (-101), 2) := by decide +kernel
theorem dX5_slice_18 : decode cX5_slice 18 = .ok (.ireturn, 1) := by decide +kernel
theorem dX5_slice_19 : decode cX5_slice 19 = .ok (.aload_n 0, 1) := by decide +kernel
theorem dX5_slice_20 : decode cX5_slice 20 = .ok (.getfield 7, 3) := by decide +kernel
theorem dX5_slice_23 : decode cX5_slice 23 = .ok (.bipush 7, 2) := by decide +kernel
theorem dX5_slice_25 : decode cX5_slice 25 = .ok (.iload_n 1, 1) := by decide +kernel
theorem dX5_slice_26 : decode cX5_slice 26 = .ok (.iadd, 1) := by decide +kernel
theorem dX5_slice_27 : decode cX5_slice 27 = .ok (.iaload, 1) := by decide +kernel
theorem dX5_slice_28 : decode cX5_slice 28 = .ok (.istore_n 3, 1) := by decide +kernel
theorem dX5_slice_29 : decode cX5_slice 29 = .ok (.iload_n 3, 1) := by decide +kernel
theorem dX5_slice_30 : decode cX5_slice 30 = .ok (.iload_n 2, 1) := by decide +kernel
theorem dX5_slice_31 : decode cX5_slice 31 = .ok (.if_icmp .ne 6, 3) := by decide +kernel
theorem dX5_slice_34 : decode cX5_slice 34 = .ok (.bipush (-105), 2) := by decide +kernel
theorem dX5_slice_36 : decode cX5_slice 36 = .ok (.ireturn, 1) := by decide +kernel
theorem dX5_slice_37 : decode cX5_slice 37 = .ok (.aload_n 0, 1) := by decide +kernel
theorem dX5_slice_38 : decode cX5_slice 38 = .ok (.invokevirtual 94, 3) := by decide +kernel
theorem dX5_slice_41 : decode cX5_slice 41 = .ok (.aload_n 0, 1) := by decide +kernel
theorem dX5_slice_42 : decode cX5_slice 42 = .ok (.getfield 7, 3) := by decide +kernel
theorem dX5_slice_45 : decode cX5_slice 45 = .ok (.bipush 7, 2) := by decide +kernel
theorem dX5_slice_47 : decode cX5_slice 47 = .ok (.iload_n 1, 1) := by decide +kernel
theorem dX5_slice_48 : decode cX5_slice 48 = .ok (.iadd, 1) := by decide +kernel
theorem dX5_slice_49 : decode cX5_slice 49 = .ok (.iload_n 2, 1) := by decide +kernel
theorem dX5_slice_50 : decode cX5_slice 50 = .ok (.iastore, 1) := by decide +kernel
theorem dX5_slice_51 : decode cX5_slice 51 = .ok (.aload_n 0, 1) := by decide +kernel
theorem dX5_slice_52 : decode cX5_slice 52 = .ok (.iload_n 3, 1) := by decide +kernel
theorem dX5_slice_53 : decode cX5_slice 53 = .ok (.invokevirtual 97, 3) := by decide +kernel
theorem dX5_slice_56 : decode cX5_slice 56 = .ok (.ireturn, 1) := by decide +kernel
theorem dX5_laysOrder_0 : decode cX5_laysOrder 0 = .ok (.iload_n 1, 1) := by decide +kernel
theorem dX5_laysOrder_1 : decode cX5_laysOrder 1 = .ok (.istore_n 2, 1) := by decide +kernel
theorem dX5_laysOrder_2 : decode cX5_laysOrder 2 = .ok (.iconst 0, 1) := by decide +kernel
theorem dX5_laysOrder_3 : decode cX5_laysOrder 3 = .ok (.istore_n 3, 1) := by decide +kernel
theorem dX5_laysOrder_4 : decode cX5_laysOrder 4 = .ok (.aload_n 0, 1) := by decide +kernel
theorem dX5_laysOrder_5 : decode cX5_laysOrder 5 = .ok (.getfield 7, 3) := by decide +kernel
theorem dX5_laysOrder_8 : decode cX5_laysOrder 8 = .ok (.iconst 1, 1) := by decide +kernel
theorem dX5_laysOrder_9 : decode cX5_laysOrder 9 = .ok (.iaload, 1) := by decide +kernel
theorem dX5_laysOrder_10 : decode cX5_laysOrder 10 = .ok (.iconst 1, 1) := by decide +kernel
theorem dX5_laysOrder_11 : decode cX5_laysOrder 11 = .ok (.isub, 1) := by decide +kernel
theorem dX5_laysOrder_12 : decode cX5_laysOrder 12 = .ok (.istore 4, 2) := by decide +kernel
theorem dX5_laysOrder_14 : decode cX5_laysOrder 14 = .ok (.iload 4, 2) := by decide +kernel
theorem dX5_laysOrder_16 : decode cX5_laysOrder 16 = .ok (.ifCond .lt 51, 3) := by decide +kernel
theorem dX5_laysOrder_19 : decode cX5_laysOrder 19 = .ok (.aload_n 0, 1) := by decide +kernel
theorem dX5_laysOrder_20 : decode cX5_laysOrder 20 = .ok (.getfield 7, 3) := by decide +kernel
theorem dX5_laysOrder_23 : decode cX5_laysOrder 23 = .ok (.bipush 7, 2) := by decide +kernel
theorem dX5_laysOrder_25 : decode cX5_laysOrder 25 = .ok (.iload 4, 2) := by decide +kernel
theorem dX5_laysOrder_27 : decode cX5_laysOrder 27 = .ok (.iadd, 1) := by decide +kernel
theorem dX5_laysOrder_28 : decode cX5_laysOrder 28 = .ok (.iload_n 2, 1) := by decide +kernel
theorem dX5_laysOrder_29 : decode cX5_laysOrder 29 = .ok (.aload_n 0, 1) := by decide +kernel
theorem dX5_laysOrder_30 : decode cX5_laysOrder 30 = .ok (.getfield 7, 3) := by decide +kernel
theorem dX5_laysOrder_33 : decode cX5_laysOrder 33 = .ok (.iconst 0, 1) := by decide +kernel
theorem dX5_laysOrder_34 : decode cX5_laysOrder 34 = .ok (.iaload, 1) := by decide +kernel
theorem dX5_laysOrder_35 : decode cX5_laysOrder 35 = .ok (.irem, 1) := by decide +kernel
theorem dX5_laysOrder_36 : decode cX5_laysOrder 36 = .ok (.iastore, 1) := by decide +kernel
theorem dX5_laysOrder_37 : decode cX5_laysOrder 37 = .ok (.iload_n 2, 1) := by decide +kernel
theorem dX5_laysOrder_38 : decode cX5_laysOrder 38 = .ok (.aload_n 0, 1) := by decide +kernel
theorem dX5_laysOrder_39 : decode cX5_laysOrder 39 = .ok (.getfield 7, 3) := by decide +kernel
theorem dX5_laysOrder_42 : decode cX5_laysOrder 42 = .ok (.iconst 0, 1) := by decide +kernel
theorem dX5_laysOrder_43 : decode cX5_laysOrder 43 = .ok (.iaload, 1) := by decide +kernel
theorem dX5_laysOrder_44 : decode cX5_laysOrder 44 = .ok (.idiv, 1) := by decide +kernel
theorem dX5_laysOrder_45 : decode cX5_laysOrder 45 = .ok (.istore_n 2, 1) := by decide +kernel
theorem dX5_laysOrder_46 : decode cX5_laysOrder 46 = .ok (.iload_n 3, 1) := by decide +kernel
theorem dX5_laysOrder_47 : decode cX5_laysOrder 47 = .ok (.iconst 1, 1) := by decide +kernel
theorem dX5_laysOrder_48 : decode cX5_laysOrder 48 = .ok (.aload_n 0, 1) := by decide +kernel
theorem dX5_laysOrder_49 : decode cX5_laysOrder 49 = .ok (.getfield 7, 3) := by decide +kernel
theorem dX5_laysOrder_52 : decode cX5_laysOrder 52 = .ok (.bipush 7, 2) := by decide +kernel
theorem dX5_laysOrder_54 : decode cX5_laysOrder 54 = .ok (.iload 4, 2) := by decide +kernel
theorem dX5_laysOrder_56 : decode cX5_laysOrder 56 = .ok (.iadd, 1) := by decide +kernel
theorem dX5_laysOrder_57 : decode cX5_laysOrder 57 = .ok (.iaload, 1) := by decide +kernel
theorem dX5_laysOrder_58 : decode cX5_laysOrder 58 = .ok (.ishl, 1) := by decide +kernel
theorem dX5_laysOrder_59 : decode cX5_laysOrder 59 = .ok (.ior, 1) := by decide +kernel
theorem dX5_laysOrder_60 : decode cX5_laysOrder 60 = .ok (.istore_n 3, 1) := by decide +kernel
theorem dX5_laysOrder_61 : decode cX5_laysOrder 61 = .ok (.iinc 4 (-1), 3) := by decide +kernel
theorem dX5_laysOrder_64 : decode cX5_laysOrder 64 = .ok (.goto (-50), 3) := by decide +kernel
theorem dX5_laysOrder_67 : decode cX5_laysOrder 67 = .ok (.aload_n 0, 1) := by decide +kernel
theorem dX5_laysOrder_68 : decode cX5_laysOrder 68 = .ok (.getfield 7, 3) := by decide +kernel
theorem dX5_laysOrder_71 : decode cX5_laysOrder 71 = .ok (.iconst 1, 1) := by decide +kernel
theorem dX5_laysOrder_72 : decode cX5_laysOrder 72 = .ok (.iaload, 1) := by decide +kernel
theorem dX5_laysOrder_73 : decode cX5_laysOrder 73 = .ok (.aload_n 0, 1) := by decide +kernel
theorem dX5_laysOrder_74 : decode cX5_laysOrder 74 = .ok (.getfield 7, 3) := by decide +kernel
theorem dX5_laysOrder_77 : decode cX5_laysOrder 77 = .ok (.iconst 0, 1) := by decide +kernel
theorem dX5_laysOrder_78 : decode cX5_laysOrder 78 = .ok (.iaload, 1) := by decide +kernel
theorem dX5_laysOrder_79 : decode cX5_laysOrder 79 = .ok (.if_icmp .lt 17, 3) := by decide +kernel
theorem dX5_laysOrder_82 : decode cX5_laysOrder 82 = .ok (.iload_n 3, 1) := by decide +kernel
theorem dX5_laysOrder_83 : decode cX5_laysOrder 83 = .ok (.iconst 1, 1) := by decide +kernel
theorem dX5_laysOrder_84 : decode cX5_laysOrder 84 = .ok (.aload_n 0, 1) := by decide +kernel
theorem dX5_laysOrder_85 : decode cX5_laysOrder 85 = .ok (.getfield 7, 3) := by decide +kernel
theorem dX5_laysOrder_88 : decode cX5_laysOrder 88 = .ok (.iconst 0, 1) := by decide +kernel
theorem dX5_laysOrder_89 : decode cX5_laysOrder 89 = .ok (.iaload, 1) := by decide +kernel
theorem dX5_laysOrder_90 : decode cX5_laysOrder 90 = .ok (.ishl, 1) := by decide +kernel
theorem dX5_laysOrder_91 : decode cX5_laysOrder 91 = .ok (.iconst 1, 1) := by decide +kernel
theorem dX5_laysOrder_92 : decode cX5_laysOrder 92 = .ok (.isub, 1) := by decide +kernel
theorem dX5_laysOrder_93 : decode cX5_laysOrder 93 = .ok (.if_icmp .ne 7, 3) := by decide +kernel
theorem dX5_laysOrder_96 : decode cX5_laysOrder 96 = .ok (.iconst 1, 1) := by decide +kernel
theorem dX5_laysOrder_97 : decode cX5_laysOrder 97 = .ok (.goto 4, 3) := by decide +kernel
theorem dX5_laysOrder_100 : decode cX5_laysOrder 100 = .ok (.iconst 0, 1) := by decide +kernel
theorem dX5_laysOrder_101 : decode cX5_laysOrder 101 = .ok (.ireturn, 1) := by decide +kernel
theorem dX5_findsOrder_0 : decode cX5_findsOrder 0 = .ok (.aload_n 0, 1) := by decide +kernel
theorem dX5_findsOrder_1 : decode cX5_findsOrder 1 = .ok (.invokevirtual 71, 3) := by decide +kernel
theorem dX5_findsOrder_4 : decode cX5_findsOrder 4 = .ok (.iconst 1, 1) := by decide +kernel
theorem dX5_findsOrder_5 : decode cX5_findsOrder 5 = .ok (.istore_n 1, 1) := by decide +kernel
theorem dX5_findsOrder_6 : decode cX5_findsOrder 6 = .ok (.iconst 0, 1) := by decide +kernel
theorem dX5_findsOrder_7 : decode cX5_findsOrder 7 = .ok (.istore_n 2, 1) := by decide +kernel
theorem dX5_findsOrder_8 : decode cX5_findsOrder 8 = .ok (.iload_n 2, 1) := by decide +kernel
theorem dX5_findsOrder_9 : decode cX5_findsOrder 9 = .ok (.bipush 6, 2) := by decide +kernel
theorem dX5_findsOrder_11 : decode cX5_findsOrder 11 = .ok (.if_icmp .ge 47, 3) := by decide +kernel
theorem dX5_findsOrder_14 : decode cX5_findsOrder 14 = .ok (.aload_n 0, 1) := by decide +kernel
theorem dX5_findsOrder_15 : decode cX5_findsOrder 15 = .ok (.getfield 28, 3) := by decide +kernel
theorem dX5_findsOrder_18 : decode cX5_findsOrder 18 = .ok (.iload_n 2, 1) := by decide +kernel
theorem dX5_findsOrder_19 : decode cX5_findsOrder 19 = .ok (.aload_n 0, 1) := by decide +kernel
theorem dX5_findsOrder_20 : decode cX5_findsOrder 20 = .ok (.getfield 7, 3) := by decide +kernel
theorem dX5_findsOrder_23 : decode cX5_findsOrder 23 = .ok (.bipush 7, 2) := by decide +kernel
theorem dX5_findsOrder_25 : decode cX5_findsOrder 25 = .ok (.iload_n 2, 1) := by decide +kernel
theorem dX5_findsOrder_26 : decode cX5_findsOrder 26 = .ok (.iadd, 1) := by decide +kernel
theorem dX5_findsOrder_27 : decode cX5_findsOrder 27 = .ok (.iaload, 1) := by decide +kernel
theorem dX5_findsOrder_28 : decode cX5_findsOrder 28 = .ok (.iastore, 1) := by decide +kernel
theorem dX5_findsOrder_29 : decode cX5_findsOrder 29 = .ok (.iload_n 1, 1) := by decide +kernel
theorem dX5_findsOrder_30 : decode cX5_findsOrder 30 = .ok (.iload_n 2, 1) := by decide +kernel
theorem dX5_findsOrder_31 : decode cX5_findsOrder 31 = .ok (.aload_n 0, 1) := by decide +kernel
theorem dX5_findsOrder_32 : decode cX5_findsOrder 32 = .ok (.getfield 7, 3) := by decide +kernel
theorem dX5_findsOrder_35 : decode cX5_findsOrder 35 = .ok (.iconst 1, 1) := by decide +kernel
theorem dX5_findsOrder_36 : decode cX5_findsOrder 36 = .ok (.iaload, 1) := by decide +kernel
theorem dX5_findsOrder_37 : decode cX5_findsOrder 37 = .ok (.if_icmp .ge 12, 3) := by decide +kernel
theorem dX5_findsOrder_40 : decode cX5_findsOrder 40 = .ok (.aload_n 0, 1) := by decide +kernel
theorem dX5_findsOrder_41 : decode cX5_findsOrder 41 = .ok (.getfield 7, 3) := by decide +kernel
theorem dX5_findsOrder_44 : decode cX5_findsOrder 44 = .ok (.iconst 0, 1) := by decide +kernel
theorem dX5_findsOrder_45 : decode cX5_findsOrder 45 = .ok (.iaload, 1) := by decide +kernel
theorem dX5_findsOrder_46 : decode cX5_findsOrder 46 = .ok (.goto 4, 3) := by decide +kernel
theorem dX5_findsOrder_49 : decode cX5_findsOrder 49 = .ok (.iconst 1, 1) := by decide +kernel
theorem dX5_findsOrder_50 : decode cX5_findsOrder 50 = .ok (.imul, 1) := by decide +kernel
theorem dX5_findsOrder_51 : decode cX5_findsOrder 51 = .ok (.istore_n 1, 1) := by decide +kernel
theorem dX5_findsOrder_52 : decode cX5_findsOrder 52 = .ok (.iinc 2 1, 3) := by decide +kernel
theorem dX5_findsOrder_55 : decode cX5_findsOrder 55 = .ok (.goto (-47), 3) := by decide +kernel
theorem dX5_findsOrder_58 : decode cX5_findsOrder 58 = .ok (.iconst (-1), 1) := by decide +kernel
theorem dX5_findsOrder_59 : decode cX5_findsOrder 59 = .ok (.istore_n 2, 1) := by decide +kernel
theorem dX5_findsOrder_60 : decode cX5_findsOrder 60 = .ok (.iconst 0, 1) := by decide +kernel
theorem dX5_findsOrder_61 : decode cX5_findsOrder 61 = .ok (.istore_n 3, 1) := by decide +kernel
theorem dX5_findsOrder_62 : decode cX5_findsOrder 62 = .ok (.iload_n 3, 1) := by decide +kernel
theorem dX5_findsOrder_63 : decode cX5_findsOrder 63 = .ok (.iload_n 1, 1) := by decide +kernel
theorem dX5_findsOrder_64 : decode cX5_findsOrder 64 = .ok (.if_icmp .ge 78, 3) := by decide +kernel
theorem dX5_findsOrder_67 : decode cX5_findsOrder 67 = .ok (.aload_n 0, 1) := by decide +kernel
theorem dX5_findsOrder_68 : decode cX5_findsOrder 68 = .ok (.iload_n 3, 1) := by decide +kernel
theorem dX5_findsOrder_69 : decode cX5_findsOrder 69 = .ok (.invokevirtual 115, 3) := by decide +kernel
theorem dX5_findsOrder_72 : decode cX5_findsOrder 72 = .ok (.ifCond .eq 10, 3) := by decide +kernel
theorem dX5_findsOrder_75 : decode cX5_findsOrder 75 = .ok (.aload_n 0, 1) := by decide +kernel
theorem dX5_findsOrder_76 : decode cX5_findsOrder 76 = .ok (.invokevirtual 74, 3) := by decide +kernel
theorem dX5_findsOrder_79 : decode cX5_findsOrder 79 = .ok (.goto 4, 3) := by decide +kernel
theorem dX5_findsOrder_82 : decode cX5_findsOrder 82 = .ok (.iconst (-1), 1) := by decide +kernel
theorem dX5_findsOrder_83 : decode cX5_findsOrder 83 = .ok (.istore 4, 2) := by decide +kernel
theorem dX5_findsOrder_85 : decode cX5_findsOrder 85 = .ok (.iload 4, 2) := by decide +kernel
theorem dX5_findsOrder_87 : decode cX5_findsOrder 87 = .ok (.ifCond .lt 49, 3) := by decide +kernel
theorem dX5_findsOrder_90 : decode cX5_findsOrder 90 = .ok (.iload_n 2, 1) := by decide +kernel
theorem dX5_findsOrder_91 : decode cX5_findsOrder 91 = .ok (.ifCond .lt 9, 3) := by decide +kernel
theorem dX5_findsOrder_94 : decode cX5_findsOrder 94 = .ok (.iload 4, 2) := by decide +kernel
theorem dX5_findsOrder_96 : decode cX5_findsOrder 96 = .ok (.iload_n 2, 1) := by decide +kernel
theorem dX5_findsOrder_97 : decode cX5_findsOrder 97 = .ok (.if_icmp .ge 39, 3) := by decide +kernel
theorem dX5_findsOrder_100 : decode cX5_findsOrder 100 = .ok (.iload 4, 2) := by decide +kernel
theorem dX5_findsOrder_102 : decode cX5_findsOrder 102 = .ok (.istore_n 2, 1) := by decide +kernel
theorem dX5_findsOrder_103 : decode cX5_findsOrder 103 = .ok (.iconst 0, 1) := by decide +kernel
theorem dX5_findsOrder_104 : decode cX5_findsOrder 104 = .ok (.istore 5, 2) := by decide +kernel
theorem dX5_findsOrder_106 : decode cX5_findsOrder 106 = .ok (.iload 5, 2) := by decide +kernel
theorem dX5_findsOrder_108 : decode cX5_findsOrder 108 = .ok (.bipush 6, 2) := by decide +kernel
theorem dX5_findsOrder_110 : decode cX5_findsOrder 110 = .ok (.if_icmp .ge 26, 3) := by decide +kernel
theorem dX5_findsOrder_113 : decode cX5_findsOrder 113 = .ok (.aload_n 0, 1) := by decide +kernel
theorem dX5_findsOrder_114 : decode cX5_findsOrder 114 = .ok (.getfield 25, 3) := by decide +kernel
theorem dX5_findsOrder_117 : decode cX5_findsOrder 117 = .ok (.iload 5, 2) := by decide +kernel
theorem dX5_findsOrder_119 : decode cX5_findsOrder 119 = .ok (.aload_n 0, 1) := by decide +kernel
theorem dX5_findsOrder_120 : decode cX5_findsOrder 120 = .ok (.getfield 7, 3) := by decide +kernel
theorem dX5_findsOrder_123 : decode cX5_findsOrder 123 = .ok (.bipush 7, 2) := by decide +kernel
theorem dX5_findsOrder_125 : decode cX5_findsOrder 125 = .ok (.iload 5, 2) := by decide +kernel
theorem dX5_findsOrder_127 : decode cX5_findsOrder 127 = .ok (.iadd, 1) := by decide +kernel
theorem dX5_findsOrder_128 : decode cX5_findsOrder 128 = .ok (.iaload, 1) := by decide +kernel
theorem dX5_findsOrder_129 : decode cX5_findsOrder 129 = .ok (.iastore, 1) := by decide +kernel
theorem dX5_findsOrder_130 : decode cX5_findsOrder 130 = .ok (.iinc 5 1, 3) := by decide +kernel
theorem dX5_findsOrder_133 : decode cX5_findsOrder 133 = .ok (.goto (-27), 3) := by decide +kernel
theorem dX5_findsOrder_136 : decode cX5_findsOrder 136 = .ok (.iinc 3 1, 3) := by decide +kernel
theorem dX5_findsOrder_139 : decode cX5_findsOrder 139 = .ok (.goto (-77), 3) := by decide +kernel
theorem dX5_findsOrder_142 : decode cX5_findsOrder 142 = .ok (.iconst 0, 1) := by decide +kernel
theorem dX5_findsOrder_143 : decode cX5_findsOrder 143 = .ok (.istore_n 3, 1) := by decide +kernel
theorem dX5_findsOrder_144 : decode cX5_findsOrder 144 = .ok (.iload_n 3, 1) := by decide +kernel
theorem dX5_findsOrder_145 : decode cX5_findsOrder 145 = .ok (.bipush 6, 2) := by decide +kernel
theorem dX5_findsOrder_147 : decode cX5_findsOrder 147 = .ok (.if_icmp .ge 24, 3) := by decide +kernel
theorem dX5_findsOrder_150 : decode cX5_findsOrder 150 = .ok (.aload_n 0, 1) := by decide +kernel
theorem dX5_findsOrder_151 : decode cX5_findsOrder 151 = .ok (.getfield 7, 3) := by decide +kernel
theorem dX5_findsOrder_154 : decode cX5_findsOrder 154 = .ok (.bipush 7, 2) := by decide +kernel
theorem dX5_findsOrder_156 : decode cX5_findsOrder 156 = .ok (.iload_n 3, 1) := by decide +kernel
theorem dX5_findsOrder_157 : decode cX5_findsOrder 157 = .ok (.iadd, 1) := by decide +kernel
theorem dX5_findsOrder_158 : decode cX5_findsOrder 158 = .ok (.aload_n 0, 1) := by decide +kernel
theorem dX5_findsOrder_159 : decode cX5_findsOrder 159 = .ok (.getfield 28, 3) := by decide +kernel
theorem dX5_findsOrder_162 : decode cX5_findsOrder 162 = .ok (.iload_n 3, 1) := by decide +kernel
theorem dX5_findsOrder_163 : decode cX5_findsOrder 163 = .ok (.iaload, 1) := by decide +kernel
theorem dX5_findsOrder_164 : decode cX5_findsOrder 164 = .ok (.iastore, 1) := by decide +kernel
theorem dX5_findsOrder_165 : decode cX5_findsOrder 165 = .ok (.iinc 3 1, 3) := by decide +kernel
theorem dX5_findsOrder_168 : decode cX5_findsOrder 168 = .ok (.goto (-24), 3) := by decide +kernel
theorem dX5_findsOrder_171 : decode cX5_findsOrder 171 = .ok (.return_, 1) := by decide +kernel
theorem dX5_order_0 : decode cX5_order 0 = .ok (.aload_n 0, 1) := by decide +kernel
theorem dX5_order_1 : decode cX5_order 1 = .ok (.invokevirtual 118, 3) := by decide +kernel
theorem dX5_order_4 : decode cX5_order 4 = .ok (.iconst 1, 1) := by decide +kernel
theorem dX5_order_5 : decode cX5_order 5 = .ok (.istore_n 1, 1) := by decide +kernel
theorem dX5_order_6 : decode cX5_order 6 = .ok (.iconst 0, 1) := by decide +kernel
theorem dX5_order_7 : decode cX5_order 7 = .ok (.istore_n 2, 1) := by decide +kernel
theorem dX5_order_8 : decode cX5_order 8 = .ok (.iload_n 2, 1) := by decide +kernel
theorem dX5_order_9 : decode cX5_order 9 = .ok (.aload_n 0, 1) := by decide +kernel
theorem dX5_order_10 : decode cX5_order 10 = .ok (.getfield 7, 3) := by decide +kernel
theorem dX5_order_13 : decode cX5_order 13 = .ok (.iconst 1, 1) := by decide +kernel
theorem dX5_order_14 : decode cX5_order 14 = .ok (.iaload, 1) := by decide +kernel
theorem dX5_order_15 : decode cX5_order 15 = .ok (.if_icmp .ge 37, 3) := by decide +kernel
theorem dX5_order_18 : decode cX5_order 18 = .ok (.iload_n 1, 1) := by decide +kernel
theorem dX5_order_19 : decode cX5_order 19 = .ok (.ifCond .eq 25, 3) := by decide +kernel
theorem dX5_order_22 : decode cX5_order 22 = .ok (.aload_n 0, 1) := by decide +kernel
theorem dX5_order_23 : decode cX5_order 23 = .ok (.getfield 25, 3) := by decide +kernel
theorem dX5_order_26 : decode cX5_order 26 = .ok (.iload_n 2, 1) := by decide +kernel
theorem dX5_order_27 : decode cX5_order 27 = .ok (.iaload, 1) := by decide +kernel
theorem dX5_order_28 : decode cX5_order 28 = .ok (.aload_n 0, 1) := by decide +kernel
theorem dX5_order_29 : decode cX5_order 29 = .ok (.getfield 7, 3) := by decide +kernel
theorem dX5_order_32 : decode cX5_order 32 = .ok (.bipush 7, 2) := by decide +kernel
theorem dX5_order_34 : decode cX5_order 34 = .ok (.iload_n 2, 1) := by decide +kernel
theorem dX5_order_35 : decode cX5_order 35 = .ok (.iadd, 1) := by decide +kernel
theorem dX5_order_36 : decode cX5_order 36 = .ok (.iaload, 1) := by decide +kernel
theorem dX5_order_37 : decode cX5_order 37 = .ok (.if_icmp .ne 7, 3) := by decide +kernel
theorem dX5_order_40 : decode cX5_order 40 = .ok (.iconst 1, 1) := by decide +kernel
theorem dX5_order_41 : decode cX5_order 41 = .ok (.goto 4, 3) := by decide +kernel
theorem dX5_order_44 : decode cX5_order 44 = .ok (.iconst 0, 1) := by decide +kernel
theorem dX5_order_45 : decode cX5_order 45 = .ok (.istore_n 1, 1) := by decide +kernel
theorem dX5_order_46 : decode cX5_order 46 = .ok (.iinc 2 1, 3) := by decide +kernel
theorem dX5_order_49 : decode cX5_order 49 = .ok (.goto (-41), 3) := by decide +kernel
theorem dX5_order_52 : decode cX5_order 52 = .ok (.iload_n 1, 1) := by decide +kernel
theorem dX5_order_53 : decode cX5_order 53 = .ok (.ifCond .eq 6, 3) := by decide +kernel
theorem dX5_order_56 : decode cX5_order 56 = .ok (.bipush (-105), 2) := by decide +kernel
theorem dX5_order_58 : decode cX5_order 58 = .ok (.ireturn, 1) := by decide +kernel
theorem dX5_order_59 : decode cX5_order 59 = .ok (.aload_n 0, 1) := by decide +kernel
theorem dX5_order_60 : decode cX5_order 60 = .ok (.invokevirtual 94, 3) := by decide +kernel
theorem dX5_order_63 : decode cX5_order 63 = .ok (.iconst 0, 1) := by decide +kernel
theorem dX5_order_64 : decode cX5_order 64 = .ok (.istore_n 2, 1) := by decide +kernel
theorem dX5_order_65 : decode cX5_order 65 = .ok (.iload_n 2, 1) := by decide +kernel
theorem dX5_order_66 : decode cX5_order 66 = .ok (.aload_n 0, 1) := by decide +kernel
theorem dX5_order_67 : decode cX5_order 67 = .ok (.getfield 7, 3) := by decide +kernel
theorem dX5_order_70 : decode cX5_order 70 = .ok (.iconst 1, 1) := by decide +kernel
theorem dX5_order_71 : decode cX5_order 71 = .ok (.iaload, 1) := by decide +kernel
theorem dX5_order_72 : decode cX5_order 72 = .ok (.if_icmp .ge 24, 3) := by decide +kernel
theorem dX5_order_75 : decode cX5_order 75 = .ok (.aload_n 0, 1) := by decide +kernel
theorem dX5_order_76 : decode cX5_order 76 = .ok (.getfield 7, 3) := by decide +kernel
theorem dX5_order_79 : decode cX5_order 79 = .ok (.bipush 7, 2) := by decide +kernel
theorem dX5_order_81 : decode cX5_order 81 = .ok (.iload_n 2, 1) := by decide +kernel
theorem dX5_order_82 : decode cX5_order 82 = .ok (.iadd, 1) := by decide +kernel
theorem dX5_order_83 : decode cX5_order 83 = .ok (.aload_n 0, 1) := by decide +kernel
theorem dX5_order_84 : decode cX5_order 84 = .ok (.getfield 25, 3) := by decide +kernel
theorem dX5_order_87 : decode cX5_order 87 = .ok (.iload_n 2, 1) := by decide +kernel
theorem dX5_order_88 : decode cX5_order 88 = .ok (.iaload, 1) := by decide +kernel
theorem dX5_order_89 : decode cX5_order 89 = .ok (.iastore, 1) := by decide +kernel
theorem dX5_order_90 : decode cX5_order 90 = .ok (.iinc 2 1, 3) := by decide +kernel
theorem dX5_order_93 : decode cX5_order 93 = .ok (.goto (-28), 3) := by decide +kernel
theorem dX5_order_96 : decode cX5_order 96 = .ok (.aload_n 0, 1) := by decide +kernel
theorem dX5_order_97 : decode cX5_order 97 = .ok (.aload_n 0, 1) := by decide +kernel
theorem dX5_order_98 : decode cX5_order 98 = .ok (.invokevirtual 121, 3) := by decide +kernel
theorem dX5_order_101 : decode cX5_order 101 = .ok (.invokevirtual 97, 3) := by decide +kernel
theorem dX5_order_104 : decode cX5_order 104 = .ok (.ireturn, 1) := by decide +kernel
theorem dX5_press_0 : decode cX5_press 0 = .ok (.iload_n 1, 1) := by decide +kernel
theorem dX5_press_1 : decode cX5_press 1 = .ok (.i2l, 1) := by decide +kernel
theorem dX5_press_2 : decode cX5_press 2 = .ok (.lconst 1, 1) := by decide +kernel
theorem dX5_press_3 : decode cX5_press 3 = .ok (.ldc2_w 124, 3) := by decide +kernel
theorem dX5_press_6 : decode cX5_press 6 = .ok (.invokestatic 41, 3) := by decide +kernel
theorem dX5_press_9 : decode cX5_press 9 = .ok (.ifCond .ne 6, 3) := by decide +kernel
theorem dX5_press_12 : decode cX5_press 12 = .ok (.bipush (-102), 2) := by decide +kernel
theorem dX5_press_14 : decode cX5_press 14 = .ok (.ireturn, 1) := by decide +kernel
theorem dX5_press_15 : decode cX5_press 15 = .ok (.aload_n 0, 1) := by decide +kernel
theorem dX5_press_16 : decode cX5_press 16 = .ok (.getfield 7, 3) := by decide +kernel
theorem dX5_press_19 : decode cX5_press 19 = .ok (.iconst 4, 1) := by decide +kernel
theorem dX5_press_20 : decode cX5_press 20 = .ok (.iaload, 1) := by decide +kernel
theorem dX5_press_21 : decode cX5_press 21 = .ok (.iload_n 1, 1) := by decide +kernel
theorem dX5_press_22 : decode cX5_press 22 = .ok (.iadd, 1) := by decide +kernel
theorem dX5_press_23 : decode cX5_press 23 = .ok (.ldc 126, 2) := by decide +kernel
theorem dX5_press_25 : decode cX5_press 25 = .ok (.if_icmp .le 6, 3) := by decide +kernel
theorem dX5_press_28 : decode cX5_press 28 = .ok (.bipush (-103), 2) := by decide +kernel
theorem dX5_press_30 : decode cX5_press 30 = .ok (.ireturn, 1) := by decide +kernel
theorem dX5_press_31 : decode cX5_press 31 = .ok (.aload_n 0, 1) := by decide +kernel
theorem dX5_press_32 : decode cX5_press 32 = .ok (.invokevirtual 94, 3) := by decide +kernel
theorem dX5_press_35 : decode cX5_press 35 = .ok (.aload_n 0, 1) := by decide +kernel
theorem dX5_press_36 : decode cX5_press 36 = .ok (.iconst 1, 1) := by decide +kernel
theorem dX5_press_37 : decode cX5_press 37 = .ok (.invokevirtual 127, 3) := by decide +kernel
theorem dX5_press_40 : decode cX5_press 40 = .ok (.aload_n 0, 1) := by decide +kernel
theorem dX5_press_41 : decode cX5_press 41 = .ok (.getfield 7, 3) := by decide +kernel
theorem dX5_press_44 : decode cX5_press 44 = .ok (.iconst 0, 1) := by decide +kernel
theorem dX5_press_45 : decode cX5_press 45 = .ok (.iaload, 1) := by decide +kernel
theorem dX5_press_46 : decode cX5_press 46 = .ok (.if_icmp .ne 7, 3) := by decide +kernel
theorem dX5_press_49 : decode cX5_press 49 = .ok (.iload_n 1, 1) := by decide +kernel
theorem dX5_press_50 : decode cX5_press 50 = .ok (.goto 4, 3) := by decide +kernel
theorem dX5_press_53 : decode cX5_press 53 = .ok (.iconst 0, 1) := by decide +kernel
theorem dX5_press_54 : decode cX5_press 54 = .ok (.istore_n 2, 1) := by decide +kernel
theorem dX5_press_55 : decode cX5_press 55 = .ok (.aload_n 0, 1) := by decide +kernel
theorem dX5_press_56 : decode cX5_press 56 = .ok (.getfield 7, 3) := by decide +kernel
theorem dX5_press_59 : decode cX5_press 59 = .ok (.iconst 4, 1) := by decide +kernel
theorem dX5_press_60 : decode cX5_press 60 = .ok (.dup2, 1) := by decide +kernel
theorem dX5_press_61 : decode cX5_press 61 = .ok (.iaload, 1) := by decide +kernel
theorem dX5_press_62 : decode cX5_press 62 = .ok (.iload_n 1, 1) := by decide +kernel
theorem dX5_press_63 : decode cX5_press 63 = .ok (.iadd, 1) := by decide +kernel
theorem dX5_press_64 : decode cX5_press 64 = .ok (.iastore, 1) := by decide +kernel
theorem dX5_press_65 : decode cX5_press 65 = .ok (.aload_n 0, 1) := by decide +kernel
theorem dX5_press_66 : decode cX5_press 66 = .ok (.getfield 7, 3) := by decide +kernel
theorem dX5_press_69 : decode cX5_press 69 = .ok (.iconst 5, 1) := by decide +kernel
theorem dX5_press_70 : decode cX5_press 70 = .ok (.dup2, 1) := by decide +kernel
theorem dX5_press_71 : decode cX5_press 71 = .ok (.iaload, 1) := by decide +kernel
theorem dX5_press_72 : decode cX5_press 72 = .ok (.iload_n 2, 1) := by decide +kernel
theorem dX5_press_73 : decode cX5_press 73 = .ok (.iadd, 1) := by decide +kernel
theorem dX5_press_74 : decode cX5_press 74 = .ok (.iastore, 1) := by decide +kernel
theorem dX5_press_75 : decode cX5_press 75 = .ok (.aload_n 0, 1) := by decide +kernel
theorem dX5_press_76 : decode cX5_press 76 = .ok (.getfield 7, 3) := by decide +kernel
theorem dX5_press_79 : decode cX5_press 79 = .ok (.bipush 6, 2) := by decide +kernel
theorem dX5_press_81 : decode cX5_press 81 = .ok (.dup2, 1) := by decide +kernel
theorem dX5_press_82 : decode cX5_press 82 = .ok (.iaload, 1) := by decide +kernel
theorem dX5_press_83 : decode cX5_press 83 = .ok (.iload_n 1, 1) := by decide +kernel
theorem dX5_press_84 : decode cX5_press 84 = .ok (.iconst 3, 1) := by decide +kernel
theorem dX5_press_85 : decode cX5_press 85 = .ok (.aload_n 0, 1) := by decide +kernel
theorem dX5_press_86 : decode cX5_press 86 = .ok (.getfield 7, 3) := by decide +kernel
theorem dX5_press_89 : decode cX5_press 89 = .ok (.iconst 1, 1) := by decide +kernel
theorem dX5_press_90 : decode cX5_press 90 = .ok (.iaload, 1) := by decide +kernel
theorem dX5_press_91 : decode cX5_press 91 = .ok (.iadd, 1) := by decide +kernel
theorem dX5_press_92 : decode cX5_press 92 = .ok (.imul, 1) := by decide +kernel
theorem dX5_press_93 : decode cX5_press 93 = .ok (.iadd, 1) := by decide +kernel
theorem dX5_press_94 : decode cX5_press 94 = .ok (.iastore, 1) := by decide +kernel
theorem dX5_press_95 : decode cX5_press 95 = .ok (.aload_n 0, 1) := by decide +kernel
theorem dX5_press_96 : decode cX5_press 96 = .ok (.iload_n 2, 1) := by decide +kernel
theorem dX5_press_97 : decode cX5_press 97 = .ok (.invokevirtual 97, 3) := by decide +kernel
theorem dX5_press_100 : decode cX5_press 100 = .ok (.ireturn, 1) := by decide +kernel
theorem dX5_type_0 : decode cX5_type 0 = .ok (.aload_n 0, 1) := by decide +kernel
theorem dX5_type_1 : decode cX5_type 1 = .ok (.getfield 131, 3) := by decide +kernel
theorem dX5_type_4 : decode cX5_type 4 = .ok (.bipush 80, 2) := by decide +kernel
theorem dX5_type_6 : decode cX5_type 6 = .ok (.if_icmp .ne 6, 3) := by decide +kernel
theorem dX5_type_9 : decode cX5_type 9 = .ok (.bipush (-103), 2) := by decide +kernel
theorem dX5_type_11 : decode cX5_type 11 = .ok (.ireturn, 1) := by decide +kernel
theorem dX5_type_12 : decode cX5_type 12 = .ok (.aload_n 0, 1) := by decide +kernel
theorem dX5_type_13 : decode cX5_type 13 = .ok (.getfield 31, 3) := by decide +kernel
theorem dX5_type_16 : decode cX5_type 16 = .ok (.aload_n 0, 1) := by decide +kernel
theorem dX5_type_17 : decode cX5_type 17 = .ok (.getfield 131, 3) := by decide +kernel
theorem dX5_type_20 : decode cX5_type 20 = .ok (.iload_n 1, 1) := by decide +kernel
theorem dX5_type_21 : decode cX5_type 21 = .ok (.iastore, 1) := by decide +kernel
theorem dX5_type_22 : decode cX5_type 22 = .ok (.aload_n 0, 1) := by decide +kernel
theorem dX5_type_23 : decode cX5_type 23 = .ok (.dup, 1) := by decide +kernel
theorem dX5_type_24 : decode cX5_type 24 = .ok (.getfield 131, 3) := by decide +kernel
theorem dX5_type_27 : decode cX5_type 27 = .ok (.iconst 1, 1) := by decide +kernel
theorem dX5_type_28 : decode cX5_type 28 = .ok (.iadd, 1) := by decide +kernel
theorem dX5_type_29 : decode cX5_type 29 = .ok (.putfield 131, 3) := by decide +kernel
theorem dX5_type_32 : decode cX5_type 32 = .ok (.aload_n 0, 1) := by decide +kernel
theorem dX5_type_33 : decode cX5_type 33 = .ok (.getfield 131, 3) := by decide +kernel
theorem dX5_type_36 : decode cX5_type 36 = .ok (.ireturn, 1) := by decide +kernel
theorem dX5_clearText_0 : decode cX5_clearText 0 = .ok (.aload_n 0, 1) := by decide +kernel
theorem dX5_clearText_1 : decode cX5_clearText 1 = .ok (.getfield 131, 3) := by decide +kernel
theorem dX5_clearText_4 : decode cX5_clearText 4 = .ok (.istore_n 1, 1) := by decide +kernel
theorem dX5_clearText_5 : decode cX5_clearText 5 = .ok (.aload_n 0, 1) := by decide +kernel
theorem dX5_clearText_6 : decode cX5_clearText 6 = .ok (.iconst 0, 1) := by decide +kernel
theorem dX5_clearText_7 : decode cX5_clearText 7 = .ok (.putfield 131, 3) := by decide +kernel
theorem dX5_clearText_10 : decode cX5_clearText 10 = .ok (.iload_n 1, 1) := by decide +kernel
theorem dX5_clearText_11 : decode cX5_clearText 11 = .ok (.ireturn, 1) := by decide +kernel
theorem dX5_isHere_0 : decode cX5_isHere 0 = .ok (.aload_n 0, 1) := by decide +kernel
theorem dX5_isHere_1 : decode cX5_isHere 1 = .ok (.getfield 134, 3) := by decide +kernel
theorem dX5_isHere_4 : decode cX5_isHere 4 = .ok (.aload_n 0, 1) := by decide +kernel
theorem dX5_isHere_5 : decode cX5_isHere 5 = .ok (.getfield 131, 3) := by decide +kernel
theorem dX5_isHere_8 : decode cX5_isHere 8 = .ok (.if_icmp .ge 27, 3) := by decide +kernel
theorem dX5_isHere_11 : decode cX5_isHere 11 = .ok (.aload_n 0, 1) := by decide +kernel
theorem dX5_isHere_12 : decode cX5_isHere 12 = .ok (.getfield 31, 3) := by decide +kernel
theorem dX5_isHere_15 : decode cX5_isHere 15 = .ok (.aload_n 0, 1) := by decide +kernel
theorem dX5_isHere_16 : decode cX5_isHere 16 = .ok (.getfield 134, 3) := by decide +kernel
theorem dX5_isHere_19 : decode cX5_isHere 19 = .ok (.iaload, 1) := by decide +kernel
theorem dX5_isHere_20 : decode cX5_isHere 20 = .ok (.i2l, 1) := by decide +kernel
theorem dX5_isHere_21 : decode cX5_isHere 21 = .ok (.iload_n 1, 1) := by decide +kernel
theorem dX5_isHere_22 : decode cX5_isHere 22 = .ok (.i2l, 1) := by decide +kernel
theorem dX5_isHere_23 : decode cX5_isHere 23 = .ok (.iload_n 2, 1) := by decide +kernel
theorem dX5_isHere_24 : decode cX5_isHere 24 = .ok (.i2l, 1) := by decide +kernel
theorem dX5_isHere_25 : decode cX5_isHere 25 = .ok (.invokestatic 41, 3) := by decide +kernel
theorem dX5_isHere_28 : decode cX5_isHere 28 = .ok (.ifCond .eq 7, 3) := by decide +kernel
theorem dX5_isHere_31 : decode cX5_isHere 31 = .ok (.iconst 1, 1) := by decide +kernel
theorem dX5_isHere_32 : decode cX5_isHere 32 = .ok (.goto 4, 3) := by decide +kernel
theorem dX5_isHere_35 : decode cX5_isHere 35 = .ok (.iconst 0, 1) := by decide +kernel
theorem dX5_isHere_36 : decode cX5_isHere 36 = .ok (.ireturn, 1) := by decide +kernel
theorem dX5_takes_0 : decode cX5_takes 0 = .ok (.aload_n 0, 1) := by decide +kernel
theorem dX5_takes_1 : decode cX5_takes 1 = .ok (.iload_n 1, 1) := by decide +kernel
theorem dX5_takes_2 : decode cX5_takes 2 = .ok (.iload_n 1, 1) := by decide +kernel
theorem dX5_takes_3 : decode cX5_takes 3 = .ok (.invokevirtual 137, 3) := by decide +kernel
theorem dX5_takes_6 : decode cX5_takes 6 = .ok (.istore_n 2, 1) := by decide +kernel
theorem dX5_takes_7 : decode cX5_takes 7 = .ok (.aload_n 0, 1) := by decide +kernel
theorem dX5_takes_8 : decode cX5_takes 8 = .ok (.dup, 1) := by decide +kernel
theorem dX5_takes_9 : decode cX5_takes 9 = .ok (.getfield 134, 3) := by decide +kernel
theorem dX5_takes_12 : decode cX5_takes 12 = .ok (.iload_n 2, 1) := by decide +kernel
theorem dX5_takes_13 : decode cX5_takes 13 = .ok (.ifCond .eq 7, 3) := by decide +kernel
theorem dX5_takes_16 : decode cX5_takes 16 = .ok (.iconst 1, 1) := by decide +kernel
theorem dX5_takes_17 : decode cX5_takes 17 = .ok (.goto 4, 3) := by decide +kernel
theorem dX5_takes_20 : decode cX5_takes 20 = .ok (.iconst 0, 1) := by decide +kernel
theorem dX5_takes_21 : decode cX5_takes 21 = .ok (.iadd, 1) := by decide +kernel
theorem dX5_takes_22 : decode cX5_takes 22 = .ok (.putfield 134, 3) := by decide +kernel
theorem dX5_takes_25 : decode cX5_takes 25 = .ok (.iload_n 2, 1) := by decide +kernel
theorem dX5_takes_26 : decode cX5_takes 26 = .ok (.ireturn, 1) := by decide +kernel
theorem dX5_readsDigits_0 : decode cX5_readsDigits 0 = .ok (.iconst 0, 1) := by decide +kernel
theorem dX5_readsDigits_1 : decode cX5_readsDigits 1 = .ok (.istore_n 3, 1) := by decide +kernel
theorem dX5_readsDigits_2 : decode cX5_readsDigits 2 = .ok (.iload_n 3, 1) := by decide +kernel
theorem dX5_readsDigits_3 : decode cX5_readsDigits 3 = .ok (.iload_n 1, 1) := by decide +kernel
theorem dX5_readsDigits_4 : decode cX5_readsDigits 4 = .ok (.if_icmp .ge 34, 3) := by decide +kernel
theorem dX5_readsDigits_7 : decode cX5_readsDigits 7 = .ok (.aload_n 0, 1) := by decide +kernel
theorem dX5_readsDigits_8 : decode cX5_readsDigits 8 = .ok (.bipush 48, 2) := by decide +kernel
theorem dX5_readsDigits_10 : decode cX5_readsDigits 10 = .ok (.bipush 48, 2) := by decide +kernel
theorem dX5_readsDigits_12 : decode cX5_readsDigits 12 = .ok (.iload_n 2, 1) := by decide +kernel
theorem dX5_readsDigits_13 : decode cX5_readsDigits 13 = .ok (.iadd, 1) := by decide +kernel
theorem dX5_readsDigits_14 : decode cX5_readsDigits 14 = .ok (.iconst 1, 1) := by decide +kernel
theorem dX5_readsDigits_15 : decode cX5_readsDigits 15 = .ok (.isub, 1) := by decide +kernel
theorem dX5_readsDigits_16 : decode cX5_readsDigits 16 = .ok (.invokevirtual 137, 3) := by decide +kernel
theorem dX5_readsDigits_19 : decode cX5_readsDigits 19 = .ok (.ifCond .eq 19, 3) := by decide +kernel
theorem dX5_readsDigits_22 : decode cX5_readsDigits 22 = .ok (.aload_n 0, 1) := by decide +kernel
theorem dX5_readsDigits_23 : decode cX5_readsDigits 23 = .ok (.dup, 1) := by decide +kernel
theorem dX5_readsDigits_24 : decode cX5_readsDigits 24 = .ok (.getfield 134, 3) := by decide +kernel
theorem dX5_readsDigits_27 : decode cX5_readsDigits 27 = .ok (.iconst 1, 1) := by decide +kernel
theorem dX5_readsDigits_28 : decode cX5_readsDigits 28 = .ok (.iadd, 1) := by decide +kernel
theorem dX5_readsDigits_29 : decode cX5_readsDigits 29 = .ok (.putfield 134, 3) := by decide +kernel
theorem dX5_readsDigits_32 : decode cX5_readsDigits 32 = .ok (.iinc 3 1, 3) := by decide +kernel
theorem dX5_readsDigits_35 : decode cX5_readsDigits 35 = .ok (.goto (-33), 3) := by decide +kernel
theorem dX5_readsDigits_38 : decode cX5_readsDigits 38 = .ok (.iload_n 3, 1) := by decide +kernel
theorem dX5_readsDigits_39 : decode cX5_readsDigits 39 = .ok (.ireturn, 1) := by decide +kernel
theorem dX5_fault_0 : decode cX5_fault 0 = .ok (.aload_n 0, 1) := by decide +kernel
theorem dX5_fault_1 : decode cX5_fault 1 = .ok (.iconst 0, 1) := by decide +kernel
theorem dX5_fault_2 : decode cX5_fault 2 = .ok (.putfield 134, 3) := by decide +kernel
theorem dX5_fault_5 : decode cX5_fault 5 = .ok (.aload_n 0, 1) := by decide +kernel
theorem dX5_fault_6 : decode cX5_fault 6 = .ok (.iconst 0, 1) := by decide +kernel
theorem dX5_fault_7 : decode cX5_fault 7 = .ok (.putfield 140, 3) := by decide +kernel
theorem dX5_fault_10 : decode cX5_fault 10 = .ok (.aload_n 0, 1) := by decide +kernel
theorem dX5_fault_11 : decode cX5_fault 11 = .ok (.bipush (-105), 2) := by decide +kernel
theorem dX5_fault_13 : decode cX5_fault 13 = .ok (.putfield 143, 3) := by decide +kernel
theorem dX5_fault_16 : decode cX5_fault 16 = .ok (.iconst 1, 1) := by decide +kernel
theorem dX5_fault_17 : decode cX5_fault 17 = .ok (.istore_n 1, 1) := by decide +kernel
theorem dX5_fault_18 : decode cX5_fault 18 = .ok (.iload_n 1, 1) := by decide +kernel
theorem dX5_fault_19 : decode cX5_fault 19 = .ok (.ifCond .eq 57, 3) := by decide +kernel
theorem dX5_fault_22 : decode cX5_fault 22 = .ok (.aload_n 0, 1) := by decide +kernel
theorem dX5_fault_23 : decode cX5_fault 23 = .ok (.bipush 12, 2) := by decide +kernel
theorem dX5_fault_25 : decode cX5_fault 25 = .ok (.bipush 10, 2) := by decide +kernel
theorem dX5_fault_27 : decode cX5_fault 27 = .ok (.invokevirtual 146, 3) := by decide +kernel
theorem dX5_fault_30 : decode cX5_fault 30 = .ok (.bipush 12, 2) := by decide +kernel
theorem dX5_fault_32 : decode cX5_fault 32 = .ok (.if_icmp .ge 8, 3) := by decide +kernel
theorem dX5_fault_35 : decode cX5_fault 35 = .ok (.aload_n 0, 1) := by decide +kernel
theorem dX5_fault_36 : decode cX5_fault 36 = .ok (.getfield 134, 3) := by decide +kernel
theorem dX5_fault_39 : decode cX5_fault 39 = .ok (.ireturn, 1) := by decide +kernel
theorem dX5_fault_40 : decode cX5_fault 40 = .ok (.aload_n 0, 1) := by decide +kernel
theorem dX5_fault_41 : decode cX5_fault 41 = .ok (.dup, 1) := by decide +kernel
theorem dX5_fault_42 : decode cX5_fault 42 = .ok (.getfield 140, 3) := by decide +kernel
theorem dX5_fault_45 : decode cX5_fault 45 = .ok (.iconst 1, 1) := by decide +kernel
theorem dX5_fault_46 : decode cX5_fault 46 = .ok (.iadd, 1) := by decide +kernel
theorem dX5_fault_47 : decode cX5_fault 47 = .ok (.putfield 140, 3) := by decide +kernel
theorem dX5_fault_50 : decode cX5_fault 50 = .ok (.aload_n 0, 1) := by decide +kernel
theorem dX5_fault_51 : decode cX5_fault 51 = .ok (.getfield 140, 3) := by decide +kernel
theorem dX5_fault_54 : decode cX5_fault 54 = .ok (.iconst 4, 1) := by decide +kernel
theorem dX5_fault_55 : decode cX5_fault 55 = .ok (.if_icmp .ge 16, 3) := by decide +kernel
theorem dX5_fault_58 : decode cX5_fault 58 = .ok (.aload_n 0, 1) := by decide +kernel
theorem dX5_fault_59 : decode cX5_fault 59 = .ok (.bipush 47, 2) := by decide +kernel
theorem dX5_fault_61 : decode cX5_fault 61 = .ok (.invokevirtual 149, 3) := by decide +kernel
theorem dX5_fault_64 : decode cX5_fault 64 = .ok (.ifCond .eq 7, 3) := by decide +kernel
theorem dX5_fault_67 : decode cX5_fault 67 = .ok (.iconst 1, 1) := by decide +kernel
theorem dX5_fault_68 : decode cX5_fault 68 = .ok (.goto 4, 3) := by decide +kernel
theorem dX5_fault_71 : decode cX5_fault 71 = .ok (.iconst 0, 1) := by decide +kernel
theorem dX5_fault_72 : decode cX5_fault 72 = .ok (.istore_n 1, 1) := by decide +kernel
theorem dX5_fault_73 : decode cX5_fault 73 = .ok (.goto (-55), 3) := by decide +kernel
theorem dX5_fault_76 : decode cX5_fault 76 = .ok (.aload_n 0, 1) := by decide +kernel
theorem dX5_fault_77 : decode cX5_fault 77 = .ok (.getfield 140, 3) := by decide +kernel
theorem dX5_fault_80 : decode cX5_fault 80 = .ok (.iconst 2, 1) := by decide +kernel
theorem dX5_fault_81 : decode cX5_fault 81 = .ok (.if_icmp .ge 8, 3) := by decide +kernel
theorem dX5_fault_84 : decode cX5_fault 84 = .ok (.aload_n 0, 1) := by decide +kernel
theorem dX5_fault_85 : decode cX5_fault 85 = .ok (.getfield 134, 3) := by decide +kernel
theorem dX5_fault_88 : decode cX5_fault 88 = .ok (.ireturn, 1) := by decide +kernel
theorem dX5_fault_89 : decode cX5_fault 89 = .ok (.aload_n 0, 1) := by decide +kernel
theorem dX5_fault_90 : decode cX5_fault 90 = .ok (.bipush 58, 2) := by decide +kernel
theorem dX5_fault_92 : decode cX5_fault 92 = .ok (.invokevirtual 149, 3) := by decide +kernel
theorem dX5_fault_95 : decode cX5_fault 95 = .ok (.ifCond .eq 38, 3) := by decide +kernel
theorem dX5_fault_98 : decode cX5_fault 98 = .ok (.aload_n 0, 1) := by decide +kernel
theorem dX5_fault_99 : decode cX5_fault 99 = .ok (.aload_n 0, 1) := by decide +kernel
theorem dX5_fault_100 : decode cX5_fault 100 = .ok (.getfield 134, 3) := by decide +kernel
theorem dX5_fault_103 : decode cX5_fault 103 = .ok (.putfield 152, 3) := by decide +kernel
theorem dX5_fault_106 : decode cX5_fault 106 = .ok (.aload_n 0, 1) := by decide +kernel
theorem dX5_fault_107 : decode cX5_fault 107 = .ok (.aload_n 0, 1) := by decide +kernel
theorem dX5_fault_108 : decode cX5_fault 108 = .ok (.bipush 6, 2) := by decide +kernel
theorem dX5_fault_110 : decode cX5_fault 110 = .ok (.aload_n 0, 1) := by decide +kernel
theorem dX5_fault_111 : decode cX5_fault 111 = .ok (.getfield 140, 3) := by decide +kernel
theorem dX5_fault_114 : decode cX5_fault 114 = .ok (.invokevirtual 146, 3) := by decide +kernel
theorem dX5_fault_117 : decode cX5_fault 117 = .ok (.putfield 143, 3) := by decide +kernel
theorem dX5_fault_120 : decode cX5_fault 120 = .ok (.aload_n 0, 1) := by decide +kernel
theorem dX5_fault_121 : decode cX5_fault 121 = .ok (.getfield 143, 3) := by decide +kernel
theorem dX5_fault_124 : decode cX5_fault 124 = .ok (.iconst 2, 1) := by decide +kernel
theorem dX5_fault_125 : decode cX5_fault 125 = .ok (.if_icmp .ge 8, 3) := by decide +kernel
theorem dX5_fault_128 : decode cX5_fault 128 = .ok (.aload_n 0, 1) := by decide +kernel
theorem dX5_fault_129 : decode cX5_fault 129 = .ok (.getfield 134, 3) := by decide +kernel
theorem dX5_fault_132 : decode cX5_fault 132 = .ok (.ireturn, 1) := by decide +kernel
theorem dX5_fault_133 : decode cX5_fault 133 = .ok (.aload_n 0, 1) := by decide +kernel
theorem dX5_fault_134 : decode cX5_fault 134 = .ok (.getfield 134, 3) := by decide +kernel
theorem dX5_fault_137 : decode cX5_fault 137 = .ok (.aload_n 0, 1) := by decide +kernel
theorem dX5_fault_138 : decode cX5_fault 138 = .ok (.getfield 131, 3) := by decide +kernel
theorem dX5_fault_141 : decode cX5_fault 141 = .ok (.if_icmp .ne 8, 3) := by decide +kernel
theorem dX5_fault_144 : decode cX5_fault 144 = .ok (.bipush (-105), 2) := by decide +kernel
theorem dX5_fault_146 : decode cX5_fault 146 = .ok (.goto 7, 3) := by decide +kernel
theorem dX5_fault_149 : decode cX5_fault 149 = .ok (.aload_n 0, 1) := by decide +kernel
theorem dX5_fault_150 : decode cX5_fault 150 = .ok (.getfield 134, 3) := by decide +kernel
theorem dX5_fault_153 : decode cX5_fault 153 = .ok (.ireturn, 1) := by decide +kernel
theorem dX5_read_0 : decode cX5_read 0 = .ok (.aload_n 0, 1) := by decide +kernel
theorem dX5_read_1 : decode cX5_read 1 = .ok (.invokevirtual 155, 3) := by decide +kernel
theorem dX5_read_4 : decode cX5_read 4 = .ok (.istore_n 1, 1) := by decide +kernel
theorem dX5_read_5 : decode cX5_read 5 = .ok (.iload_n 1, 1) := by decide +kernel
theorem dX5_read_6 : decode cX5_read 6 = .ok (.bipush (-105), 2) := by decide +kernel
theorem dX5_read_8 : decode cX5_read 8 = .ok (.if_icmp .eq 9, 3) := by decide +kernel
theorem dX5_read_11 : decode cX5_read 11 = .ok (.sipush (-200), 3) := by decide +kernel
theorem dX5_read_14 : decode cX5_read 14 = .ok (.iload_n 1, 1) := by decide +kernel
theorem dX5_read_15 : decode cX5_read 15 = .ok (.isub, 1) := by decide +kernel
theorem dX5_read_16 : decode cX5_read 16 = .ok (.ireturn, 1) := by decide +kernel
theorem dX5_read_17 : decode cX5_read 17 = .ok (.aload_n 0, 1) := by decide +kernel
theorem dX5_read_18 : decode cX5_read 18 = .ok (.invokevirtual 94, 3) := by decide +kernel
theorem dX5_read_21 : decode cX5_read 21 = .ok (.aload_n 0, 1) := by decide +kernel
theorem dX5_read_22 : decode cX5_read 22 = .ok (.getfield 7, 3) := by decide +kernel
theorem dX5_read_25 : decode cX5_read 25 = .ok (.iconst 0, 1) := by decide +kernel
theorem dX5_read_26 : decode cX5_read 26 = .ok (.aload_n 0, 1) := by decide +kernel
theorem dX5_read_27 : decode cX5_read 27 = .ok (.getfield 140, 3) := by decide +kernel
theorem dX5_read_30 : decode cX5_read 30 = .ok (.iastore, 1) := by decide +kernel
theorem dX5_read_31 : decode cX5_read 31 = .ok (.iconst 0, 1) := by decide +kernel
theorem dX5_read_32 : decode cX5_read 32 = .ok (.istore_n 2, 1) := by decide +kernel
theorem dX5_read_33 : decode cX5_read 33 = .ok (.iload_n 2, 1) := by decide +kernel
theorem dX5_read_34 : decode cX5_read 34 = .ok (.iconst 4, 1) := by decide +kernel
theorem dX5_read_35 : decode cX5_read 35 = .ok (.if_icmp .ge 63, 3) := by decide +kernel
theorem dX5_read_38 : decode cX5_read 38 = .ok (.iconst 0, 1) := by decide +kernel
theorem dX5_read_39 : decode cX5_read 39 = .ok (.istore_n 3, 1) := by decide +kernel
theorem dX5_read_40 : decode cX5_read 40 = .ok (.iload_n 3, 1) := by decide +kernel
theorem dX5_read_41 : decode cX5_read 41 = .ok (.bipush 12, 2) := by decide +kernel
theorem dX5_read_43 : decode cX5_read 43 = .ok (.if_icmp .ge 49, 3) := by decide +kernel
theorem dX5_read_46 : decode cX5_read 46 = .ok (.aload_n 0, 1) := by decide +kernel
theorem dX5_read_47 : decode cX5_read 47 = .ok (.getfield 7, 3) := by decide +kernel
theorem dX5_read_50 : decode cX5_read 50 = .ok (.bipush 13, 2) := by decide +kernel
theorem dX5_read_52 : decode cX5_read 52 = .ok (.bipush 12, 2) := by decide +kernel
theorem dX5_read_54 : decode cX5_read 54 = .ok (.iload_n 2, 1) := by decide +kernel
theorem dX5_read_55 : decode cX5_read 55 = .ok (.imul, 1) := by decide +kernel
theorem dX5_read_56 : decode cX5_read 56 = .ok (.iadd, 1) := by decide +kernel
theorem dX5_read_57 : decode cX5_read 57 = .ok (.iload_n 3, 1) := by decide +kernel
theorem dX5_read_58 : decode cX5_read 58 = .ok (.iadd, 1) := by decide +kernel
theorem dX5_read_59 : decode cX5_read 59 = .ok (.iload_n 2, 1) := by decide +kernel
theorem dX5_read_60 : decode cX5_read 60 = .ok (.aload_n 0, 1) := by decide +kernel
theorem dX5_read_61 : decode cX5_read 61 = .ok (.getfield 140, 3) := by decide +kernel
theorem dX5_read_64 : decode cX5_read 64 = .ok (.if_icmp .ge 20, 3) := by decide +kernel
theorem dX5_read_67 : decode cX5_read 67 = .ok (.aload_n 0, 1) := by decide +kernel
theorem dX5_read_68 : decode cX5_read 68 = .ok (.getfield 31, 3) := by decide +kernel
theorem dX5_read_71 : decode cX5_read 71 = .ok (.bipush 13, 2) := by decide +kernel
theorem dX5_read_73 : decode cX5_read 73 = .ok (.iload_n 2, 1) := by decide +kernel
theorem dX5_read_74 : decode cX5_read 74 = .ok (.imul, 1) := by decide +kernel
theorem dX5_read_75 : decode cX5_read 75 = .ok (.iload_n 3, 1) := by decide +kernel
theorem dX5_read_76 : decode cX5_read 76 = .ok (.iadd, 1) := by decide +kernel
theorem dX5_read_77 : decode cX5_read 77 = .ok (.iaload, 1) := by decide +kernel
theorem dX5_read_78 : decode cX5_read 78 = .ok (.bipush 48, 2) := by decide +kernel
theorem dX5_read_80 : decode cX5_read 80 = .ok (.isub, 1) := by decide +kernel
theorem dX5_read_81 : decode cX5_read 81 = .ok (.goto 4, 3) := by decide +kernel
theorem dX5_read_84 : decode cX5_read 84 = .ok (.iconst 0, 1) := by decide +kernel
theorem dX5_read_85 : decode cX5_read 85 = .ok (.iastore, 1) := by decide +kernel
theorem dX5_read_86 : decode cX5_read 86 = .ok (.iinc 3 1, 3) := by decide +kernel
theorem dX5_read_89 : decode cX5_read 89 = .ok (.goto (-49), 3) := by decide +kernel
theorem dX5_read_92 : decode cX5_read 92 = .ok (.iinc 2 1, 3) := by decide +kernel
theorem dX5_read_95 : decode cX5_read 95 = .ok (.goto (-62), 3) := by decide +kernel
theorem dX5_read_98 : decode cX5_read 98 = .ok (.aload_n 0, 1) := by decide +kernel
theorem dX5_read_99 : decode cX5_read 99 = .ok (.getfield 7, 3) := by decide +kernel
theorem dX5_read_102 : decode cX5_read 102 = .ok (.iconst 1, 1) := by decide +kernel
theorem dX5_read_103 : decode cX5_read 103 = .ok (.aload_n 0, 1) := by decide +kernel
theorem dX5_read_104 : decode cX5_read 104 = .ok (.getfield 143, 3) := by decide +kernel
theorem dX5_read_107 : decode cX5_read 107 = .ok (.bipush (-105), 2) := by decide +kernel
theorem dX5_read_109 : decode cX5_read 109 = .ok (.if_icmp .ne 12, 3) := by decide +kernel
theorem dX5_read_112 : decode cX5_read 112 = .ok (.aload_n 0, 1) := by decide +kernel
theorem dX5_read_113 : decode cX5_read 113 = .ok (.getfield 7, 3) := by decide +kernel
theorem dX5_read_116 : decode cX5_read 116 = .ok (.iconst 1, 1) := by decide +kernel
theorem dX5_read_117 : decode cX5_read 117 = .ok (.iaload, 1) := by decide +kernel
theorem dX5_read_118 : decode cX5_read 118 = .ok (.goto 7, 3) := by decide +kernel
theorem dX5_read_121 : decode cX5_read 121 = .ok (.aload_n 0, 1) := by decide +kernel
theorem dX5_read_122 : decode cX5_read 122 = .ok (.getfield 143, 3) := by decide +kernel
theorem dX5_read_125 : decode cX5_read 125 = .ok (.iastore, 1) := by decide +kernel
theorem dX5_read_126 : decode cX5_read 126 = .ok (.aload_n 0, 1) := by decide +kernel
theorem dX5_read_127 : decode cX5_read 127 = .ok (.invokevirtual 34, 3) := by decide +kernel
theorem dX5_read_130 : decode cX5_read 130 = .ok (.iconst 0, 1) := by decide +kernel
theorem dX5_read_131 : decode cX5_read 131 = .ok (.istore_n 2, 1) := by decide +kernel
theorem dX5_read_132 : decode cX5_read 132 = .ok (.iload_n 2, 1) := by decide +kernel
theorem dX5_read_133 : decode cX5_read 133 = .ok (.aload_n 0, 1) := by decide +kernel
theorem dX5_read_134 : decode cX5_read 134 = .ok (.getfield 143, 3) := by decide +kernel
theorem dX5_read_137 : decode cX5_read 137 = .ok (.if_icmp .ge 32, 3) := by decide +kernel
theorem dX5_read_140 : decode cX5_read 140 = .ok (.aload_n 0, 1) := by decide +kernel
theorem dX5_read_141 : decode cX5_read 141 = .ok (.getfield 7, 3) := by decide +kernel
theorem dX5_read_144 : decode cX5_read 144 = .ok (.bipush 7, 2) := by decide +kernel
theorem dX5_read_146 : decode cX5_read 146 = .ok (.iload_n 2, 1) := by decide +kernel
theorem dX5_read_147 : decode cX5_read 147 = .ok (.iadd, 1) := by decide +kernel
theorem dX5_read_148 : decode cX5_read 148 = .ok (.aload_n 0, 1) := by decide +kernel
theorem dX5_read_149 : decode cX5_read 149 = .ok (.getfield 31, 3) := by decide +kernel
theorem dX5_read_152 : decode cX5_read 152 = .ok (.aload_n 0, 1) := by decide +kernel
theorem dX5_read_153 : decode cX5_read 153 = .ok (.getfield 152, 3) := by decide +kernel
theorem dX5_read_156 : decode cX5_read 156 = .ok (.iload_n 2, 1) := by decide +kernel
theorem dX5_read_157 : decode cX5_read 157 = .ok (.iadd, 1) := by decide +kernel
theorem dX5_read_158 : decode cX5_read 158 = .ok (.iaload, 1) := by decide +kernel
theorem dX5_read_159 : decode cX5_read 159 = .ok (.bipush 48, 2) := by decide +kernel
theorem dX5_read_161 : decode cX5_read 161 = .ok (.isub, 1) := by decide +kernel
theorem dX5_read_162 : decode cX5_read 162 = .ok (.iastore, 1) := by decide +kernel
theorem dX5_read_163 : decode cX5_read 163 = .ok (.iinc 2 1, 3) := by decide +kernel
theorem dX5_read_166 : decode cX5_read 166 = .ok (.goto (-34), 3) := by decide +kernel
theorem dX5_read_169 : decode cX5_read 169 = .ok (.aload_n 0, 1) := by decide +kernel
theorem dX5_read_170 : decode cX5_read 170 = .ok (.aload_n 0, 1) := by decide +kernel
theorem dX5_read_171 : decode cX5_read 171 = .ok (.getfield 140, 3) := by decide +kernel
theorem dX5_read_174 : decode cX5_read 174 = .ok (.invokevirtual 97, 3) := by decide +kernel
theorem dX5_read_177 : decode cX5_read 177 = .ok (.ireturn, 1) := by decide +kernel
theorem dX5_undo_0 : decode cX5_undo 0 = .ok (.aload_n 0, 1) := by decide +kernel
theorem dX5_undo_1 : decode cX5_undo 1 = .ok (.getfield 37, 3) := by decide +kernel
theorem dX5_undo_4 : decode cX5_undo 4 = .ok (.ifCond .ne 6, 3) := by decide +kernel
theorem dX5_undo_7 : decode cX5_undo 7 = .ok (.bipush (-105), 2) := by decide +kernel
theorem dX5_undo_9 : decode cX5_undo 9 = .ok (.ireturn, 1) := by decide +kernel
theorem dX5_undo_10 : decode cX5_undo 10 = .ok (.aload_n 0, 1) := by decide +kernel
theorem dX5_undo_11 : decode cX5_undo 11 = .ok (.dup, 1) := by decide +kernel
theorem dX5_undo_12 : decode cX5_undo 12 = .ok (.getfield 37, 3) := by decide +kernel
theorem dX5_undo_15 : decode cX5_undo 15 = .ok (.iconst 1, 1) := by decide +kernel
theorem dX5_undo_16 : decode cX5_undo 16 = .ok (.isub, 1) := by decide +kernel
theorem dX5_undo_17 : decode cX5_undo 17 = .ok (.putfield 37, 3) := by decide +kernel
theorem dX5_undo_20 : decode cX5_undo 20 = .ok (.iconst 0, 1) := by decide +kernel
theorem dX5_undo_21 : decode cX5_undo 21 = .ok (.istore_n 1, 1) := by decide +kernel
theorem dX5_undo_22 : decode cX5_undo 22 = .ok (.iload_n 1, 1) := by decide +kernel
theorem dX5_undo_23 : decode cX5_undo 23 = .ok (.bipush 61, 2) := by decide +kernel
theorem dX5_undo_25 : decode cX5_undo 25 = .ok (.if_icmp .ge 29, 3) := by decide +kernel
theorem dX5_undo_28 : decode cX5_undo 28 = .ok (.aload_n 0, 1) := by decide +kernel
theorem dX5_undo_29 : decode cX5_undo 29 = .ok (.getfield 7, 3) := by decide +kernel
theorem dX5_undo_32 : decode cX5_undo 32 = .ok (.iload_n 1, 1) := by decide +kernel
theorem dX5_undo_33 : decode cX5_undo 33 = .ok (.aload_n 0, 1) := by decide +kernel
theorem dX5_undo_34 : decode cX5_undo 34 = .ok (.getfield 16, 3) := by decide +kernel
theorem dX5_undo_37 : decode cX5_undo 37 = .ok (.bipush 61, 2) := by decide +kernel
theorem dX5_undo_39 : decode cX5_undo 39 = .ok (.aload_n 0, 1) := by decide +kernel
theorem dX5_undo_40 : decode cX5_undo 40 = .ok (.getfield 37, 3) := by decide +kernel
theorem dX5_undo_43 : decode cX5_undo 43 = .ok (.imul, 1) := by decide +kernel
theorem dX5_undo_44 : decode cX5_undo 44 = .ok (.iload_n 1, 1) := by decide +kernel
theorem dX5_undo_45 : decode cX5_undo 45 = .ok (.iadd, 1) := by decide +kernel
theorem dX5_undo_46 : decode cX5_undo 46 = .ok (.iaload, 1) := by decide +kernel
theorem dX5_undo_47 : decode cX5_undo 47 = .ok (.iastore, 1) := by decide +kernel
theorem dX5_undo_48 : decode cX5_undo 48 = .ok (.iinc 1 1, 3) := by decide +kernel
theorem dX5_undo_51 : decode cX5_undo 51 = .ok (.goto (-29), 3) := by decide +kernel
theorem dX5_undo_54 : decode cX5_undo 54 = .ok (.aload_n 0, 1) := by decide +kernel
theorem dX5_undo_55 : decode cX5_undo 55 = .ok (.getfield 37, 3) := by decide +kernel
theorem dX5_undo_58 : decode cX5_undo 58 = .ok (.ireturn, 1) := by decide +kernel
theorem dX5_keep_0 : decode cX5_keep 0 = .ok (.iconst 0, 1) := by decide +kernel
theorem dX5_keep_1 : decode cX5_keep 1 = .ok (.istore_n 1, 1) := by decide +kernel
theorem dX5_keep_2 : decode cX5_keep 2 = .ok (.iload_n 1, 1) := by decide +kernel
theorem dX5_keep_3 : decode cX5_keep 3 = .ok (.bipush 61, 2) := by decide +kernel
theorem dX5_keep_5 : decode cX5_keep 5 = .ok (.if_icmp .ge 21, 3) := by decide +kernel
theorem dX5_keep_8 : decode cX5_keep 8 = .ok (.aload_n 0, 1) := by decide +kernel
theorem dX5_keep_9 : decode cX5_keep 9 = .ok (.getfield 19, 3) := by decide +kernel
theorem dX5_keep_12 : decode cX5_keep 12 = .ok (.iload_n 1, 1) := by decide +kernel
theorem dX5_keep_13 : decode cX5_keep 13 = .ok (.aload_n 0, 1) := by decide +kernel
theorem dX5_keep_14 : decode cX5_keep 14 = .ok (.getfield 7, 3) := by decide +kernel
theorem dX5_keep_17 : decode cX5_keep 17 = .ok (.iload_n 1, 1) := by decide +kernel
theorem dX5_keep_18 : decode cX5_keep 18 = .ok (.iaload, 1) := by decide +kernel
theorem dX5_keep_19 : decode cX5_keep 19 = .ok (.iastore, 1) := by decide +kernel
theorem dX5_keep_20 : decode cX5_keep 20 = .ok (.iinc 1 1, 3) := by decide +kernel
theorem dX5_keep_23 : decode cX5_keep 23 = .ok (.goto (-21), 3) := by decide +kernel
theorem dX5_keep_26 : decode cX5_keep 26 = .ok (.aload_n 0, 1) := by decide +kernel
theorem dX5_keep_27 : decode cX5_keep 27 = .ok (.iconst 1, 1) := by decide +kernel
theorem dX5_keep_28 : decode cX5_keep 28 = .ok (.putfield 158, 3) := by decide +kernel
theorem dX5_keep_31 : decode cX5_keep 31 = .ok (.aload_n 0, 1) := by decide +kernel
theorem dX5_keep_32 : decode cX5_keep 32 = .ok (.getfield 7, 3) := by decide +kernel
theorem dX5_keep_35 : decode cX5_keep 35 = .ok (.iconst 0, 1) := by decide +kernel
theorem dX5_keep_36 : decode cX5_keep 36 = .ok (.iaload, 1) := by decide +kernel
theorem dX5_keep_37 : decode cX5_keep 37 = .ok (.ireturn, 1) := by decide +kernel
theorem dX5_restore_0 : decode cX5_restore 0 = .ok (.aload_n 0, 1) := by decide +kernel
theorem dX5_restore_1 : decode cX5_restore 1 = .ok (.getfield 158, 3) := by decide +kernel
theorem dX5_restore_4 : decode cX5_restore 4 = .ok (.ifCond .ne 6, 3) := by decide +kernel
theorem dX5_restore_7 : decode cX5_restore 7 = .ok (.bipush (-105), 2) := by decide +kernel
theorem dX5_restore_9 : decode cX5_restore 9 = .ok (.ireturn, 1) := by decide +kernel
theorem dX5_restore_10 : decode cX5_restore 10 = .ok (.aload_n 0, 1) := by decide +kernel
theorem dX5_restore_11 : decode cX5_restore 11 = .ok (.invokevirtual 94, 3) := by decide +kernel
theorem dX5_restore_14 : decode cX5_restore 14 = .ok (.iconst 0, 1) := by decide +kernel
theorem dX5_restore_15 : decode cX5_restore 15 = .ok (.istore_n 1, 1) := by decide +kernel
theorem dX5_restore_16 : decode cX5_restore 16 = .ok (.iload_n 1, 1) := by decide +kernel
theorem dX5_restore_17 : decode cX5_restore 17 = .ok (.bipush 61, 2) := by decide +kernel
theorem dX5_restore_19 : decode cX5_restore 19 = .ok (.if_icmp .ge 21, 3) := by decide +kernel
theorem dX5_restore_22 : decode cX5_restore 22 = .ok (.aload_n 0, 1) := by decide +kernel
theorem dX5_restore_23 : decode cX5_restore 23 = .ok (.getfield 7, 3) := by decide +kernel
theorem dX5_restore_26 : decode cX5_restore 26 = .ok (.iload_n 1, 1) := by decide +kernel
theorem dX5_restore_27 : decode cX5_restore 27 = .ok (.aload_n 0, 1) := by decide +kernel
theorem dX5_restore_28 : decode cX5_restore 28 = .ok (.getfield 19, 3) := by decide +kernel
theorem dX5_restore_31 : decode cX5_restore 31 = .ok (.iload_n 1, 1) := by decide +kernel
theorem dX5_restore_32 : decode cX5_restore 32 = .ok (.iaload, 1) := by decide +kernel
theorem dX5_restore_33 : decode cX5_restore 33 = .ok (.iastore, 1) := by decide +kernel
theorem dX5_restore_34 : decode cX5_restore 34 = .ok (.iinc 1 1, 3) := by decide +kernel
theorem dX5_restore_37 : decode cX5_restore 37 = .ok (.goto (-21), 3) := by decide +kernel
theorem dX5_restore_40 : decode cX5_restore 40 = .ok (.aload_n 0, 1) := by decide +kernel
theorem dX5_restore_41 : decode cX5_restore 41 = .ok (.aload_n 0, 1) := by decide +kernel
theorem dX5_restore_42 : decode cX5_restore 42 = .ok (.getfield 7, 3) := by decide +kernel
theorem dX5_restore_45 : decode cX5_restore 45 = .ok (.iconst 0, 1) := by decide +kernel
theorem dX5_restore_46 : decode cX5_restore 46 = .ok (.iaload, 1) := by decide +kernel
theorem dX5_restore_47 : decode cX5_restore 47 = .ok (.invokevirtual 97, 3) := by decide +kernel
theorem dX5_restore_50 : decode cX5_restore 50 = .ok (.ireturn, 1) := by decide +kernel
theorem dX5_colourOf_0 : decode cX5_colourOf 0 = .ok (.aload_n 0, 1) := by decide +kernel
theorem dX5_colourOf_1 : decode cX5_colourOf 1 = .ok (.iload_n 1, 1) := by decide +kernel
theorem dX5_colourOf_2 : decode cX5_colourOf 2 = .ok (.invokevirtual 84, 3) := by decide +kernel
theorem dX5_colourOf_5 : decode cX5_colourOf 5 = .ok (.ifCond .eq 19, 3) := by decide +kernel
theorem dX5_colourOf_8 : decode cX5_colourOf 8 = .ok (.iload_n 2, 1) := by decide +kernel
theorem dX5_colourOf_9 : decode cX5_colourOf 9 = .ok (.invokestatic 88, 3) := by decide +kernel
theorem dX5_colourOf_12 : decode cX5_colourOf 12 = .ok (.ifCond .eq 12, 3) := by decide +kernel
theorem dX5_colourOf_15 : decode cX5_colourOf 15 = .ok (.aload_n 0, 1) := by decide +kernel
theorem dX5_colourOf_16 : decode cX5_colourOf 16 = .ok (.iload_n 1, 1) := by decide +kernel
theorem dX5_colourOf_17 : decode cX5_colourOf 17 = .ok (.iload_n 2, 1) := by decide +kernel
theorem dX5_colourOf_18 : decode cX5_colourOf 18 = .ok (.invokevirtual 91, 3) := by decide +kernel
theorem dX5_colourOf_21 : decode cX5_colourOf 21 = .ok (.goto 5, 3) := by decide +kernel
theorem dX5_colourOf_24 : decode cX5_colourOf 24 = .ok (.bipush (-101), 2) := by decide +kernel
theorem dX5_colourOf_26 : decode cX5_colourOf 26 = .ok (.ireturn, 1) := by decide +kernel
theorem dX5_viewOf_0 : decode cX5_viewOf 0 = .ok (.aload_n 0, 1) := by decide +kernel
theorem dX5_viewOf_1 : decode cX5_viewOf 1 = .ok (.iload_n 1, 1) := by decide +kernel
theorem dX5_viewOf_2 : decode cX5_viewOf 2 = .ok (.invokevirtual 112, 3) := by decide +kernel
theorem dX5_viewOf_5 : decode cX5_viewOf 5 = .ok (.ifCond .eq 15, 3) := by decide +kernel
theorem dX5_viewOf_8 : decode cX5_viewOf 8 = .ok (.aload_n 0, 1) := by decide +kernel
theorem dX5_viewOf_9 : decode cX5_viewOf 9 = .ok (.getfield 7, 3) := by decide +kernel
theorem dX5_viewOf_12 : decode cX5_viewOf 12 = .ok (.bipush 7, 2) := by decide +kernel
theorem dX5_viewOf_14 : decode cX5_viewOf 14 = .ok (.iload_n 1, 1) := by decide +kernel
theorem dX5_viewOf_15 : decode cX5_viewOf 15 = .ok (.iadd, 1) := by decide +kernel
theorem dX5_viewOf_16 : decode cX5_viewOf 16 = .ok (.iaload, 1) := by decide +kernel
theorem dX5_viewOf_17 : decode cX5_viewOf 17 = .ok (.goto 5, 3) := by decide +kernel
theorem dX5_viewOf_20 : decode cX5_viewOf 20 = .ok (.bipush (-101), 2) := by decide +kernel
theorem dX5_viewOf_22 : decode cX5_viewOf 22 = .ok (.ireturn, 1) := by decide +kernel
theorem dX5_dueOf_0 : decode cX5_dueOf 0 = .ok (.iload_n 1, 1) := by decide +kernel
theorem dX5_dueOf_1 : decode cX5_dueOf 1 = .ok (.bipush (-105), 2) := by decide +kernel
theorem dX5_dueOf_3 : decode cX5_dueOf 3 = .ok (.if_icmp .ne 6, 3) := by decide +kernel
theorem dX5_dueOf_6 : decode cX5_dueOf 6 = .ok (.bipush (-105), 2) := by decide +kernel
theorem dX5_dueOf_8 : decode cX5_dueOf 8 = .ok (.ireturn, 1) := by decide +kernel
theorem dX5_dueOf_9 : decode cX5_dueOf 9 = .ok (.aload_n 0, 1) := by decide +kernel
theorem dX5_dueOf_10 : decode cX5_dueOf 10 = .ok (.getfield 7, 3) := by decide +kernel
theorem dX5_dueOf_13 : decode cX5_dueOf 13 = .ok (.bipush 7, 2) := by decide +kernel
theorem dX5_dueOf_15 : decode cX5_dueOf 15 = .ok (.iload_n 1, 1) := by decide +kernel
theorem dX5_dueOf_16 : decode cX5_dueOf 16 = .ok (.aload_n 0, 1) := by decide +kernel
theorem dX5_dueOf_17 : decode cX5_dueOf 17 = .ok (.getfield 7, 3) := by decide +kernel
theorem dX5_dueOf_20 : decode cX5_dueOf 20 = .ok (.iconst 1, 1) := by decide +kernel
theorem dX5_dueOf_21 : decode cX5_dueOf 21 = .ok (.iaload, 1) := by decide +kernel
theorem dX5_dueOf_22 : decode cX5_dueOf 22 = .ok (.irem, 1) := by decide +kernel
theorem dX5_dueOf_23 : decode cX5_dueOf 23 = .ok (.iadd, 1) := by decide +kernel
theorem dX5_dueOf_24 : decode cX5_dueOf 24 = .ok (.iaload, 1) := by decide +kernel
theorem dX5_dueOf_25 : decode cX5_dueOf 25 = .ok (.istore_n 3, 1) := by decide +kernel
theorem dX5_dueOf_26 : decode cX5_dueOf 26 = .ok (.iload_n 1, 1) := by decide +kernel
theorem dX5_dueOf_27 : decode cX5_dueOf 27 = .ok (.aload_n 0, 1) := by decide +kernel
theorem dX5_dueOf_28 : decode cX5_dueOf 28 = .ok (.getfield 7, 3) := by decide +kernel
theorem dX5_dueOf_31 : decode cX5_dueOf 31 = .ok (.iconst 1, 1) := by decide +kernel
theorem dX5_dueOf_32 : decode cX5_dueOf 32 = .ok (.iaload, 1) := by decide +kernel
theorem dX5_dueOf_33 : decode cX5_dueOf 33 = .ok (.idiv, 1) := by decide +kernel
theorem dX5_dueOf_34 : decode cX5_dueOf 34 = .ok (.istore 4, 2) := by decide +kernel
theorem dX5_dueOf_36 : decode cX5_dueOf 36 = .ok (.iload_n 2, 1) := by decide +kernel
theorem dX5_dueOf_37 : decode cX5_dueOf 37 = .ok (.ifCond .ne 7, 3) := by decide +kernel
theorem dX5_dueOf_40 : decode cX5_dueOf 40 = .ok (.iload_n 3, 1) := by decide +kernel
theorem dX5_dueOf_41 : decode cX5_dueOf 41 = .ok (.goto 20, 3) := by decide +kernel
theorem dX5_dueOf_44 : decode cX5_dueOf 44 = .ok (.iload_n 2, 1) := by decide +kernel
theorem dX5_dueOf_45 : decode cX5_dueOf 45 = .ok (.iconst 1, 1) := by decide +kernel
theorem dX5_dueOf_46 : decode cX5_dueOf 46 = .ok (.if_icmp .ne 13, 3) := by decide +kernel
theorem dX5_dueOf_49 : decode cX5_dueOf 49 = .ok (.aload_n 0, 1) := by decide +kernel
theorem dX5_dueOf_50 : decode cX5_dueOf 50 = .ok (.iload_n 3, 1) := by decide +kernel
theorem dX5_dueOf_51 : decode cX5_dueOf 51 = .ok (.iload 4, 2) := by decide +kernel
theorem dX5_dueOf_53 : decode cX5_dueOf 53 = .ok (.invokevirtual 91, 3) := by decide +kernel
theorem dX5_dueOf_56 : decode cX5_dueOf 56 = .ok (.goto 5, 3) := by decide +kernel
theorem dX5_dueOf_59 : decode cX5_dueOf 59 = .ok (.iload 4, 2) := by decide +kernel
theorem dX5_dueOf_61 : decode cX5_dueOf 61 = .ok (.ireturn, 1) := by decide +kernel
theorem dX5_behind_0 : decode cX5_behind 0 = .ok (.iload_n 1, 1) := by decide +kernel
theorem dX5_behind_1 : decode cX5_behind 1 = .ok (.invokestatic 88, 3) := by decide +kernel
theorem dX5_behind_4 : decode cX5_behind 4 = .ok (.ifCond .eq 11, 3) := by decide +kernel
theorem dX5_behind_7 : decode cX5_behind 7 = .ok (.aload_n 0, 1) := by decide +kernel
theorem dX5_behind_8 : decode cX5_behind 8 = .ok (.iload_n 2, 1) := by decide +kernel
theorem dX5_behind_9 : decode cX5_behind 9 = .ok (.invokevirtual 112, 3) := by decide +kernel
theorem dX5_behind_12 : decode cX5_behind 12 = .ok (.ifCond .ne 6, 3) := by decide +kernel
theorem dX5_behind_15 : decode cX5_behind 15 = .ok (.bipush (-101), 2) := by decide +kernel
theorem dX5_behind_17 : decode cX5_behind 17 = .ok (.ireturn, 1) := by decide +kernel
theorem dX5_behind_18 : decode cX5_behind 18 = .ok (.iload_n 3, 1) := by decide +kernel
theorem dX5_behind_19 : decode cX5_behind 19 = .ok (.i2l, 1) := by decide +kernel
theorem dX5_behind_20 : decode cX5_behind 20 = .ok (.lconst 0, 1) := by decide +kernel
theorem dX5_behind_21 : decode cX5_behind 21 = .ok (.ldc2_w 100, 3) := by decide +kernel
theorem dX5_behind_24 : decode cX5_behind 24 = .ok (.invokestatic 41, 3) := by decide +kernel
theorem dX5_behind_27 : decode cX5_behind 27 = .ok (.ifCond .eq 17, 3) := by decide +kernel
theorem dX5_behind_30 : decode cX5_behind 30 = .ok (.aload_n 0, 1) := by decide +kernel
theorem dX5_behind_31 : decode cX5_behind 31 = .ok (.aload_n 0, 1) := by decide +kernel
theorem dX5_behind_32 : decode cX5_behind 32 = .ok (.iload_n 1, 1) := by decide +kernel
theorem dX5_behind_33 : decode cX5_behind 33 = .ok (.iload_n 2, 1) := by decide +kernel
theorem dX5_behind_34 : decode cX5_behind 34 = .ok (.invokevirtual 57, 3) := by decide +kernel
theorem dX5_behind_37 : decode cX5_behind 37 = .ok (.iload_n 3, 1) := by decide +kernel
theorem dX5_behind_38 : decode cX5_behind 38 = .ok (.invokevirtual 161, 3) := by decide +kernel
theorem dX5_behind_41 : decode cX5_behind 41 = .ok (.goto 5, 3) := by decide +kernel
theorem dX5_behind_44 : decode cX5_behind 44 = .ok (.bipush (-102), 2) := by decide +kernel
theorem dX5_behind_46 : decode cX5_behind 46 = .ok (.ireturn, 1) := by decide +kernel
theorem dX5_seen_0 : decode cX5_seen 0 = .ok (.iload_n 1, 1) := by decide +kernel
theorem dX5_seen_1 : decode cX5_seen 1 = .ok (.invokestatic 164, 3) := by decide +kernel
theorem dX5_seen_4 : decode cX5_seen 4 = .ok (.ifCond .eq 10, 3) := by decide +kernel
theorem dX5_seen_7 : decode cX5_seen 7 = .ok (.iload_n 2, 1) := by decide +kernel
theorem dX5_seen_8 : decode cX5_seen 8 = .ok (.invokestatic 88, 3) := by decide +kernel
theorem dX5_seen_11 : decode cX5_seen 11 = .ok (.ifCond .ne 6, 3) := by decide +kernel
theorem dX5_seen_14 : decode cX5_seen 14 = .ok (.bipush (-101), 2) := by decide +kernel
theorem dX5_seen_16 : decode cX5_seen 16 = .ok (.ireturn, 1) := by decide +kernel
theorem dX5_seen_17 : decode cX5_seen 17 = .ok (.aload_n 0, 1) := by decide +kernel
theorem dX5_seen_18 : decode cX5_seen 18 = .ok (.invokevirtual 71, 3) := by decide +kernel
theorem dX5_seen_21 : decode cX5_seen 21 = .ok (.aload_n 0, 1) := by decide +kernel
theorem dX5_seen_22 : decode cX5_seen 22 = .ok (.iload_n 1, 1) := by decide +kernel
theorem dX5_seen_23 : decode cX5_seen 23 = .ok (.iload_n 2, 1) := by decide +kernel
theorem dX5_seen_24 : decode cX5_seen 24 = .ok (.invokevirtual 53, 3) := by decide +kernel
theorem dX5_seen_27 : decode cX5_seen 27 = .ok (.istore 4, 2) := by decide +kernel
theorem dX5_seen_29 : decode cX5_seen 29 = .ok (.iload_n 3, 1) := by decide +kernel
theorem dX5_seen_30 : decode cX5_seen 30 = .ok (.tableswitch 61 0 3 #[30, 30, 43, 46], 30) := by decide +kernel
theorem dX5_seen_60 : decode cX5_seen 60 = .ok (.aload_n 0, 1) := by decide +kernel
theorem dX5_seen_61 : decode cX5_seen 61 = .ok (.aload_n 0, 1) := by decide +kernel
theorem dX5_seen_62 : decode cX5_seen 62 = .ok (.iload_n 2, 1) := by decide +kernel
theorem dX5_seen_63 : decode cX5_seen 63 = .ok (.iload 4, 2) := by decide +kernel
theorem dX5_seen_65 : decode cX5_seen 65 = .ok (.invokevirtual 57, 3) := by decide +kernel
theorem dX5_seen_68 : decode cX5_seen 68 = .ok (.iload_n 3, 1) := by decide +kernel
theorem dX5_seen_69 : decode cX5_seen 69 = .ok (.invokevirtual 161, 3) := by decide +kernel
theorem dX5_seen_72 : decode cX5_seen 72 = .ok (.ireturn, 1) := by decide +kernel
theorem dX5_seen_73 : decode cX5_seen 73 = .ok (.iload 4, 2) := by decide +kernel
theorem dX5_seen_75 : decode cX5_seen 75 = .ok (.ireturn, 1) := by decide +kernel
theorem dX5_seen_76 : decode cX5_seen 76 = .ok (.aload_n 0, 1) := by decide +kernel
theorem dX5_seen_77 : decode cX5_seen 77 = .ok (.iload_n 1, 1) := by decide +kernel
theorem dX5_seen_78 : decode cX5_seen 78 = .ok (.iload_n 2, 1) := by decide +kernel
theorem dX5_seen_79 : decode cX5_seen 79 = .ok (.invokevirtual 63, 3) := by decide +kernel
theorem dX5_seen_82 : decode cX5_seen 82 = .ok (.ifCond .eq 7, 3) := by decide +kernel
theorem dX5_seen_85 : decode cX5_seen 85 = .ok (.iconst 1, 1) := by decide +kernel
theorem dX5_seen_86 : decode cX5_seen 86 = .ok (.goto 4, 3) := by decide +kernel
theorem dX5_seen_89 : decode cX5_seen 89 = .ok (.iconst 0, 1) := by decide +kernel
theorem dX5_seen_90 : decode cX5_seen 90 = .ok (.ireturn, 1) := by decide +kernel
theorem dX5_seen_91 : decode cX5_seen 91 = .ok (.bipush (-102), 2) := by decide +kernel
theorem dX5_seen_93 : decode cX5_seen 93 = .ok (.ireturn, 1) := by decide +kernel
theorem dX5_wholeAt_0 : decode cX5_wholeAt 0 = .ok (.bipush (-105), 2) := by decide +kernel
theorem dX5_wholeAt_2 : decode cX5_wholeAt 2 = .ok (.istore_n 2, 1) := by decide +kernel
theorem dX5_wholeAt_3 : decode cX5_wholeAt 3 = .ok (.iconst 0, 1) := by decide +kernel
theorem dX5_wholeAt_4 : decode cX5_wholeAt 4 = .ok (.istore_n 3, 1) := by decide +kernel
theorem dX5_wholeAt_5 : decode cX5_wholeAt 5 = .ok (.iload_n 3, 1) := by decide +kernel
theorem dX5_wholeAt_6 : decode cX5_wholeAt 6 = .ok (.aload_n 0, 1) := by decide +kernel
theorem dX5_wholeAt_7 : decode cX5_wholeAt 7 = .ok (.getfield 7, 3) := by decide +kernel
theorem dX5_wholeAt_10 : decode cX5_wholeAt 10 = .ok (.iconst 0, 1) := by decide +kernel
theorem dX5_wholeAt_11 : decode cX5_wholeAt 11 = .ok (.iaload, 1) := by decide +kernel
theorem dX5_wholeAt_12 : decode cX5_wholeAt 12 = .ok (.if_icmp .ge 26, 3) := by decide +kernel
theorem dX5_wholeAt_15 : decode cX5_wholeAt 15 = .ok (.aload_n 0, 1) := by decide +kernel
theorem dX5_wholeAt_16 : decode cX5_wholeAt 16 = .ok (.iload_n 1, 1) := by decide +kernel
theorem dX5_wholeAt_17 : decode cX5_wholeAt 17 = .ok (.iload_n 3, 1) := by decide +kernel
theorem dX5_wholeAt_18 : decode cX5_wholeAt 18 = .ok (.invokevirtual 78, 3) := by decide +kernel
theorem dX5_wholeAt_21 : decode cX5_wholeAt 21 = .ok (.bipush 12, 2) := by decide +kernel
theorem dX5_wholeAt_23 : decode cX5_wholeAt 23 = .ok (.if_icmp .ne 7, 3) := by decide +kernel
theorem dX5_wholeAt_26 : decode cX5_wholeAt 26 = .ok (.iload_n 3, 1) := by decide +kernel
theorem dX5_wholeAt_27 : decode cX5_wholeAt 27 = .ok (.goto 4, 3) := by decide +kernel
theorem dX5_wholeAt_30 : decode cX5_wholeAt 30 = .ok (.iload_n 2, 1) := by decide +kernel
theorem dX5_wholeAt_31 : decode cX5_wholeAt 31 = .ok (.istore_n 2, 1) := by decide +kernel
theorem dX5_wholeAt_32 : decode cX5_wholeAt 32 = .ok (.iinc 3 1, 3) := by decide +kernel
theorem dX5_wholeAt_35 : decode cX5_wholeAt 35 = .ok (.goto (-30), 3) := by decide +kernel
theorem dX5_wholeAt_38 : decode cX5_wholeAt 38 = .ok (.iload_n 2, 1) := by decide +kernel
theorem dX5_wholeAt_39 : decode cX5_wholeAt 39 = .ok (.ireturn, 1) := by decide +kernel
theorem dX5_mostAt_0 : decode cX5_mostAt 0 = .ok (.bipush (-105), 2) := by decide +kernel
theorem dX5_mostAt_2 : decode cX5_mostAt 2 = .ok (.istore_n 2, 1) := by decide +kernel
theorem dX5_mostAt_3 : decode cX5_mostAt 3 = .ok (.iconst 0, 1) := by decide +kernel
theorem dX5_mostAt_4 : decode cX5_mostAt 4 = .ok (.istore_n 3, 1) := by decide +kernel
theorem dX5_mostAt_5 : decode cX5_mostAt 5 = .ok (.iconst 0, 1) := by decide +kernel
theorem dX5_mostAt_6 : decode cX5_mostAt 6 = .ok (.istore 4, 2) := by decide +kernel
theorem dX5_mostAt_8 : decode cX5_mostAt 8 = .ok (.iload 4, 2) := by decide +kernel
theorem dX5_mostAt_10 : decode cX5_mostAt 10 = .ok (.aload_n 0, 1) := by decide +kernel
theorem dX5_mostAt_11 : decode cX5_mostAt 11 = .ok (.getfield 7, 3) := by decide +kernel
theorem dX5_mostAt_14 : decode cX5_mostAt 14 = .ok (.iconst 0, 1) := by decide +kernel
theorem dX5_mostAt_15 : decode cX5_mostAt 15 = .ok (.iaload, 1) := by decide +kernel
theorem dX5_mostAt_16 : decode cX5_mostAt 16 = .ok (.if_icmp .ge 44, 3) := by decide +kernel
theorem dX5_mostAt_19 : decode cX5_mostAt 19 = .ok (.aload_n 0, 1) := by decide +kernel
theorem dX5_mostAt_20 : decode cX5_mostAt 20 = .ok (.iload_n 1, 1) := by decide +kernel
theorem dX5_mostAt_21 : decode cX5_mostAt 21 = .ok (.iload 4, 2) := by decide +kernel
theorem dX5_mostAt_23 : decode cX5_mostAt 23 = .ok (.invokevirtual 78, 3) := by decide +kernel
theorem dX5_mostAt_26 : decode cX5_mostAt 26 = .ok (.istore 5, 2) := by decide +kernel
theorem dX5_mostAt_28 : decode cX5_mostAt 28 = .ok (.iload 5, 2) := by decide +kernel
theorem dX5_mostAt_30 : decode cX5_mostAt 30 = .ok (.iload_n 3, 1) := by decide +kernel
theorem dX5_mostAt_31 : decode cX5_mostAt 31 = .ok (.if_icmp .le 8, 3) := by decide +kernel
theorem dX5_mostAt_34 : decode cX5_mostAt 34 = .ok (.iload 4, 2) := by decide +kernel
theorem dX5_mostAt_36 : decode cX5_mostAt 36 = .ok (.goto 4, 3) := by decide +kernel
theorem dX5_mostAt_39 : decode cX5_mostAt 39 = .ok (.iload_n 2, 1) := by decide +kernel
theorem dX5_mostAt_40 : decode cX5_mostAt 40 = .ok (.istore_n 2, 1) := by decide +kernel
theorem dX5_mostAt_41 : decode cX5_mostAt 41 = .ok (.iload 5, 2) := by decide +kernel
theorem dX5_mostAt_43 : decode cX5_mostAt 43 = .ok (.iload_n 3, 1) := by decide +kernel
theorem dX5_mostAt_44 : decode cX5_mostAt 44 = .ok (.if_icmp .le 8, 3) := by decide +kernel
theorem dX5_mostAt_47 : decode cX5_mostAt 47 = .ok (.iload 5, 2) := by decide +kernel
theorem dX5_mostAt_49 : decode cX5_mostAt 49 = .ok (.goto 4, 3) := by decide +kernel
theorem dX5_mostAt_52 : decode cX5_mostAt 52 = .ok (.iload_n 3, 1) := by decide +kernel
theorem dX5_mostAt_53 : decode cX5_mostAt 53 = .ok (.istore_n 3, 1) := by decide +kernel
theorem dX5_mostAt_54 : decode cX5_mostAt 54 = .ok (.iinc 4 1, 3) := by decide +kernel
theorem dX5_mostAt_57 : decode cX5_mostAt 57 = .ok (.goto (-49), 3) := by decide +kernel
theorem dX5_mostAt_60 : decode cX5_mostAt 60 = .ok (.iload_n 2, 1) := by decide +kernel
theorem dX5_mostAt_61 : decode cX5_mostAt 61 = .ok (.ireturn, 1) := by decide +kernel
theorem dX5_at_0 : decode cX5_at 0 = .ok (.iload_n 1, 1) := by decide +kernel
theorem dX5_at_1 : decode cX5_at 1 = .ok (.invokestatic 164, 3) := by decide +kernel
theorem dX5_at_4 : decode cX5_at 4 = .ok (.ifCond .ne 6, 3) := by decide +kernel
theorem dX5_at_7 : decode cX5_at 7 = .ok (.bipush (-101), 2) := by decide +kernel
theorem dX5_at_9 : decode cX5_at 9 = .ok (.ireturn, 1) := by decide +kernel
theorem dX5_at_10 : decode cX5_at 10 = .ok (.aload_n 0, 1) := by decide +kernel
theorem dX5_at_11 : decode cX5_at 11 = .ok (.invokevirtual 71, 3) := by decide +kernel
theorem dX5_at_14 : decode cX5_at 14 = .ok (.iload_n 2, 1) := by decide +kernel
theorem dX5_at_15 : decode cX5_at 15 = .ok (.tableswitch 82 0 4 #[33, 39, 45, 51, 74], 33) := by decide +kernel
theorem dX5_at_48 : decode cX5_at 48 = .ok (.aload_n 0, 1) := by decide +kernel
theorem dX5_at_49 : decode cX5_at 49 = .ok (.iload_n 1, 1) := by decide +kernel
theorem dX5_at_50 : decode cX5_at 50 = .ok (.invokevirtual 67, 3) := by decide +kernel
theorem dX5_at_53 : decode cX5_at 53 = .ok (.ireturn, 1) := by decide +kernel
theorem dX5_at_54 : decode cX5_at 54 = .ok (.aload_n 0, 1) := by decide +kernel
theorem dX5_at_55 : decode cX5_at 55 = .ok (.iload_n 1, 1) := by decide +kernel
theorem dX5_at_56 : decode cX5_at 56 = .ok (.invokevirtual 167, 3) := by decide +kernel
theorem dX5_at_59 : decode cX5_at 59 = .ok (.ireturn, 1) := by decide +kernel
theorem dX5_at_60 : decode cX5_at 60 = .ok (.aload_n 0, 1) := by decide +kernel
theorem dX5_at_61 : decode cX5_at 61 = .ok (.iload_n 1, 1) := by decide +kernel
theorem dX5_at_62 : decode cX5_at 62 = .ok (.invokevirtual 170, 3) := by decide +kernel
theorem dX5_at_65 : decode cX5_at 65 = .ok (.ireturn, 1) := by decide +kernel
theorem dX5_at_66 : decode cX5_at 66 = .ok (.aload_n 0, 1) := by decide +kernel
theorem dX5_at_67 : decode cX5_at 67 = .ok (.iload_n 1, 1) := by decide +kernel
theorem dX5_at_68 : decode cX5_at 68 = .ok (.invokevirtual 170, 3) := by decide +kernel
theorem dX5_at_71 : decode cX5_at 71 = .ok (.istore_n 3, 1) := by decide +kernel
theorem dX5_at_72 : decode cX5_at 72 = .ok (.iload_n 3, 1) := by decide +kernel
theorem dX5_at_73 : decode cX5_at 73 = .ok (.bipush (-105), 2) := by decide +kernel
theorem dX5_at_75 : decode cX5_at 75 = .ok (.if_icmp .ne 7, 3) := by decide +kernel
theorem dX5_at_78 : decode cX5_at 78 = .ok (.iconst 0, 1) := by decide +kernel
theorem dX5_at_79 : decode cX5_at 79 = .ok (.goto 9, 3) := by decide +kernel
theorem dX5_at_82 : decode cX5_at 82 = .ok (.aload_n 0, 1) := by decide +kernel
theorem dX5_at_83 : decode cX5_at 83 = .ok (.iload_n 1, 1) := by decide +kernel
theorem dX5_at_84 : decode cX5_at 84 = .ok (.iload_n 3, 1) := by decide +kernel
theorem dX5_at_85 : decode cX5_at 85 = .ok (.invokevirtual 78, 3) := by decide +kernel
theorem dX5_at_88 : decode cX5_at 88 = .ok (.ireturn, 1) := by decide +kernel
theorem dX5_at_89 : decode cX5_at 89 = .ok (.aload_n 0, 1) := by decide +kernel
theorem dX5_at_90 : decode cX5_at 90 = .ok (.iload_n 1, 1) := by decide +kernel
theorem dX5_at_91 : decode cX5_at 91 = .ok (.bipush (-105), 2) := by decide +kernel
theorem dX5_at_93 : decode cX5_at 93 = .ok (.invokevirtual 78, 3) := by decide +kernel
theorem dX5_at_96 : decode cX5_at 96 = .ok (.ireturn, 1) := by decide +kernel
theorem dX5_at_97 : decode cX5_at 97 = .ok (.bipush (-102), 2) := by decide +kernel
theorem dX5_at_99 : decode cX5_at 99 = .ok (.ireturn, 1) := by decide +kernel
theorem dX5_clearest_0 : decode cX5_clearest 0 = .ok (.bipush (-9), 2) := by decide +kernel
theorem dX5_clearest_2 : decode cX5_clearest 2 = .ok (.istore_n 2, 1) := by decide +kernel
theorem dX5_clearest_3 : decode cX5_clearest 3 = .ok (.bipush (-8), 2) := by decide +kernel
theorem dX5_clearest_5 : decode cX5_clearest 5 = .ok (.istore_n 3, 1) := by decide +kernel
theorem dX5_clearest_6 : decode cX5_clearest 6 = .ok (.iload_n 3, 1) := by decide +kernel
theorem dX5_clearest_7 : decode cX5_clearest 7 = .ok (.bipush 9, 2) := by decide +kernel
theorem dX5_clearest_9 : decode cX5_clearest 9 = .ok (.if_icmp .gt 53, 3) := by decide +kernel
theorem dX5_clearest_12 : decode cX5_clearest 12 = .ok (.aload_n 0, 1) := by decide +kernel
theorem dX5_clearest_13 : decode cX5_clearest 13 = .ok (.iload_n 3, 1) := by decide +kernel
theorem dX5_clearest_14 : decode cX5_clearest 14 = .ok (.iload_n 1, 1) := by decide +kernel
theorem dX5_clearest_15 : decode cX5_clearest 15 = .ok (.invokevirtual 78, 3) := by decide +kernel
theorem dX5_clearest_18 : decode cX5_clearest 18 = .ok (.aload_n 0, 1) := by decide +kernel
theorem dX5_clearest_19 : decode cX5_clearest 19 = .ok (.iload_n 2, 1) := by decide +kernel
theorem dX5_clearest_20 : decode cX5_clearest 20 = .ok (.iload_n 1, 1) := by decide +kernel
theorem dX5_clearest_21 : decode cX5_clearest 21 = .ok (.invokevirtual 78, 3) := by decide +kernel
theorem dX5_clearest_24 : decode cX5_clearest 24 = .ok (.isub, 1) := by decide +kernel
theorem dX5_clearest_25 : decode cX5_clearest 25 = .ok (.istore 4, 2) := by decide +kernel
theorem dX5_clearest_27 : decode cX5_clearest 27 = .ok (.iload 4, 2) := by decide +kernel
theorem dX5_clearest_29 : decode cX5_clearest 29 = .ok (.ifCond .gt 21, 3) := by decide +kernel
theorem dX5_clearest_32 : decode cX5_clearest 32 = .ok (.iload 4, 2) := by decide +kernel
theorem dX5_clearest_34 : decode cX5_clearest 34 = .ok (.ifCond .ne 20, 3) := by decide +kernel
theorem dX5_clearest_37 : decode cX5_clearest 37 = .ok (.aload_n 0, 1) := by decide +kernel
theorem dX5_clearest_38 : decode cX5_clearest 38 = .ok (.iload_n 3, 1) := by decide +kernel
theorem dX5_clearest_39 : decode cX5_clearest 39 = .ok (.invokevirtual 67, 3) := by decide +kernel
theorem dX5_clearest_42 : decode cX5_clearest 42 = .ok (.aload_n 0, 1) := by decide +kernel
theorem dX5_clearest_43 : decode cX5_clearest 43 = .ok (.iload_n 2, 1) := by decide +kernel
theorem dX5_clearest_44 : decode cX5_clearest 44 = .ok (.invokevirtual 67, 3) := by decide +kernel
theorem dX5_clearest_47 : decode cX5_clearest 47 = .ok (.if_icmp .ge 7, 3) := by decide +kernel
theorem dX5_clearest_50 : decode cX5_clearest 50 = .ok (.iload_n 3, 1) := by decide +kernel
theorem dX5_clearest_51 : decode cX5_clearest 51 = .ok (.goto 4, 3) := by decide +kernel
theorem dX5_clearest_54 : decode cX5_clearest 54 = .ok (.iload_n 2, 1) := by decide +kernel
theorem dX5_clearest_55 : decode cX5_clearest 55 = .ok (.istore_n 2, 1) := by decide +kernel
theorem dX5_clearest_56 : decode cX5_clearest 56 = .ok (.iinc 3 1, 3) := by decide +kernel
theorem dX5_clearest_59 : decode cX5_clearest 59 = .ok (.goto (-53), 3) := by decide +kernel
theorem dX5_clearest_62 : decode cX5_clearest 62 = .ok (.iload_n 2, 1) := by decide +kernel
theorem dX5_clearest_63 : decode cX5_clearest 63 = .ok (.ireturn, 1) := by decide +kernel
theorem dX5_slicesOf_0 : decode cX5_slicesOf 0 = .ok (.iconst 0, 1) := by decide +kernel
theorem dX5_slicesOf_1 : decode cX5_slicesOf 1 = .ok (.istore_n 2, 1) := by decide +kernel
theorem dX5_slicesOf_2 : decode cX5_slicesOf 2 = .ok (.iconst 0, 1) := by decide +kernel
theorem dX5_slicesOf_3 : decode cX5_slicesOf 3 = .ok (.istore_n 3, 1) := by decide +kernel
theorem dX5_slicesOf_4 : decode cX5_slicesOf 4 = .ok (.iload_n 3, 1) := by decide +kernel
theorem dX5_slicesOf_5 : decode cX5_slicesOf 5 = .ok (.aload_n 0, 1) := by decide +kernel
theorem dX5_slicesOf_6 : decode cX5_slicesOf 6 = .ok (.getfield 7, 3) := by decide +kernel
theorem dX5_slicesOf_9 : decode cX5_slicesOf 9 = .ok (.iconst 1, 1) := by decide +kernel
theorem dX5_slicesOf_10 : decode cX5_slicesOf 10 = .ok (.iaload, 1) := by decide +kernel
theorem dX5_slicesOf_11 : decode cX5_slicesOf 11 = .ok (.if_icmp .ge 30, 3) := by decide +kernel
theorem dX5_slicesOf_14 : decode cX5_slicesOf 14 = .ok (.iload_n 2, 1) := by decide +kernel
theorem dX5_slicesOf_15 : decode cX5_slicesOf 15 = .ok (.aload_n 0, 1) := by decide +kernel
theorem dX5_slicesOf_16 : decode cX5_slicesOf 16 = .ok (.getfield 7, 3) := by decide +kernel
theorem dX5_slicesOf_19 : decode cX5_slicesOf 19 = .ok (.bipush 7, 2) := by decide +kernel
theorem dX5_slicesOf_21 : decode cX5_slicesOf 21 = .ok (.iload_n 3, 1) := by decide +kernel
theorem dX5_slicesOf_22 : decode cX5_slicesOf 22 = .ok (.iadd, 1) := by decide +kernel
theorem dX5_slicesOf_23 : decode cX5_slicesOf 23 = .ok (.iaload, 1) := by decide +kernel
theorem dX5_slicesOf_24 : decode cX5_slicesOf 24 = .ok (.iload_n 1, 1) := by decide +kernel
theorem dX5_slicesOf_25 : decode cX5_slicesOf 25 = .ok (.if_icmp .ne 7, 3) := by decide +kernel
theorem dX5_slicesOf_28 : decode cX5_slicesOf 28 = .ok (.iconst 1, 1) := by decide +kernel
theorem dX5_slicesOf_29 : decode cX5_slicesOf 29 = .ok (.goto 4, 3) := by decide +kernel
theorem dX5_slicesOf_32 : decode cX5_slicesOf 32 = .ok (.iconst 0, 1) := by decide +kernel
theorem dX5_slicesOf_33 : decode cX5_slicesOf 33 = .ok (.iadd, 1) := by decide +kernel
theorem dX5_slicesOf_34 : decode cX5_slicesOf 34 = .ok (.istore_n 2, 1) := by decide +kernel
theorem dX5_slicesOf_35 : decode cX5_slicesOf 35 = .ok (.iinc 3 1, 3) := by decide +kernel
theorem dX5_slicesOf_38 : decode cX5_slicesOf 38 = .ok (.goto (-34), 3) := by decide +kernel
theorem dX5_slicesOf_41 : decode cX5_slicesOf 41 = .ok (.iload_n 2, 1) := by decide +kernel
theorem dX5_slicesOf_42 : decode cX5_slicesOf 42 = .ok (.ireturn, 1) := by decide +kernel
theorem dX5_view_0 : decode cX5_view 0 = .ok (.aload_n 0, 1) := by decide +kernel
theorem dX5_view_1 : decode cX5_view 1 = .ok (.iload_n 1, 1) := by decide +kernel
theorem dX5_view_2 : decode cX5_view 2 = .ok (.invokevirtual 84, 3) := by decide +kernel
theorem dX5_view_5 : decode cX5_view 5 = .ok (.ifCond .ne 6, 3) := by decide +kernel
theorem dX5_view_8 : decode cX5_view 8 = .ok (.bipush (-101), 2) := by decide +kernel
theorem dX5_view_10 : decode cX5_view 10 = .ok (.ireturn, 1) := by decide +kernel
theorem dX5_view_11 : decode cX5_view 11 = .ok (.aload_n 0, 1) := by decide +kernel
theorem dX5_view_12 : decode cX5_view 12 = .ok (.invokevirtual 71, 3) := by decide +kernel
theorem dX5_view_15 : decode cX5_view 15 = .ok (.iload_n 2, 1) := by decide +kernel
theorem dX5_view_16 : decode cX5_view 16 = .ok (.tableswitch 61 0 3 #[32, 38, 44, 50], 32) := by decide +kernel
theorem dX5_view_48 : decode cX5_view 48 = .ok (.aload_n 0, 1) := by decide +kernel
theorem dX5_view_49 : decode cX5_view 49 = .ok (.iload_n 1, 1) := by decide +kernel
theorem dX5_view_50 : decode cX5_view 50 = .ok (.invokevirtual 173, 3) := by decide +kernel
theorem dX5_view_53 : decode cX5_view 53 = .ok (.ireturn, 1) := by decide +kernel
theorem dX5_view_54 : decode cX5_view 54 = .ok (.aload_n 0, 1) := by decide +kernel
theorem dX5_view_55 : decode cX5_view 55 = .ok (.iload_n 1, 1) := by decide +kernel
theorem dX5_view_56 : decode cX5_view 56 = .ok (.invokevirtual 81, 3) := by decide +kernel
theorem dX5_view_59 : decode cX5_view 59 = .ok (.ireturn, 1) := by decide +kernel
theorem dX5_view_60 : decode cX5_view 60 = .ok (.aload_n 0, 1) := by decide +kernel
theorem dX5_view_61 : decode cX5_view 61 = .ok (.iload_n 1, 1) := by decide +kernel
theorem dX5_view_62 : decode cX5_view 62 = .ok (.invokevirtual 176, 3) := by decide +kernel
theorem dX5_view_65 : decode cX5_view 65 = .ok (.ireturn, 1) := by decide +kernel
theorem dX5_view_66 : decode cX5_view 66 = .ok (.aload_n 0, 1) := by decide +kernel
theorem dX5_view_67 : decode cX5_view 67 = .ok (.aload_n 0, 1) := by decide +kernel
theorem dX5_view_68 : decode cX5_view 68 = .ok (.iload_n 1, 1) := by decide +kernel
theorem dX5_view_69 : decode cX5_view 69 = .ok (.invokevirtual 176, 3) := by decide +kernel
theorem dX5_view_72 : decode cX5_view 72 = .ok (.iload_n 1, 1) := by decide +kernel
theorem dX5_view_73 : decode cX5_view 73 = .ok (.invokevirtual 78, 3) := by decide +kernel
theorem dX5_view_76 : decode cX5_view 76 = .ok (.ireturn, 1) := by decide +kernel
theorem dX5_view_77 : decode cX5_view 77 = .ok (.bipush (-102), 2) := by decide +kernel
theorem dX5_view_79 : decode cX5_view 79 = .ok (.ireturn, 1) := by decide +kernel
theorem dX5_bestOrder_0 : decode cX5_bestOrder 0 = .ok (.aload_n 0, 1) := by decide +kernel
theorem dX5_bestOrder_1 : decode cX5_bestOrder 1 = .ok (.iload_n 1, 1) := by decide +kernel
theorem dX5_bestOrder_2 : decode cX5_bestOrder 2 = .ok (.invokevirtual 112, 3) := by decide +kernel
theorem dX5_bestOrder_5 : decode cX5_bestOrder 5 = .ok (.ifCond .ne 6, 3) := by decide +kernel
theorem dX5_bestOrder_8 : decode cX5_bestOrder 8 = .ok (.bipush (-101), 2) := by decide +kernel
theorem dX5_bestOrder_10 : decode cX5_bestOrder 10 = .ok (.ireturn, 1) := by decide +kernel
theorem dX5_bestOrder_11 : decode cX5_bestOrder 11 = .ok (.aload_n 0, 1) := by decide +kernel
theorem dX5_bestOrder_12 : decode cX5_bestOrder 12 = .ok (.invokevirtual 118, 3) := by decide +kernel
theorem dX5_bestOrder_15 : decode cX5_bestOrder 15 = .ok (.aload_n 0, 1) := by decide +kernel
theorem dX5_bestOrder_16 : decode cX5_bestOrder 16 = .ok (.getfield 25, 3) := by decide +kernel
theorem dX5_bestOrder_19 : decode cX5_bestOrder 19 = .ok (.iload_n 1, 1) := by decide +kernel
theorem dX5_bestOrder_20 : decode cX5_bestOrder 20 = .ok (.iaload, 1) := by decide +kernel
theorem dX5_bestOrder_21 : decode cX5_bestOrder 21 = .ok (.ireturn, 1) := by decide +kernel
theorem dX5_bestShift_0 : decode cX5_bestShift 0 = .ok (.aload_n 0, 1) := by decide +kernel
theorem dX5_bestShift_1 : decode cX5_bestShift 1 = .ok (.getfield 7, 3) := by decide +kernel
theorem dX5_bestShift_4 : decode cX5_bestShift 4 = .ok (.iconst 2, 1) := by decide +kernel
theorem dX5_bestShift_5 : decode cX5_bestShift 5 = .ok (.iaload, 1) := by decide +kernel
theorem dX5_bestShift_6 : decode cX5_bestShift 6 = .ok (.istore_n 1, 1) := by decide +kernel
theorem dX5_bestShift_7 : decode cX5_bestShift 7 = .ok (.iconst 0, 1) := by decide +kernel
theorem dX5_bestShift_8 : decode cX5_bestShift 8 = .ok (.istore_n 2, 1) := by decide +kernel
theorem dX5_bestShift_9 : decode cX5_bestShift 9 = .ok (.iconst (-1), 1) := by decide +kernel
theorem dX5_bestShift_10 : decode cX5_bestShift 10 = .ok (.istore_n 3, 1) := by decide +kernel
theorem dX5_bestShift_11 : decode cX5_bestShift 11 = .ok (.iconst 0, 1) := by decide +kernel
theorem dX5_bestShift_12 : decode cX5_bestShift 12 = .ok (.istore 4, 2) := by decide +kernel
theorem dX5_bestShift_14 : decode cX5_bestShift 14 = .ok (.iload 4, 2) := by decide +kernel
theorem dX5_bestShift_16 : decode cX5_bestShift 16 = .ok (.bipush 6, 2) := by decide +kernel
theorem dX5_bestShift_18 : decode cX5_bestShift 18 = .ok (.if_icmp .gt 88, 3) := by decide +kernel
theorem dX5_bestShift_21 : decode cX5_bestShift 21 = .ok (.aload_n 0, 1) := by decide +kernel
theorem dX5_bestShift_22 : decode cX5_bestShift 22 = .ok (.getfield 7, 3) := by decide +kernel
theorem dX5_bestShift_25 : decode cX5_bestShift 25 = .ok (.iconst 2, 1) := by decide +kernel
theorem dX5_bestShift_26 : decode cX5_bestShift 26 = .ok (.iload 4, 2) := by decide +kernel
theorem dX5_bestShift_28 : decode cX5_bestShift 28 = .ok (.iconst 2, 1) := by decide +kernel
theorem dX5_bestShift_29 : decode cX5_bestShift 29 = .ok (.irem, 1) := by decide +kernel
theorem dX5_bestShift_30 : decode cX5_bestShift 30 = .ok (.iconst 1, 1) := by decide +kernel
theorem dX5_bestShift_31 : decode cX5_bestShift 31 = .ok (.if_icmp .ne 13, 3) := by decide +kernel
theorem dX5_bestShift_34 : decode cX5_bestShift 34 = .ok (.iload 4, 2) := by decide +kernel
theorem dX5_bestShift_36 : decode cX5_bestShift 36 = .ok (.iconst 1, 1) := by decide +kernel
theorem dX5_bestShift_37 : decode cX5_bestShift 37 = .ok (.iadd, 1) := by decide +kernel
theorem dX5_bestShift_38 : decode cX5_bestShift 38 = .ok (.ineg, 1) := by decide +kernel
theorem dX5_bestShift_39 : decode cX5_bestShift 39 = .ok (.iconst 2, 1) := by decide +kernel
theorem dX5_bestShift_40 : decode cX5_bestShift 40 = .ok (.idiv, 1) := by decide +kernel
theorem dX5_bestShift_41 : decode cX5_bestShift 41 = .ok (.goto 7, 3) := by decide +kernel
theorem dX5_bestShift_44 : decode cX5_bestShift 44 = .ok (.iload 4, 2) := by decide +kernel
theorem dX5_bestShift_46 : decode cX5_bestShift 46 = .ok (.iconst 2, 1) := by decide +kernel
theorem dX5_bestShift_47 : decode cX5_bestShift 47 = .ok (.idiv, 1) := by decide +kernel
theorem dX5_bestShift_48 : decode cX5_bestShift 48 = .ok (.iastore, 1) := by decide +kernel
theorem dX5_bestShift_49 : decode cX5_bestShift 49 = .ok (.aload_n 0, 1) := by decide +kernel
theorem dX5_bestShift_50 : decode cX5_bestShift 50 = .ok (.invokevirtual 121, 3) := by decide +kernel
theorem dX5_bestShift_53 : decode cX5_bestShift 53 = .ok (.istore 5, 2) := by decide +kernel
theorem dX5_bestShift_55 : decode cX5_bestShift 55 = .ok (.iload_n 3, 1) := by decide +kernel
theorem dX5_bestShift_56 : decode cX5_bestShift 56 = .ok (.ifCond .lt 9, 3) := by decide +kernel
theorem dX5_bestShift_59 : decode cX5_bestShift 59 = .ok (.iload 5, 2) := by decide +kernel
theorem dX5_bestShift_61 : decode cX5_bestShift 61 = .ok (.iload_n 3, 1) := by decide +kernel
theorem dX5_bestShift_62 : decode cX5_bestShift 62 = .ok (.if_icmp .ge 7, 3) := by decide +kernel
theorem dX5_bestShift_65 : decode cX5_bestShift 65 = .ok (.iconst 1, 1) := by decide +kernel
theorem dX5_bestShift_66 : decode cX5_bestShift 66 = .ok (.goto 4, 3) := by decide +kernel
theorem dX5_bestShift_69 : decode cX5_bestShift 69 = .ok (.iconst 0, 1) := by decide +kernel
theorem dX5_bestShift_70 : decode cX5_bestShift 70 = .ok (.istore 6, 2) := by decide +kernel
theorem dX5_bestShift_72 : decode cX5_bestShift 72 = .ok (.iload 6, 2) := by decide +kernel
theorem dX5_bestShift_74 : decode cX5_bestShift 74 = .ok (.ifCond .eq 12, 3) := by decide +kernel
theorem dX5_bestShift_77 : decode cX5_bestShift 77 = .ok (.aload_n 0, 1) := by decide +kernel
theorem dX5_bestShift_78 : decode cX5_bestShift 78 = .ok (.getfield 7, 3) := by decide +kernel
theorem dX5_bestShift_81 : decode cX5_bestShift 81 = .ok (.iconst 2, 1) := by decide +kernel
theorem dX5_bestShift_82 : decode cX5_bestShift 82 = .ok (.iaload, 1) := by decide +kernel
theorem dX5_bestShift_83 : decode cX5_bestShift 83 = .ok (.goto 4, 3) := by decide +kernel
theorem dX5_bestShift_86 : decode cX5_bestShift 86 = .ok (.iload_n 2, 1) := by decide +kernel
theorem dX5_bestShift_87 : decode cX5_bestShift 87 = .ok (.istore_n 2, 1) := by decide +kernel
theorem dX5_bestShift_88 : decode cX5_bestShift 88 = .ok (.iload 6, 2) := by decide +kernel
theorem dX5_bestShift_90 : decode cX5_bestShift 90 = .ok (.ifCond .eq 8, 3) := by decide +kernel
theorem dX5_bestShift_93 : decode cX5_bestShift 93 = .ok (.iload 5, 2) := by decide +kernel
theorem dX5_bestShift_95 : decode cX5_bestShift 95 = .ok (.goto 4, 3) := by decide +kernel
theorem dX5_bestShift_98 : decode cX5_bestShift 98 = .ok (.iload_n 3, 1) := by decide +kernel
theorem dX5_bestShift_99 : decode cX5_bestShift 99 = .ok (.istore_n 3, 1) := by decide +kernel
theorem dX5_bestShift_100 : decode cX5_bestShift 100 = .ok (.iinc 4 1, 3) := by decide +kernel
theorem dX5_bestShift_103 : decode cX5_bestShift 103 = .ok (.goto (-89), 3) := by decide +kernel
theorem dX5_bestShift_106 : decode cX5_bestShift 106 = .ok (.aload_n 0, 1) := by decide +kernel
theorem dX5_bestShift_107 : decode cX5_bestShift 107 = .ok (.getfield 7, 3) := by decide +kernel
theorem dX5_bestShift_110 : decode cX5_bestShift 110 = .ok (.iconst 2, 1) := by decide +kernel
theorem dX5_bestShift_111 : decode cX5_bestShift 111 = .ok (.iload_n 1, 1) := by decide +kernel
theorem dX5_bestShift_112 : decode cX5_bestShift 112 = .ok (.iastore, 1) := by decide +kernel
theorem dX5_bestShift_113 : decode cX5_bestShift 113 = .ok (.iload_n 2, 1) := by decide +kernel
theorem dX5_bestShift_114 : decode cX5_bestShift 114 = .ok (.ireturn, 1) := by decide +kernel
theorem dX5_ifSlice_0 : decode cX5_ifSlice 0 = .ok (.aload_n 0, 1) := by decide +kernel
theorem dX5_ifSlice_1 : decode cX5_ifSlice 1 = .ok (.iload_n 1, 1) := by decide +kernel
theorem dX5_ifSlice_2 : decode cX5_ifSlice 2 = .ok (.invokevirtual 112, 3) := by decide +kernel
theorem dX5_ifSlice_5 : decode cX5_ifSlice 5 = .ok (.ifCond .eq 11, 3) := by decide +kernel
theorem dX5_ifSlice_8 : decode cX5_ifSlice 8 = .ok (.aload_n 0, 1) := by decide +kernel
theorem dX5_ifSlice_9 : decode cX5_ifSlice 9 = .ok (.iload_n 2, 1) := by decide +kernel
theorem dX5_ifSlice_10 : decode cX5_ifSlice 10 = .ok (.invokevirtual 84, 3) := by decide +kernel
theorem dX5_ifSlice_13 : decode cX5_ifSlice 13 = .ok (.ifCond .ne 6, 3) := by decide +kernel
theorem dX5_ifSlice_16 : decode cX5_ifSlice 16 = .ok (.bipush (-101), 2) := by decide +kernel
theorem dX5_ifSlice_18 : decode cX5_ifSlice 18 = .ok (.ireturn, 1) := by decide +kernel
theorem dX5_ifSlice_19 : decode cX5_ifSlice 19 = .ok (.aload_n 0, 1) := by decide +kernel
theorem dX5_ifSlice_20 : decode cX5_ifSlice 20 = .ok (.getfield 7, 3) := by decide +kernel
theorem dX5_ifSlice_23 : decode cX5_ifSlice 23 = .ok (.bipush 7, 2) := by decide +kernel
theorem dX5_ifSlice_25 : decode cX5_ifSlice 25 = .ok (.iload_n 1, 1) := by decide +kernel
theorem dX5_ifSlice_26 : decode cX5_ifSlice 26 = .ok (.iadd, 1) := by decide +kernel
theorem dX5_ifSlice_27 : decode cX5_ifSlice 27 = .ok (.iaload, 1) := by decide +kernel
theorem dX5_ifSlice_28 : decode cX5_ifSlice 28 = .ok (.istore_n 3, 1) := by decide +kernel
theorem dX5_ifSlice_29 : decode cX5_ifSlice 29 = .ok (.aload_n 0, 1) := by decide +kernel
theorem dX5_ifSlice_30 : decode cX5_ifSlice 30 = .ok (.getfield 7, 3) := by decide +kernel
theorem dX5_ifSlice_33 : decode cX5_ifSlice 33 = .ok (.bipush 7, 2) := by decide +kernel
theorem dX5_ifSlice_35 : decode cX5_ifSlice 35 = .ok (.iload_n 1, 1) := by decide +kernel
theorem dX5_ifSlice_36 : decode cX5_ifSlice 36 = .ok (.iadd, 1) := by decide +kernel
theorem dX5_ifSlice_37 : decode cX5_ifSlice 37 = .ok (.iload_n 2, 1) := by decide +kernel
theorem dX5_ifSlice_38 : decode cX5_ifSlice 38 = .ok (.iastore, 1) := by decide +kernel
theorem dX5_ifSlice_39 : decode cX5_ifSlice 39 = .ok (.aload_n 0, 1) := by decide +kernel
theorem dX5_ifSlice_40 : decode cX5_ifSlice 40 = .ok (.invokevirtual 121, 3) := by decide +kernel
theorem dX5_ifSlice_43 : decode cX5_ifSlice 43 = .ok (.istore 4, 2) := by decide +kernel
theorem dX5_ifSlice_45 : decode cX5_ifSlice 45 = .ok (.aload_n 0, 1) := by decide +kernel
theorem dX5_ifSlice_46 : decode cX5_ifSlice 46 = .ok (.getfield 7, 3) := by decide +kernel
theorem dX5_ifSlice_49 : decode cX5_ifSlice 49 = .ok (.bipush 7, 2) := by decide +kernel
theorem dX5_ifSlice_51 : decode cX5_ifSlice 51 = .ok (.iload_n 1, 1) := by decide +kernel
theorem dX5_ifSlice_52 : decode cX5_ifSlice 52 = .ok (.iadd, 1) := by decide +kernel
theorem dX5_ifSlice_53 : decode cX5_ifSlice 53 = .ok (.iload_n 3, 1) := by decide +kernel
theorem dX5_ifSlice_54 : decode cX5_ifSlice 54 = .ok (.iastore, 1) := by decide +kernel
theorem dX5_ifSlice_55 : decode cX5_ifSlice 55 = .ok (.iload 4, 2) := by decide +kernel
theorem dX5_ifSlice_57 : decode cX5_ifSlice 57 = .ok (.ireturn, 1) := by decide +kernel
theorem dX5_count_0 : decode cX5_count 0 = .ok (.iload_n 1, 1) := by decide +kernel
theorem dX5_count_1 : decode cX5_count 1 = .ok (.tableswitch 136 0 12 #[67, 67, 67, 67, 74, 79, 79, 95, 95, 104, 118, 126, 131], 67) := by decide +kernel
theorem dX5_count_68 : decode cX5_count 68 = .ok (.aload_n 0, 1) := by decide +kernel
theorem dX5_count_69 : decode cX5_count 69 = .ok (.getfield 7, 3) := by decide +kernel
theorem dX5_count_72 : decode cX5_count 72 = .ok (.iload_n 1, 1) := by decide +kernel
theorem dX5_count_73 : decode cX5_count 73 = .ok (.iaload, 1) := by decide +kernel
theorem dX5_count_74 : decode cX5_count 74 = .ok (.ireturn, 1) := by decide +kernel
theorem dX5_count_75 : decode cX5_count 75 = .ok (.aload_n 0, 1) := by decide +kernel
theorem dX5_count_76 : decode cX5_count 76 = .ok (.invokevirtual 121, 3) := by decide +kernel
theorem dX5_count_79 : decode cX5_count 79 = .ok (.ireturn, 1) := by decide +kernel
theorem dX5_count_80 : decode cX5_count 80 = .ok (.aload_n 0, 1) := by decide +kernel
theorem dX5_count_81 : decode cX5_count 81 = .ok (.iload_n 1, 1) := by decide +kernel
theorem dX5_count_82 : decode cX5_count 82 = .ok (.bipush 6, 2) := by decide +kernel
theorem dX5_count_84 : decode cX5_count 84 = .ok (.if_icmp .ne 7, 3) := by decide +kernel
theorem dX5_count_87 : decode cX5_count 87 = .ok (.iconst 1, 1) := by decide +kernel
theorem dX5_count_88 : decode cX5_count 88 = .ok (.goto 4, 3) := by decide +kernel
theorem dX5_count_91 : decode cX5_count 91 = .ok (.iconst 0, 1) := by decide +kernel
theorem dX5_count_92 : decode cX5_count 92 = .ok (.invokevirtual 127, 3) := by decide +kernel
theorem dX5_count_95 : decode cX5_count 95 = .ok (.ireturn, 1) := by decide +kernel
theorem dX5_count_96 : decode cX5_count 96 = .ok (.aload_n 0, 1) := by decide +kernel
theorem dX5_count_97 : decode cX5_count 97 = .ok (.getfield 7, 3) := by decide +kernel
theorem dX5_count_100 : decode cX5_count 100 = .ok (.iload_n 1, 1) := by decide +kernel
theorem dX5_count_101 : decode cX5_count 101 = .ok (.iconst 3, 1) := by decide +kernel
theorem dX5_count_102 : decode cX5_count 102 = .ok (.isub, 1) := by decide +kernel
theorem dX5_count_103 : decode cX5_count 103 = .ok (.iaload, 1) := by decide +kernel
theorem dX5_count_104 : decode cX5_count 104 = .ok (.ireturn, 1) := by decide +kernel
theorem dX5_count_105 : decode cX5_count 105 = .ok (.aload_n 0, 1) := by decide +kernel
theorem dX5_count_106 : decode cX5_count 106 = .ok (.getfield 7, 3) := by decide +kernel
theorem dX5_count_109 : decode cX5_count 109 = .ok (.iconst 4, 1) := by decide +kernel
theorem dX5_count_110 : decode cX5_count 110 = .ok (.iaload, 1) := by decide +kernel
theorem dX5_count_111 : decode cX5_count 111 = .ok (.aload_n 0, 1) := by decide +kernel
theorem dX5_count_112 : decode cX5_count 112 = .ok (.getfield 7, 3) := by decide +kernel
theorem dX5_count_115 : decode cX5_count 115 = .ok (.iconst 5, 1) := by decide +kernel
theorem dX5_count_116 : decode cX5_count 116 = .ok (.iaload, 1) := by decide +kernel
theorem dX5_count_117 : decode cX5_count 117 = .ok (.isub, 1) := by decide +kernel
theorem dX5_count_118 : decode cX5_count 118 = .ok (.ireturn, 1) := by decide +kernel
theorem dX5_count_119 : decode cX5_count 119 = .ok (.aload_n 0, 1) := by decide +kernel
theorem dX5_count_120 : decode cX5_count 120 = .ok (.getfield 7, 3) := by decide +kernel
theorem dX5_count_123 : decode cX5_count 123 = .ok (.bipush 6, 2) := by decide +kernel
theorem dX5_count_125 : decode cX5_count 125 = .ok (.iaload, 1) := by decide +kernel
theorem dX5_count_126 : decode cX5_count 126 = .ok (.ireturn, 1) := by decide +kernel
theorem dX5_count_127 : decode cX5_count 127 = .ok (.aload_n 0, 1) := by decide +kernel
theorem dX5_count_128 : decode cX5_count 128 = .ok (.getfield 37, 3) := by decide +kernel
theorem dX5_count_131 : decode cX5_count 131 = .ok (.ireturn, 1) := by decide +kernel
theorem dX5_count_132 : decode cX5_count 132 = .ok (.aload_n 0, 1) := by decide +kernel
theorem dX5_count_133 : decode cX5_count 133 = .ok (.getfield 131, 3) := by decide +kernel
theorem dX5_count_136 : decode cX5_count 136 = .ok (.ireturn, 1) := by decide +kernel
theorem dX5_count_137 : decode cX5_count 137 = .ok (.bipush (-102), 2) := by decide +kernel
theorem dX5_count_139 : decode cX5_count 139 = .ok (.ireturn, 1) := by decide +kernel
theorem dJ9_max_7cf53_0 : decode cJ9_max_7cf53 0 = .ok (.iload_n 0, 1) := by decide +kernel
theorem dJ9_max_7cf53_1 : decode cJ9_max_7cf53 1 = .ok (.iload_n 1, 1) := by decide +kernel
theorem dJ9_max_7cf53_2 : decode cJ9_max_7cf53 2 = .ok (.if_icmp .lt 7, 3) := by decide +kernel
theorem dJ9_max_7cf53_5 : decode cJ9_max_7cf53 5 = .ok (.iload_n 0, 1) := by decide +kernel
theorem dJ9_max_7cf53_6 : decode cJ9_max_7cf53 6 = .ok (.goto 4, 3) := by decide +kernel
theorem dJ9_max_7cf53_9 : decode cJ9_max_7cf53 9 = .ok (.iload_n 1, 1) := by decide +kernel
theorem dJ9_max_7cf53_10 : decode cJ9_max_7cf53 10 = .ok (.ireturn, 1) := by decide +kernel
theorem dJ9_min_7cf53_0 : decode cJ9_min_7cf53 0 = .ok (.iload_n 0, 1) := by decide +kernel
theorem dJ9_min_7cf53_1 : decode cJ9_min_7cf53 1 = .ok (.iload_n 1, 1) := by decide +kernel
theorem dJ9_min_7cf53_2 : decode cJ9_min_7cf53 2 = .ok (.if_icmp .gt 7, 3) := by decide +kernel
theorem dJ9_min_7cf53_5 : decode cJ9_min_7cf53 5 = .ok (.iload_n 0, 1) := by decide +kernel
theorem dJ9_min_7cf53_6 : decode cJ9_min_7cf53 6 = .ok (.goto 4, 3) := by decide +kernel
theorem dJ9_min_7cf53_9 : decode cJ9_min_7cf53 9 = .ok (.iload_n 1, 1) := by decide +kernel
theorem dJ9_min_7cf53_10 : decode cJ9_min_7cf53 10 = .ok (.ireturn, 1) := by decide +kernel
theorem dL_law_0 : decode cL_law 0 = .ok (.new 7, 3) := by decide +kernel
theorem dL_law_3 : decode cL_law 3 = .ok (.dup, 1) := by decide +kernel
theorem dL_law_4 : decode cL_law 4 = .ok (.invokespecial 9, 3) := by decide +kernel
theorem dL_law_7 : decode cL_law 7 = .ok (.astore_n 1, 1) := by decide +kernel
theorem dL_law_8 : decode cL_law 8 = .ok (.new 10, 3) := by decide +kernel
theorem dL_law_11 : decode cL_law 11 = .ok (.dup, 1) := by decide +kernel
theorem dL_law_12 : decode cL_law 12 = .ok (.invokespecial 12, 3) := by decide +kernel
theorem dL_law_15 : decode cL_law 15 = .ok (.astore_n 2, 1) := by decide +kernel
theorem dL_law_16 : decode cL_law 16 = .ok (.iconst 0, 1) := by decide +kernel
theorem dL_law_17 : decode cL_law 17 = .ok (.istore_n 3, 1) := by decide +kernel
theorem dL_law_18 : decode cL_law 18 = .ok (.iload_n 3, 1) := by decide +kernel
theorem dL_law_19 : decode cL_law 19 = .ok (.aload_n 0, 1) := by decide +kernel
theorem dL_law_20 : decode cL_law 20 = .ok (.arraylength, 1) := by decide +kernel
theorem dL_law_21 : decode cL_law 21 = .ok (.iconst 4, 1) := by decide +kernel
theorem dL_law_22 : decode cL_law 22 = .ok (.isub, 1) := by decide +kernel
theorem dL_law_23 : decode cL_law 23 = .ok (.if_icmp .gt 775, 3) := by decide +kernel
theorem dL_law_26 : decode cL_law 26 = .ok (.aload_n 0, 1) := by decide +kernel
theorem dL_law_27 : decode cL_law 27 = .ok (.iload_n 3, 1) := by decide +kernel
theorem dL_law_28 : decode cL_law 28 = .ok (.iaload, 1) := by decide +kernel
theorem dL_law_29 : decode cL_law 29 = .ok (.bipush 31, 2) := by decide +kernel
theorem dL_law_31 : decode cL_law 31 = .ok (.iand, 1) := by decide +kernel
theorem dL_law_32 : decode cL_law 32 = .ok (.tableswitch 760 0 25 #[120, 163, 176, 199, 232, 255, 288, 311, 334, 347, 360, 383, 408, 421, 434, 447, 460, 493, 516, 559, 602, 635, 668, 691, 704, 737], 120) := by decide +kernel
theorem dL_law_152 : decode cL_law 152 = .ok (.aload_n 1, 1) := by decide +kernel
theorem dL_law_153 : decode cL_law 153 = .ok (.aload_n 0, 1) := by decide +kernel
theorem dL_law_154 : decode cL_law 154 = .ok (.iload_n 3, 1) := by decide +kernel
theorem dL_law_155 : decode cL_law 155 = .ok (.iconst 1, 1) := by decide +kernel
theorem dL_law_156 : decode cL_law 156 = .ok (.iadd, 1) := by decide +kernel
theorem dL_law_157 : decode cL_law 157 = .ok (.iaload, 1) := by decide +kernel
theorem dL_law_158 : decode cL_law 158 = .ok (.aload_n 0, 1) := by decide +kernel
theorem dL_law_159 : decode cL_law 159 = .ok (.iload_n 3, 1) := by decide +kernel
theorem dL_law_160 : decode cL_law 160 = .ok (.iconst 2, 1) := by decide +kernel
theorem dL_law_161 : decode cL_law 161 = .ok (.iadd, 1) := by decide +kernel
theorem dL_law_162 : decode cL_law 162 = .ok (.iaload, 1) := by decide +kernel
theorem dL_law_163 : decode cL_law 163 = .ok (.aload_n 0, 1) := by decide +kernel
theorem dL_law_164 : decode cL_law 164 = .ok (.iload_n 3, 1) := by decide +kernel
theorem dL_law_165 : decode cL_law 165 = .ok (.iconst 3, 1) := by decide +kernel
theorem dL_law_166 : decode cL_law 166 = .ok (.iadd, 1) := by decide +kernel
theorem dL_law_167 : decode cL_law 167 = .ok (.iaload, 1) := by decide +kernel
theorem dL_law_168 : decode cL_law 168 = .ok (.invokevirtual 13, 3) := by decide +kernel
theorem dL_law_171 : decode cL_law 171 = .ok (.aload_n 2, 1) := by decide +kernel
theorem dL_law_172 : decode cL_law 172 = .ok (.aload_n 0, 1) := by decide +kernel
theorem dL_law_173 : decode cL_law 173 = .ok (.iload_n 3, 1) := by decide +kernel
theorem dL_law_174 : decode cL_law 174 = .ok (.iconst 1, 1) := by decide +kernel
theorem dL_law_175 : decode cL_law 175 = .ok (.iadd, 1) := by decide +kernel
theorem dL_law_176 : decode cL_law 176 = .ok (.iaload, 1) := by decide +kernel
theorem dL_law_177 : decode cL_law 177 = .ok (.aload_n 0, 1) := by decide +kernel
theorem dL_law_178 : decode cL_law 178 = .ok (.iload_n 3, 1) := by decide +kernel
theorem dL_law_179 : decode cL_law 179 = .ok (.iconst 2, 1) := by decide +kernel
theorem dL_law_180 : decode cL_law 180 = .ok (.iadd, 1) := by decide +kernel
theorem dL_law_181 : decode cL_law 181 = .ok (.iaload, 1) := by decide +kernel
theorem dL_law_182 : decode cL_law 182 = .ok (.aload_n 0, 1) := by decide +kernel
theorem dL_law_183 : decode cL_law 183 = .ok (.iload_n 3, 1) := by decide +kernel
theorem dL_law_184 : decode cL_law 184 = .ok (.iconst 3, 1) := by decide +kernel
theorem dL_law_185 : decode cL_law 185 = .ok (.iadd, 1) := by decide +kernel
theorem dL_law_186 : decode cL_law 186 = .ok (.iaload, 1) := by decide +kernel
theorem dL_law_187 : decode cL_law 187 = .ok (.invokevirtual 17, 3) := by decide +kernel
theorem dL_law_190 : decode cL_law 190 = .ok (.if_icmp .eq 602, 3) := by decide +kernel
theorem dL_law_193 : decode cL_law 193 = .ok (.iconst 0, 1) := by decide +kernel
theorem dL_law_194 : decode cL_law 194 = .ok (.ireturn, 1) := by decide +kernel
theorem dL_law_195 : decode cL_law 195 = .ok (.aload_n 1, 1) := by decide +kernel
theorem dL_law_196 : decode cL_law 196 = .ok (.invokevirtual 18, 3) := by decide +kernel
theorem dL_law_199 : decode cL_law 199 = .ok (.aload_n 2, 1) := by decide +kernel
theorem dL_law_200 : decode cL_law 200 = .ok (.invokevirtual 22, 3) := by decide +kernel
theorem dL_law_203 : decode cL_law 203 = .ok (.if_icmp .eq 589, 3) := by decide +kernel
theorem dL_law_206 : decode cL_law 206 = .ok (.iconst 0, 1) := by decide +kernel
theorem dL_law_207 : decode cL_law 207 = .ok (.ireturn, 1) := by decide +kernel
theorem dL_law_208 : decode cL_law 208 = .ok (.aload_n 1, 1) := by decide +kernel
theorem dL_law_209 : decode cL_law 209 = .ok (.aload_n 0, 1) := by decide +kernel
theorem dL_law_210 : decode cL_law 210 = .ok (.iload_n 3, 1) := by decide +kernel
theorem dL_law_211 : decode cL_law 211 = .ok (.iconst 1, 1) := by decide +kernel
theorem dL_law_212 : decode cL_law 212 = .ok (.iadd, 1) := by decide +kernel
theorem dL_law_213 : decode cL_law 213 = .ok (.iaload, 1) := by decide +kernel
theorem dL_law_214 : decode cL_law 214 = .ok (.invokevirtual 23, 3) := by decide +kernel
theorem dL_law_217 : decode cL_law 217 = .ok (.aload_n 2, 1) := by decide +kernel
theorem dL_law_218 : decode cL_law 218 = .ok (.aload_n 0, 1) := by decide +kernel
theorem dL_law_219 : decode cL_law 219 = .ok (.iload_n 3, 1) := by decide +kernel
theorem dL_law_220 : decode cL_law 220 = .ok (.iconst 1, 1) := by decide +kernel
theorem dL_law_221 : decode cL_law 221 = .ok (.iadd, 1) := by decide +kernel
theorem dL_law_222 : decode cL_law 222 = .ok (.iaload, 1) := by decide +kernel
theorem dL_law_223 : decode cL_law 223 = .ok (.invokevirtual 27, 3) := by decide +kernel
theorem dL_law_226 : decode cL_law 226 = .ok (.if_icmp .eq 566, 3) := by decide +kernel
theorem dL_law_229 : decode cL_law 229 = .ok (.iconst 0, 1) := by decide +kernel
theorem dL_law_230 : decode cL_law 230 = .ok (.ireturn, 1) := by decide +kernel
theorem dL_law_231 : decode cL_law 231 = .ok (.aload_n 1, 1) := by decide +kernel
theorem dL_law_232 : decode cL_law 232 = .ok (.aload_n 0, 1) := by decide +kernel
theorem dL_law_233 : decode cL_law 233 = .ok (.iload_n 3, 1) := by decide +kernel
theorem dL_law_234 : decode cL_law 234 = .ok (.iconst 1, 1) := by decide +kernel
theorem dL_law_235 : decode cL_law 235 = .ok (.iadd, 1) := by decide +kernel
theorem dL_law_236 : decode cL_law 236 = .ok (.iaload, 1) := by decide +kernel
theorem dL_law_237 : decode cL_law 237 = .ok (.aload_n 0, 1) := by decide +kernel
theorem dL_law_238 : decode cL_law 238 = .ok (.iload_n 3, 1) := by decide +kernel
theorem dL_law_239 : decode cL_law 239 = .ok (.iconst 2, 1) := by decide +kernel
theorem dL_law_240 : decode cL_law 240 = .ok (.iadd, 1) := by decide +kernel
theorem dL_law_241 : decode cL_law 241 = .ok (.iaload, 1) := by decide +kernel
theorem dL_law_242 : decode cL_law 242 = .ok (.invokevirtual 28, 3) := by decide +kernel
theorem dL_law_245 : decode cL_law 245 = .ok (.aload_n 2, 1) := by decide +kernel
theorem dL_law_246 : decode cL_law 246 = .ok (.aload_n 0, 1) := by decide +kernel
theorem dL_law_247 : decode cL_law 247 = .ok (.iload_n 3, 1) := by decide +kernel
theorem dL_law_248 : decode cL_law 248 = .ok (.iconst 1, 1) := by decide +kernel
theorem dL_law_249 : decode cL_law 249 = .ok (.iadd, 1) := by decide +kernel
theorem dL_law_250 : decode cL_law 250 = .ok (.iaload, 1) := by decide +kernel
theorem dL_law_251 : decode cL_law 251 = .ok (.aload_n 0, 1) := by decide +kernel
theorem dL_law_252 : decode cL_law 252 = .ok (.iload_n 3, 1) := by decide +kernel
theorem dL_law_253 : decode cL_law 253 = .ok (.iconst 2, 1) := by decide +kernel
theorem dL_law_254 : decode cL_law 254 = .ok (.iadd, 1) := by decide +kernel
theorem dL_law_255 : decode cL_law 255 = .ok (.iaload, 1) := by decide +kernel
theorem dL_law_256 : decode cL_law 256 = .ok (.invokevirtual 32, 3) := by decide +kernel
theorem dL_law_259 : decode cL_law 259 = .ok (.if_icmp .eq 533, 3) := by decide +kernel
theorem dL_law_262 : decode cL_law 262 = .ok (.iconst 0, 1) := by decide +kernel
theorem dL_law_263 : decode cL_law 263 = .ok (.ireturn, 1) := by decide +kernel
theorem dL_law_264 : decode cL_law 264 = .ok (.aload_n 1, 1) := by decide +kernel
theorem dL_law_265 : decode cL_law 265 = .ok (.aload_n 0, 1) := by decide +kernel
theorem dL_law_266 : decode cL_law 266 = .ok (.iload_n 3, 1) := by decide +kernel
theorem dL_law_267 : decode cL_law 267 = .ok (.iconst 1, 1) := by decide +kernel
theorem dL_law_268 : decode cL_law 268 = .ok (.iadd, 1) := by decide +kernel
theorem dL_law_269 : decode cL_law 269 = .ok (.iaload, 1) := by decide +kernel
theorem dL_law_270 : decode cL_law 270 = .ok (.invokevirtual 33, 3) := by decide +kernel
theorem dL_law_273 : decode cL_law 273 = .ok (.aload_n 2, 1) := by decide +kernel
theorem dL_law_274 : decode cL_law 274 = .ok (.aload_n 0, 1) := by decide +kernel
theorem dL_law_275 : decode cL_law 275 = .ok (.iload_n 3, 1) := by decide +kernel
theorem dL_law_276 : decode cL_law 276 = .ok (.iconst 1, 1) := by decide +kernel
theorem dL_law_277 : decode cL_law 277 = .ok (.iadd, 1) := by decide +kernel
theorem dL_law_278 : decode cL_law 278 = .ok (.iaload, 1) := by decide +kernel
theorem dL_law_279 : decode cL_law 279 = .ok (.invokevirtual 36, 3) := by decide +kernel
theorem dL_law_282 : decode cL_law 282 = .ok (.if_icmp .eq 510, 3) := by decide +kernel
theorem dL_law_285 : decode cL_law 285 = .ok (.iconst 0, 1) := by decide +kernel
theorem dL_law_286 : decode cL_law 286 = .ok (.ireturn, 1) := by decide +kernel
theorem dL_law_287 : decode cL_law 287 = .ok (.aload_n 1, 1) := by decide +kernel
theorem dL_law_288 : decode cL_law 288 = .ok (.aload_n 0, 1) := by decide +kernel
theorem dL_law_289 : decode cL_law 289 = .ok (.iload_n 3, 1) := by decide +kernel
theorem dL_law_290 : decode cL_law 290 = .ok (.iconst 1, 1) := by decide +kernel
theorem dL_law_291 : decode cL_law 291 = .ok (.iadd, 1) := by decide +kernel
theorem dL_law_292 : decode cL_law 292 = .ok (.iaload, 1) := by decide +kernel
theorem dL_law_293 : decode cL_law 293 = .ok (.aload_n 0, 1) := by decide +kernel
theorem dL_law_294 : decode cL_law 294 = .ok (.iload_n 3, 1) := by decide +kernel
theorem dL_law_295 : decode cL_law 295 = .ok (.iconst 2, 1) := by decide +kernel
theorem dL_law_296 : decode cL_law 296 = .ok (.iadd, 1) := by decide +kernel
theorem dL_law_297 : decode cL_law 297 = .ok (.iaload, 1) := by decide +kernel
theorem dL_law_298 : decode cL_law 298 = .ok (.invokevirtual 37, 3) := by decide +kernel
theorem dL_law_301 : decode cL_law 301 = .ok (.aload_n 2, 1) := by decide +kernel
theorem dL_law_302 : decode cL_law 302 = .ok (.aload_n 0, 1) := by decide +kernel
theorem dL_law_303 : decode cL_law 303 = .ok (.iload_n 3, 1) := by decide +kernel
theorem dL_law_304 : decode cL_law 304 = .ok (.iconst 1, 1) := by decide +kernel
theorem dL_law_305 : decode cL_law 305 = .ok (.iadd, 1) := by decide +kernel
theorem dL_law_306 : decode cL_law 306 = .ok (.iaload, 1) := by decide +kernel
theorem dL_law_307 : decode cL_law 307 = .ok (.aload_n 0, 1) := by decide +kernel
theorem dL_law_308 : decode cL_law 308 = .ok (.iload_n 3, 1) := by decide +kernel
theorem dL_law_309 : decode cL_law 309 = .ok (.iconst 2, 1) := by decide +kernel
theorem dL_law_310 : decode cL_law 310 = .ok (.iadd, 1) := by decide +kernel
theorem dL_law_311 : decode cL_law 311 = .ok (.iaload, 1) := by decide +kernel
theorem dL_law_312 : decode cL_law 312 = .ok (.invokevirtual 40, 3) := by decide +kernel
theorem dL_law_315 : decode cL_law 315 = .ok (.if_icmp .eq 477, 3) := by decide +kernel
theorem dL_law_318 : decode cL_law 318 = .ok (.iconst 0, 1) := by decide +kernel
theorem dL_law_319 : decode cL_law 319 = .ok (.ireturn, 1) := by decide +kernel
theorem dL_law_320 : decode cL_law 320 = .ok (.aload_n 1, 1) := by decide +kernel
theorem dL_law_321 : decode cL_law 321 = .ok (.aload_n 0, 1) := by decide +kernel
theorem dL_law_322 : decode cL_law 322 = .ok (.iload_n 3, 1) := by decide +kernel
theorem dL_law_323 : decode cL_law 323 = .ok (.iconst 1, 1) := by decide +kernel
theorem dL_law_324 : decode cL_law 324 = .ok (.iadd, 1) := by decide +kernel
theorem dL_law_325 : decode cL_law 325 = .ok (.iaload, 1) := by decide +kernel
theorem dL_law_326 : decode cL_law 326 = .ok (.invokevirtual 41, 3) := by decide +kernel
theorem dL_law_329 : decode cL_law 329 = .ok (.aload_n 2, 1) := by decide +kernel
theorem dL_law_330 : decode cL_law 330 = .ok (.aload_n 0, 1) := by decide +kernel
theorem dL_law_331 : decode cL_law 331 = .ok (.iload_n 3, 1) := by decide +kernel
theorem dL_law_332 : decode cL_law 332 = .ok (.iconst 1, 1) := by decide +kernel
theorem dL_law_333 : decode cL_law 333 = .ok (.iadd, 1) := by decide +kernel
theorem dL_law_334 : decode cL_law 334 = .ok (.iaload, 1) := by decide +kernel
theorem dL_law_335 : decode cL_law 335 = .ok (.invokevirtual 44, 3) := by decide +kernel
theorem dL_law_338 : decode cL_law 338 = .ok (.if_icmp .eq 454, 3) := by decide +kernel
theorem dL_law_341 : decode cL_law 341 = .ok (.iconst 0, 1) := by decide +kernel
theorem dL_law_342 : decode cL_law 342 = .ok (.ireturn, 1) := by decide +kernel
theorem dL_law_343 : decode cL_law 343 = .ok (.aload_n 1, 1) := by decide +kernel
theorem dL_law_344 : decode cL_law 344 = .ok (.aload_n 0, 1) := by decide +kernel
theorem dL_law_345 : decode cL_law 345 = .ok (.iload_n 3, 1) := by decide +kernel
theorem dL_law_346 : decode cL_law 346 = .ok (.iconst 1, 1) := by decide +kernel
theorem dL_law_347 : decode cL_law 347 = .ok (.iadd, 1) := by decide +kernel
theorem dL_law_348 : decode cL_law 348 = .ok (.iaload, 1) := by decide +kernel
theorem dL_law_349 : decode cL_law 349 = .ok (.invokevirtual 45, 3) := by decide +kernel
theorem dL_law_352 : decode cL_law 352 = .ok (.aload_n 2, 1) := by decide +kernel
theorem dL_law_353 : decode cL_law 353 = .ok (.aload_n 0, 1) := by decide +kernel
theorem dL_law_354 : decode cL_law 354 = .ok (.iload_n 3, 1) := by decide +kernel
theorem dL_law_355 : decode cL_law 355 = .ok (.iconst 1, 1) := by decide +kernel
theorem dL_law_356 : decode cL_law 356 = .ok (.iadd, 1) := by decide +kernel
theorem dL_law_357 : decode cL_law 357 = .ok (.iaload, 1) := by decide +kernel
theorem dL_law_358 : decode cL_law 358 = .ok (.invokevirtual 48, 3) := by decide +kernel
theorem dL_law_361 : decode cL_law 361 = .ok (.if_icmp .eq 431, 3) := by decide +kernel
theorem dL_law_364 : decode cL_law 364 = .ok (.iconst 0, 1) := by decide +kernel
theorem dL_law_365 : decode cL_law 365 = .ok (.ireturn, 1) := by decide +kernel
theorem dL_law_366 : decode cL_law 366 = .ok (.aload_n 1, 1) := by decide +kernel
theorem dL_law_367 : decode cL_law 367 = .ok (.invokevirtual 49, 3) := by decide +kernel
theorem dL_law_370 : decode cL_law 370 = .ok (.aload_n 2, 1) := by decide +kernel
theorem dL_law_371 : decode cL_law 371 = .ok (.invokevirtual 52, 3) := by decide +kernel
theorem dL_law_374 : decode cL_law 374 = .ok (.if_icmp .eq 418, 3) := by decide +kernel
theorem dL_law_377 : decode cL_law 377 = .ok (.iconst 0, 1) := by decide +kernel
theorem dL_law_378 : decode cL_law 378 = .ok (.ireturn, 1) := by decide +kernel
theorem dL_law_379 : decode cL_law 379 = .ok (.aload_n 1, 1) := by decide +kernel
theorem dL_law_380 : decode cL_law 380 = .ok (.invokevirtual 53, 3) := by decide +kernel
theorem dL_law_383 : decode cL_law 383 = .ok (.aload_n 2, 1) := by decide +kernel
theorem dL_law_384 : decode cL_law 384 = .ok (.invokevirtual 56, 3) := by decide +kernel
theorem dL_law_387 : decode cL_law 387 = .ok (.if_icmp .eq 405, 3) := by decide +kernel
theorem dL_law_390 : decode cL_law 390 = .ok (.iconst 0, 1) := by decide +kernel
theorem dL_law_391 : decode cL_law 391 = .ok (.ireturn, 1) := by decide +kernel
theorem dL_law_392 : decode cL_law 392 = .ok (.aload_n 1, 1) := by decide +kernel
theorem dL_law_393 : decode cL_law 393 = .ok (.aload_n 0, 1) := by decide +kernel
theorem dL_law_394 : decode cL_law 394 = .ok (.iload_n 3, 1) := by decide +kernel
theorem dL_law_395 : decode cL_law 395 = .ok (.iconst 1, 1) := by decide +kernel
theorem dL_law_396 : decode cL_law 396 = .ok (.iadd, 1) := by decide +kernel
theorem dL_law_397 : decode cL_law 397 = .ok (.iaload, 1) := by decide +kernel
theorem dL_law_398 : decode cL_law 398 = .ok (.invokevirtual 57, 3) := by decide +kernel
theorem dL_law_401 : decode cL_law 401 = .ok (.aload_n 2, 1) := by decide +kernel
theorem dL_law_402 : decode cL_law 402 = .ok (.aload_n 0, 1) := by decide +kernel
theorem dL_law_403 : decode cL_law 403 = .ok (.iload_n 3, 1) := by decide +kernel
theorem dL_law_404 : decode cL_law 404 = .ok (.iconst 1, 1) := by decide +kernel
theorem dL_law_405 : decode cL_law 405 = .ok (.iadd, 1) := by decide +kernel
theorem dL_law_406 : decode cL_law 406 = .ok (.iaload, 1) := by decide +kernel
theorem dL_law_407 : decode cL_law 407 = .ok (.invokevirtual 60, 3) := by decide +kernel
theorem dL_law_410 : decode cL_law 410 = .ok (.if_icmp .eq 382, 3) := by decide +kernel
theorem dL_law_413 : decode cL_law 413 = .ok (.iconst 0, 1) := by decide +kernel
theorem dL_law_414 : decode cL_law 414 = .ok (.ireturn, 1) := by decide +kernel
theorem dL_law_415 : decode cL_law 415 = .ok (.aload_n 1, 1) := by decide +kernel
theorem dL_law_416 : decode cL_law 416 = .ok (.aload_n 0, 1) := by decide +kernel
theorem dL_law_417 : decode cL_law 417 = .ok (.iload_n 3, 1) := by decide +kernel
theorem dL_law_418 : decode cL_law 418 = .ok (.iconst 1, 1) := by decide +kernel
theorem dL_law_419 : decode cL_law 419 = .ok (.iadd, 1) := by decide +kernel
theorem dL_law_420 : decode cL_law 420 = .ok (.iaload, 1) := by decide +kernel
theorem dL_law_421 : decode cL_law 421 = .ok (.i2c, 1) := by decide +kernel
theorem dL_law_422 : decode cL_law 422 = .ok (.invokevirtual 61, 3) := by decide +kernel
theorem dL_law_425 : decode cL_law 425 = .ok (.aload_n 2, 1) := by decide +kernel
theorem dL_law_426 : decode cL_law 426 = .ok (.aload_n 0, 1) := by decide +kernel
theorem dL_law_427 : decode cL_law 427 = .ok (.iload_n 3, 1) := by decide +kernel
theorem dL_law_428 : decode cL_law 428 = .ok (.iconst 1, 1) := by decide +kernel
theorem dL_law_429 : decode cL_law 429 = .ok (.iadd, 1) := by decide +kernel
theorem dL_law_430 : decode cL_law 430 = .ok (.iaload, 1) := by decide +kernel
theorem dL_law_431 : decode cL_law 431 = .ok (.i2c, 1) := by decide +kernel
theorem dL_law_432 : decode cL_law 432 = .ok (.invokevirtual 65, 3) := by decide +kernel
theorem dL_law_435 : decode cL_law 435 = .ok (.if_icmp .eq 357, 3) := by decide +kernel
theorem dL_law_438 : decode cL_law 438 = .ok (.iconst 0, 1) := by decide +kernel
theorem dL_law_439 : decode cL_law 439 = .ok (.ireturn, 1) := by decide +kernel
theorem dL_law_440 : decode cL_law 440 = .ok (.aload_n 1, 1) := by decide +kernel
theorem dL_law_441 : decode cL_law 441 = .ok (.invokevirtual 66, 3) := by decide +kernel
theorem dL_law_444 : decode cL_law 444 = .ok (.aload_n 2, 1) := by decide +kernel
theorem dL_law_445 : decode cL_law 445 = .ok (.invokevirtual 69, 3) := by decide +kernel
theorem dL_law_448 : decode cL_law 448 = .ok (.if_icmp .eq 344, 3) := by decide +kernel
theorem dL_law_451 : decode cL_law 451 = .ok (.iconst 0, 1) := by decide +kernel
theorem dL_law_452 : decode cL_law 452 = .ok (.ireturn, 1) := by decide +kernel
theorem dL_law_453 : decode cL_law 453 = .ok (.aload_n 1, 1) := by decide +kernel
theorem dL_law_454 : decode cL_law 454 = .ok (.invokevirtual 70, 3) := by decide +kernel
theorem dL_law_457 : decode cL_law 457 = .ok (.aload_n 2, 1) := by decide +kernel
theorem dL_law_458 : decode cL_law 458 = .ok (.invokevirtual 73, 3) := by decide +kernel
theorem dL_law_461 : decode cL_law 461 = .ok (.if_icmp .eq 331, 3) := by decide +kernel
theorem dL_law_464 : decode cL_law 464 = .ok (.iconst 0, 1) := by decide +kernel
theorem dL_law_465 : decode cL_law 465 = .ok (.ireturn, 1) := by decide +kernel
theorem dL_law_466 : decode cL_law 466 = .ok (.aload_n 1, 1) := by decide +kernel
theorem dL_law_467 : decode cL_law 467 = .ok (.invokevirtual 74, 3) := by decide +kernel
theorem dL_law_470 : decode cL_law 470 = .ok (.aload_n 2, 1) := by decide +kernel
theorem dL_law_471 : decode cL_law 471 = .ok (.invokevirtual 77, 3) := by decide +kernel
theorem dL_law_474 : decode cL_law 474 = .ok (.if_icmp .eq 318, 3) := by decide +kernel
theorem dL_law_477 : decode cL_law 477 = .ok (.iconst 0, 1) := by decide +kernel
theorem dL_law_478 : decode cL_law 478 = .ok (.ireturn, 1) := by decide +kernel
theorem dL_law_479 : decode cL_law 479 = .ok (.aload_n 1, 1) := by decide +kernel
theorem dL_law_480 : decode cL_law 480 = .ok (.invokevirtual 78, 3) := by decide +kernel
theorem dL_law_483 : decode cL_law 483 = .ok (.aload_n 2, 1) := by decide +kernel
theorem dL_law_484 : decode cL_law 484 = .ok (.invokevirtual 81, 3) := by decide +kernel
theorem dL_law_487 : decode cL_law 487 = .ok (.if_icmp .eq 305, 3) := by decide +kernel
theorem dL_law_490 : decode cL_law 490 = .ok (.iconst 0, 1) := by decide +kernel
theorem dL_law_491 : decode cL_law 491 = .ok (.ireturn, 1) := by decide +kernel
theorem dL_law_492 : decode cL_law 492 = .ok (.aload_n 1, 1) := by decide +kernel
theorem dL_law_493 : decode cL_law 493 = .ok (.aload_n 0, 1) := by decide +kernel
theorem dL_law_494 : decode cL_law 494 = .ok (.iload_n 3, 1) := by decide +kernel
theorem dL_law_495 : decode cL_law 495 = .ok (.iconst 1, 1) := by decide +kernel
theorem dL_law_496 : decode cL_law 496 = .ok (.iadd, 1) := by decide +kernel
theorem dL_law_497 : decode cL_law 497 = .ok (.iaload, 1) := by decide +kernel
theorem dL_law_498 : decode cL_law 498 = .ok (.aload_n 0, 1) := by decide +kernel
theorem dL_law_499 : decode cL_law 499 = .ok (.iload_n 3, 1) := by decide +kernel
theorem dL_law_500 : decode cL_law 500 = .ok (.iconst 2, 1) := by decide +kernel
theorem dL_law_501 : decode cL_law 501 = .ok (.iadd, 1) := by decide +kernel
theorem dL_law_502 : decode cL_law 502 = .ok (.iaload, 1) := by decide +kernel
theorem dL_law_503 : decode cL_law 503 = .ok (.invokevirtual 82, 3) := by decide +kernel
theorem dL_law_506 : decode cL_law 506 = .ok (.aload_n 2, 1) := by decide +kernel
theorem dL_law_507 : decode cL_law 507 = .ok (.aload_n 0, 1) := by decide +kernel
theorem dL_law_508 : decode cL_law 508 = .ok (.iload_n 3, 1) := by decide +kernel
theorem dL_law_509 : decode cL_law 509 = .ok (.iconst 1, 1) := by decide +kernel
theorem dL_law_510 : decode cL_law 510 = .ok (.iadd, 1) := by decide +kernel
theorem dL_law_511 : decode cL_law 511 = .ok (.iaload, 1) := by decide +kernel
theorem dL_law_512 : decode cL_law 512 = .ok (.aload_n 0, 1) := by decide +kernel
theorem dL_law_513 : decode cL_law 513 = .ok (.iload_n 3, 1) := by decide +kernel
theorem dL_law_514 : decode cL_law 514 = .ok (.iconst 2, 1) := by decide +kernel
theorem dL_law_515 : decode cL_law 515 = .ok (.iadd, 1) := by decide +kernel
theorem dL_law_516 : decode cL_law 516 = .ok (.iaload, 1) := by decide +kernel
theorem dL_law_517 : decode cL_law 517 = .ok (.invokevirtual 85, 3) := by decide +kernel
theorem dL_law_520 : decode cL_law 520 = .ok (.if_icmp .eq 272, 3) := by decide +kernel
theorem dL_law_523 : decode cL_law 523 = .ok (.iconst 0, 1) := by decide +kernel
theorem dL_law_524 : decode cL_law 524 = .ok (.ireturn, 1) := by decide +kernel
theorem dL_law_525 : decode cL_law 525 = .ok (.aload_n 1, 1) := by decide +kernel
theorem dL_law_526 : decode cL_law 526 = .ok (.aload_n 0, 1) := by decide +kernel
theorem dL_law_527 : decode cL_law 527 = .ok (.iload_n 3, 1) := by decide +kernel
theorem dL_law_528 : decode cL_law 528 = .ok (.iconst 1, 1) := by decide +kernel
theorem dL_law_529 : decode cL_law 529 = .ok (.iadd, 1) := by decide +kernel
theorem dL_law_530 : decode cL_law 530 = .ok (.iaload, 1) := by decide +kernel
theorem dL_law_531 : decode cL_law 531 = .ok (.invokevirtual 86, 3) := by decide +kernel
theorem dL_law_534 : decode cL_law 534 = .ok (.aload_n 2, 1) := by decide +kernel
theorem dL_law_535 : decode cL_law 535 = .ok (.aload_n 0, 1) := by decide +kernel
theorem dL_law_536 : decode cL_law 536 = .ok (.iload_n 3, 1) := by decide +kernel
theorem dL_law_537 : decode cL_law 537 = .ok (.iconst 1, 1) := by decide +kernel
theorem dL_law_538 : decode cL_law 538 = .ok (.iadd, 1) := by decide +kernel
theorem dL_law_539 : decode cL_law 539 = .ok (.iaload, 1) := by decide +kernel
theorem dL_law_540 : decode cL_law 540 = .ok (.invokevirtual 89, 3) := by decide +kernel
theorem dL_law_543 : decode cL_law 543 = .ok (.if_icmp .eq 249, 3) := by decide +kernel
theorem dL_law_546 : decode cL_law 546 = .ok (.iconst 0, 1) := by decide +kernel
theorem dL_law_547 : decode cL_law 547 = .ok (.ireturn, 1) := by decide +kernel
theorem dL_law_548 : decode cL_law 548 = .ok (.aload_n 1, 1) := by decide +kernel
theorem dL_law_549 : decode cL_law 549 = .ok (.aload_n 0, 1) := by decide +kernel
theorem dL_law_550 : decode cL_law 550 = .ok (.iload_n 3, 1) := by decide +kernel
theorem dL_law_551 : decode cL_law 551 = .ok (.iconst 1, 1) := by decide +kernel
theorem dL_law_552 : decode cL_law 552 = .ok (.iadd, 1) := by decide +kernel
theorem dL_law_553 : decode cL_law 553 = .ok (.iaload, 1) := by decide +kernel
theorem dL_law_554 : decode cL_law 554 = .ok (.aload_n 0, 1) := by decide +kernel
theorem dL_law_555 : decode cL_law 555 = .ok (.iload_n 3, 1) := by decide +kernel
theorem dL_law_556 : decode cL_law 556 = .ok (.iconst 2, 1) := by decide +kernel
theorem dL_law_557 : decode cL_law 557 = .ok (.iadd, 1) := by decide +kernel
theorem dL_law_558 : decode cL_law 558 = .ok (.iaload, 1) := by decide +kernel
theorem dL_law_559 : decode cL_law 559 = .ok (.aload_n 0, 1) := by decide +kernel
theorem dL_law_560 : decode cL_law 560 = .ok (.iload_n 3, 1) := by decide +kernel
theorem dL_law_561 : decode cL_law 561 = .ok (.iconst 3, 1) := by decide +kernel
theorem dL_law_562 : decode cL_law 562 = .ok (.iadd, 1) := by decide +kernel
theorem dL_law_563 : decode cL_law 563 = .ok (.iaload, 1) := by decide +kernel
theorem dL_law_564 : decode cL_law 564 = .ok (.invokevirtual 90, 3) := by decide +kernel
theorem dL_law_567 : decode cL_law 567 = .ok (.aload_n 2, 1) := by decide +kernel
theorem dL_law_568 : decode cL_law 568 = .ok (.aload_n 0, 1) := by decide +kernel
theorem dL_law_569 : decode cL_law 569 = .ok (.iload_n 3, 1) := by decide +kernel
theorem dL_law_570 : decode cL_law 570 = .ok (.iconst 1, 1) := by decide +kernel
theorem dL_law_571 : decode cL_law 571 = .ok (.iadd, 1) := by decide +kernel
theorem dL_law_572 : decode cL_law 572 = .ok (.iaload, 1) := by decide +kernel
theorem dL_law_573 : decode cL_law 573 = .ok (.aload_n 0, 1) := by decide +kernel
theorem dL_law_574 : decode cL_law 574 = .ok (.iload_n 3, 1) := by decide +kernel
theorem dL_law_575 : decode cL_law 575 = .ok (.iconst 2, 1) := by decide +kernel
theorem dL_law_576 : decode cL_law 576 = .ok (.iadd, 1) := by decide +kernel
theorem dL_law_577 : decode cL_law 577 = .ok (.iaload, 1) := by decide +kernel
theorem dL_law_578 : decode cL_law 578 = .ok (.aload_n 0, 1) := by decide +kernel
theorem dL_law_579 : decode cL_law 579 = .ok (.iload_n 3, 1) := by decide +kernel
theorem dL_law_580 : decode cL_law 580 = .ok (.iconst 3, 1) := by decide +kernel
theorem dL_law_581 : decode cL_law 581 = .ok (.iadd, 1) := by decide +kernel
theorem dL_law_582 : decode cL_law 582 = .ok (.iaload, 1) := by decide +kernel
theorem dL_law_583 : decode cL_law 583 = .ok (.invokevirtual 93, 3) := by decide +kernel
theorem dL_law_586 : decode cL_law 586 = .ok (.if_icmp .eq 206, 3) := by decide +kernel
theorem dL_law_589 : decode cL_law 589 = .ok (.iconst 0, 1) := by decide +kernel
theorem dL_law_590 : decode cL_law 590 = .ok (.ireturn, 1) := by decide +kernel
theorem dL_law_591 : decode cL_law 591 = .ok (.aload_n 1, 1) := by decide +kernel
theorem dL_law_592 : decode cL_law 592 = .ok (.aload_n 0, 1) := by decide +kernel
theorem dL_law_593 : decode cL_law 593 = .ok (.iload_n 3, 1) := by decide +kernel
theorem dL_law_594 : decode cL_law 594 = .ok (.iconst 1, 1) := by decide +kernel
theorem dL_law_595 : decode cL_law 595 = .ok (.iadd, 1) := by decide +kernel
theorem dL_law_596 : decode cL_law 596 = .ok (.iaload, 1) := by decide +kernel
theorem dL_law_597 : decode cL_law 597 = .ok (.aload_n 0, 1) := by decide +kernel
theorem dL_law_598 : decode cL_law 598 = .ok (.iload_n 3, 1) := by decide +kernel
theorem dL_law_599 : decode cL_law 599 = .ok (.iconst 2, 1) := by decide +kernel
theorem dL_law_600 : decode cL_law 600 = .ok (.iadd, 1) := by decide +kernel
theorem dL_law_601 : decode cL_law 601 = .ok (.iaload, 1) := by decide +kernel
theorem dL_law_602 : decode cL_law 602 = .ok (.aload_n 0, 1) := by decide +kernel
theorem dL_law_603 : decode cL_law 603 = .ok (.iload_n 3, 1) := by decide +kernel
theorem dL_law_604 : decode cL_law 604 = .ok (.iconst 3, 1) := by decide +kernel
theorem dL_law_605 : decode cL_law 605 = .ok (.iadd, 1) := by decide +kernel
theorem dL_law_606 : decode cL_law 606 = .ok (.iaload, 1) := by decide +kernel
theorem dL_law_607 : decode cL_law 607 = .ok (.invokevirtual 94, 3) := by decide +kernel
theorem dL_law_610 : decode cL_law 610 = .ok (.aload_n 2, 1) := by decide +kernel
theorem dL_law_611 : decode cL_law 611 = .ok (.aload_n 0, 1) := by decide +kernel
theorem dL_law_612 : decode cL_law 612 = .ok (.iload_n 3, 1) := by decide +kernel
theorem dL_law_613 : decode cL_law 613 = .ok (.iconst 1, 1) := by decide +kernel
theorem dL_law_614 : decode cL_law 614 = .ok (.iadd, 1) := by decide +kernel
theorem dL_law_615 : decode cL_law 615 = .ok (.iaload, 1) := by decide +kernel
theorem dL_law_616 : decode cL_law 616 = .ok (.aload_n 0, 1) := by decide +kernel
theorem dL_law_617 : decode cL_law 617 = .ok (.iload_n 3, 1) := by decide +kernel
theorem dL_law_618 : decode cL_law 618 = .ok (.iconst 2, 1) := by decide +kernel
theorem dL_law_619 : decode cL_law 619 = .ok (.iadd, 1) := by decide +kernel
theorem dL_law_620 : decode cL_law 620 = .ok (.iaload, 1) := by decide +kernel
theorem dL_law_621 : decode cL_law 621 = .ok (.aload_n 0, 1) := by decide +kernel
theorem dL_law_622 : decode cL_law 622 = .ok (.iload_n 3, 1) := by decide +kernel
theorem dL_law_623 : decode cL_law 623 = .ok (.iconst 3, 1) := by decide +kernel
theorem dL_law_624 : decode cL_law 624 = .ok (.iadd, 1) := by decide +kernel
theorem dL_law_625 : decode cL_law 625 = .ok (.iaload, 1) := by decide +kernel
theorem dL_law_626 : decode cL_law 626 = .ok (.invokevirtual 97, 3) := by decide +kernel
theorem dL_law_629 : decode cL_law 629 = .ok (.if_icmp .eq 163, 3) := by decide +kernel
theorem dL_law_632 : decode cL_law 632 = .ok (.iconst 0, 1) := by decide +kernel
theorem dL_law_633 : decode cL_law 633 = .ok (.ireturn, 1) := by decide +kernel
theorem dL_law_634 : decode cL_law 634 = .ok (.aload_n 1, 1) := by decide +kernel
theorem dL_law_635 : decode cL_law 635 = .ok (.aload_n 0, 1) := by decide +kernel
theorem dL_law_636 : decode cL_law 636 = .ok (.iload_n 3, 1) := by decide +kernel
theorem dL_law_637 : decode cL_law 637 = .ok (.iconst 1, 1) := by decide +kernel
theorem dL_law_638 : decode cL_law 638 = .ok (.iadd, 1) := by decide +kernel
theorem dL_law_639 : decode cL_law 639 = .ok (.iaload, 1) := by decide +kernel
theorem dL_law_640 : decode cL_law 640 = .ok (.aload_n 0, 1) := by decide +kernel
theorem dL_law_641 : decode cL_law 641 = .ok (.iload_n 3, 1) := by decide +kernel
theorem dL_law_642 : decode cL_law 642 = .ok (.iconst 2, 1) := by decide +kernel
theorem dL_law_643 : decode cL_law 643 = .ok (.iadd, 1) := by decide +kernel
theorem dL_law_644 : decode cL_law 644 = .ok (.iaload, 1) := by decide +kernel
theorem dL_law_645 : decode cL_law 645 = .ok (.invokevirtual 98, 3) := by decide +kernel
theorem dL_law_648 : decode cL_law 648 = .ok (.aload_n 2, 1) := by decide +kernel
theorem dL_law_649 : decode cL_law 649 = .ok (.aload_n 0, 1) := by decide +kernel
theorem dL_law_650 : decode cL_law 650 = .ok (.iload_n 3, 1) := by decide +kernel
theorem dL_law_651 : decode cL_law 651 = .ok (.iconst 1, 1) := by decide +kernel
theorem dL_law_652 : decode cL_law 652 = .ok (.iadd, 1) := by decide +kernel
theorem dL_law_653 : decode cL_law 653 = .ok (.iaload, 1) := by decide +kernel
theorem dL_law_654 : decode cL_law 654 = .ok (.aload_n 0, 1) := by decide +kernel
theorem dL_law_655 : decode cL_law 655 = .ok (.iload_n 3, 1) := by decide +kernel
theorem dL_law_656 : decode cL_law 656 = .ok (.iconst 2, 1) := by decide +kernel
theorem dL_law_657 : decode cL_law 657 = .ok (.iadd, 1) := by decide +kernel
theorem dL_law_658 : decode cL_law 658 = .ok (.iaload, 1) := by decide +kernel
theorem dL_law_659 : decode cL_law 659 = .ok (.invokevirtual 101, 3) := by decide +kernel
theorem dL_law_662 : decode cL_law 662 = .ok (.if_icmp .eq 130, 3) := by decide +kernel
theorem dL_law_665 : decode cL_law 665 = .ok (.iconst 0, 1) := by decide +kernel
theorem dL_law_666 : decode cL_law 666 = .ok (.ireturn, 1) := by decide +kernel
theorem dL_law_667 : decode cL_law 667 = .ok (.aload_n 1, 1) := by decide +kernel
theorem dL_law_668 : decode cL_law 668 = .ok (.aload_n 0, 1) := by decide +kernel
theorem dL_law_669 : decode cL_law 669 = .ok (.iload_n 3, 1) := by decide +kernel
theorem dL_law_670 : decode cL_law 670 = .ok (.iconst 1, 1) := by decide +kernel
theorem dL_law_671 : decode cL_law 671 = .ok (.iadd, 1) := by decide +kernel
theorem dL_law_672 : decode cL_law 672 = .ok (.iaload, 1) := by decide +kernel
theorem dL_law_673 : decode cL_law 673 = .ok (.aload_n 0, 1) := by decide +kernel
theorem dL_law_674 : decode cL_law 674 = .ok (.iload_n 3, 1) := by decide +kernel
theorem dL_law_675 : decode cL_law 675 = .ok (.iconst 2, 1) := by decide +kernel
theorem dL_law_676 : decode cL_law 676 = .ok (.iadd, 1) := by decide +kernel
theorem dL_law_677 : decode cL_law 677 = .ok (.iaload, 1) := by decide +kernel
theorem dL_law_678 : decode cL_law 678 = .ok (.invokevirtual 102, 3) := by decide +kernel
theorem dL_law_681 : decode cL_law 681 = .ok (.aload_n 2, 1) := by decide +kernel
theorem dL_law_682 : decode cL_law 682 = .ok (.aload_n 0, 1) := by decide +kernel
theorem dL_law_683 : decode cL_law 683 = .ok (.iload_n 3, 1) := by decide +kernel
theorem dL_law_684 : decode cL_law 684 = .ok (.iconst 1, 1) := by decide +kernel
theorem dL_law_685 : decode cL_law 685 = .ok (.iadd, 1) := by decide +kernel
theorem dL_law_686 : decode cL_law 686 = .ok (.iaload, 1) := by decide +kernel
theorem dL_law_687 : decode cL_law 687 = .ok (.aload_n 0, 1) := by decide +kernel
theorem dL_law_688 : decode cL_law 688 = .ok (.iload_n 3, 1) := by decide +kernel
theorem dL_law_689 : decode cL_law 689 = .ok (.iconst 2, 1) := by decide +kernel
theorem dL_law_690 : decode cL_law 690 = .ok (.iadd, 1) := by decide +kernel
theorem dL_law_691 : decode cL_law 691 = .ok (.iaload, 1) := by decide +kernel
theorem dL_law_692 : decode cL_law 692 = .ok (.invokevirtual 105, 3) := by decide +kernel
theorem dL_law_695 : decode cL_law 695 = .ok (.if_icmp .eq 97, 3) := by decide +kernel
theorem dL_law_698 : decode cL_law 698 = .ok (.iconst 0, 1) := by decide +kernel
theorem dL_law_699 : decode cL_law 699 = .ok (.ireturn, 1) := by decide +kernel
theorem dL_law_700 : decode cL_law 700 = .ok (.aload_n 1, 1) := by decide +kernel
theorem dL_law_701 : decode cL_law 701 = .ok (.aload_n 0, 1) := by decide +kernel
theorem dL_law_702 : decode cL_law 702 = .ok (.iload_n 3, 1) := by decide +kernel
theorem dL_law_703 : decode cL_law 703 = .ok (.iconst 1, 1) := by decide +kernel
theorem dL_law_704 : decode cL_law 704 = .ok (.iadd, 1) := by decide +kernel
theorem dL_law_705 : decode cL_law 705 = .ok (.iaload, 1) := by decide +kernel
theorem dL_law_706 : decode cL_law 706 = .ok (.invokevirtual 106, 3) := by decide +kernel
theorem dL_law_709 : decode cL_law 709 = .ok (.aload_n 2, 1) := by decide +kernel
theorem dL_law_710 : decode cL_law 710 = .ok (.aload_n 0, 1) := by decide +kernel
theorem dL_law_711 : decode cL_law 711 = .ok (.iload_n 3, 1) := by decide +kernel
theorem dL_law_712 : decode cL_law 712 = .ok (.iconst 1, 1) := by decide +kernel
theorem dL_law_713 : decode cL_law 713 = .ok (.iadd, 1) := by decide +kernel
theorem dL_law_714 : decode cL_law 714 = .ok (.iaload, 1) := by decide +kernel
theorem dL_law_715 : decode cL_law 715 = .ok (.invokevirtual 109, 3) := by decide +kernel
theorem dL_law_718 : decode cL_law 718 = .ok (.if_icmp .eq 74, 3) := by decide +kernel
theorem dL_law_721 : decode cL_law 721 = .ok (.iconst 0, 1) := by decide +kernel
theorem dL_law_722 : decode cL_law 722 = .ok (.ireturn, 1) := by decide +kernel
theorem dL_law_723 : decode cL_law 723 = .ok (.aload_n 1, 1) := by decide +kernel
theorem dL_law_724 : decode cL_law 724 = .ok (.invokevirtual 110, 3) := by decide +kernel
theorem dL_law_727 : decode cL_law 727 = .ok (.aload_n 2, 1) := by decide +kernel
theorem dL_law_728 : decode cL_law 728 = .ok (.invokevirtual 113, 3) := by decide +kernel
theorem dL_law_731 : decode cL_law 731 = .ok (.if_icmp .eq 61, 3) := by decide +kernel
theorem dL_law_734 : decode cL_law 734 = .ok (.iconst 0, 1) := by decide +kernel
theorem dL_law_735 : decode cL_law 735 = .ok (.ireturn, 1) := by decide +kernel
theorem dL_law_736 : decode cL_law 736 = .ok (.aload_n 1, 1) := by decide +kernel
theorem dL_law_737 : decode cL_law 737 = .ok (.aload_n 0, 1) := by decide +kernel
theorem dL_law_738 : decode cL_law 738 = .ok (.iload_n 3, 1) := by decide +kernel
theorem dL_law_739 : decode cL_law 739 = .ok (.iconst 1, 1) := by decide +kernel
theorem dL_law_740 : decode cL_law 740 = .ok (.iadd, 1) := by decide +kernel
theorem dL_law_741 : decode cL_law 741 = .ok (.iaload, 1) := by decide +kernel
theorem dL_law_742 : decode cL_law 742 = .ok (.aload_n 0, 1) := by decide +kernel
theorem dL_law_743 : decode cL_law 743 = .ok (.iload_n 3, 1) := by decide +kernel
theorem dL_law_744 : decode cL_law 744 = .ok (.iconst 2, 1) := by decide +kernel
theorem dL_law_745 : decode cL_law 745 = .ok (.iadd, 1) := by decide +kernel
theorem dL_law_746 : decode cL_law 746 = .ok (.iaload, 1) := by decide +kernel
theorem dL_law_747 : decode cL_law 747 = .ok (.invokevirtual 114, 3) := by decide +kernel
theorem dL_law_750 : decode cL_law 750 = .ok (.aload_n 2, 1) := by decide +kernel
theorem dL_law_751 : decode cL_law 751 = .ok (.aload_n 0, 1) := by decide +kernel
theorem dL_law_752 : decode cL_law 752 = .ok (.iload_n 3, 1) := by decide +kernel
theorem dL_law_753 : decode cL_law 753 = .ok (.iconst 1, 1) := by decide +kernel
theorem dL_law_754 : decode cL_law 754 = .ok (.iadd, 1) := by decide +kernel
theorem dL_law_755 : decode cL_law 755 = .ok (.iaload, 1) := by decide +kernel
theorem dL_law_756 : decode cL_law 756 = .ok (.aload_n 0, 1) := by decide +kernel
theorem dL_law_757 : decode cL_law 757 = .ok (.iload_n 3, 1) := by decide +kernel
theorem dL_law_758 : decode cL_law 758 = .ok (.iconst 2, 1) := by decide +kernel
theorem dL_law_759 : decode cL_law 759 = .ok (.iadd, 1) := by decide +kernel
theorem dL_law_760 : decode cL_law 760 = .ok (.iaload, 1) := by decide +kernel
theorem dL_law_761 : decode cL_law 761 = .ok (.invokevirtual 117, 3) := by decide +kernel
theorem dL_law_764 : decode cL_law 764 = .ok (.if_icmp .eq 28, 3) := by decide +kernel
theorem dL_law_767 : decode cL_law 767 = .ok (.iconst 0, 1) := by decide +kernel
theorem dL_law_768 : decode cL_law 768 = .ok (.ireturn, 1) := by decide +kernel
theorem dL_law_769 : decode cL_law 769 = .ok (.aload_n 1, 1) := by decide +kernel
theorem dL_law_770 : decode cL_law 770 = .ok (.aload_n 0, 1) := by decide +kernel
theorem dL_law_771 : decode cL_law 771 = .ok (.iload_n 3, 1) := by decide +kernel
theorem dL_law_772 : decode cL_law 772 = .ok (.iconst 1, 1) := by decide +kernel
theorem dL_law_773 : decode cL_law 773 = .ok (.iadd, 1) := by decide +kernel
theorem dL_law_774 : decode cL_law 774 = .ok (.iaload, 1) := by decide +kernel
theorem dL_law_775 : decode cL_law 775 = .ok (.invokevirtual 118, 3) := by decide +kernel
theorem dL_law_778 : decode cL_law 778 = .ok (.aload_n 2, 1) := by decide +kernel
theorem dL_law_779 : decode cL_law 779 = .ok (.aload_n 0, 1) := by decide +kernel
theorem dL_law_780 : decode cL_law 780 = .ok (.iload_n 3, 1) := by decide +kernel
theorem dL_law_781 : decode cL_law 781 = .ok (.iconst 1, 1) := by decide +kernel
theorem dL_law_782 : decode cL_law 782 = .ok (.iadd, 1) := by decide +kernel
theorem dL_law_783 : decode cL_law 783 = .ok (.iaload, 1) := by decide +kernel
theorem dL_law_784 : decode cL_law 784 = .ok (.invokevirtual 121, 3) := by decide +kernel
theorem dL_law_787 : decode cL_law 787 = .ok (.if_icmp .eq 5, 3) := by decide +kernel
theorem dL_law_790 : decode cL_law 790 = .ok (.iconst 0, 1) := by decide +kernel
theorem dL_law_791 : decode cL_law 791 = .ok (.ireturn, 1) := by decide +kernel
theorem dL_law_792 : decode cL_law 792 = .ok (.iinc 3 4, 3) := by decide +kernel
theorem dL_law_795 : decode cL_law 795 = .ok (.goto (-777), 3) := by decide +kernel
theorem dL_law_798 : decode cL_law 798 = .ok (.iconst 1, 1) := by decide +kernel
theorem dL_law_799 : decode cL_law 799 = .ok (.ireturn, 1) := by decide +kernel
end
section
/-! TABLES of the machine: methods, calls, fields, constants; printed by wip/whole/gen/gen01.py -/
/-- a method: name, bytes, locals, answer, class number, height over the leaves, arguments -/
abbrev av_M : Type := MethodName × ByteArray × Nat × Option FieldType × Nat × Nat × Nat
abbrev MX0_init : av_M := (yX0_init, cX0_init, 1, none, 0, 1, 0)
abbrev MX0_copyFrom : av_M := (yX0_copyFrom, cX0_copyFrom, 2, none, 0, 1, 1)
abbrev MX0_hasView : av_M := (yX0_hasView, cX0_hasView, 2, (some .boolean), 0, 1, 1)
abbrev MX0_hasSlice : av_M := (yX0_hasSlice, cX0_hasSlice, 2, (some .boolean), 0, 1, 1)
abbrev MX0_colourIn : av_M := (yX0_colourIn, cX0_colourIn, 3, (some .int), 0, 2, 2)
abbrev MX0_paint : av_M := (yX0_paint, cX0_paint, 4, none, 0, 2, 3)
abbrev MX0_appendView : av_M := (yX0_appendView, cX0_appendView, 2, none, 0, 3, 0)
abbrev MX0_dropView : av_M := (yX0_dropView, cX0_dropView, 4, none, 0, 3, 1)
abbrev MX0_exchangeViews : av_M := (yX0_exchangeViews, cX0_exchangeViews, 7, (some .int), 0, 3, 2)
abbrev MX0_resetSlices : av_M := (yX0_resetSlices, cX0_resetSlices, 3, none, 0, 0, 0)
abbrev MX0_viewDue : av_M := (yX0_viewDue, cX0_viewDue, 2, (some .int), 0, 0, 1)
abbrev MX0_putSlice : av_M := (yX0_putSlice, cX0_putSlice, 3, none, 0, 1, 2)
abbrev MX0_putSlices : av_M := (yX0_putSlices, cX0_putSlices, 2, none, 0, 1, 1)
abbrev MX0_hasSlices : av_M := (yX0_hasSlices, cX0_hasSlices, 3, (some .boolean), 0, 1, 1)
abbrev MX0_slicesShowing : av_M := (yX0_slicesShowing, cX0_slicesShowing, 4, (some .int), 0, 1, 1)
abbrev MX0_showsEachView : av_M := (yX0_showsEachView, cX0_showsEachView, 2, (some .boolean), 0, 2, 0)
abbrev MX0_startSlices : av_M := (yX0_startSlices, cX0_startSlices, 2, none, 0, 0, 0)
abbrev MX0_nextSlices : av_M := (yX0_nextSlices, cX0_nextSlices, 4, (some .boolean), 0, 2, 0)
abbrev MX0_highestViewBefore : av_M := (yX0_highestViewBefore, cX0_highestViewBefore, 4, (some .int), 0, 1, 1)
abbrev MX0_spotBehind : av_M := (yX0_spotBehind, cX0_spotBehind, 4, (some .int), 0, 1, 2)
abbrev MX0_sliceBehind : av_M := (yX0_sliceBehind, cX0_sliceBehind, 4, (some .int), 0, 2, 2)
abbrev MX0_ridgeBehind : av_M := (yX0_ridgeBehind, cX0_ridgeBehind, 4, (some .int), 0, 2, 2)
abbrev MX0_viewBehind : av_M := (yX0_viewBehind, cX0_viewBehind, 3, (some .int), 0, 3, 2)
abbrev MX0_colourBehind : av_M := (yX0_colourBehind, cX0_colourBehind, 3, (some .int), 0, 4, 2)
abbrev MX0_stepAt : av_M := (yX0_stepAt, cX0_stepAt, 2, (some .int), 0, 0, 1)
abbrev MX0_placeSeen : av_M := (yX0_placeSeen, cX0_placeSeen, 4, (some .int), 0, 1, 2)
abbrev MX1_init : av_M := (yX1_init, cX1_init, 1, none, 1, 1, 0)
abbrev MX1_isFull : av_M := (yX1_isFull, cX1_isFull, 1, (some .boolean), 1, 0, 0)
abbrev MX1_append : av_M := (yX1_append, cX1_append, 2, none, 1, 0, 1)
abbrev MX1_empty : av_M := (yX1_empty, cX1_empty, 1, none, 1, 0, 0)
abbrev MX1_charAt : av_M := (yX1_charAt, cX1_charAt, 2, (some .char), 1, 0, 1)
abbrev MX1_digitAt : av_M := (yX1_digitAt, cX1_digitAt, 3, (some .int), 1, 1, 1)
abbrev MX1_findFault : av_M := (yX1_findFault, cX1_findFault, 2, (some .int), 1, 3, 0)
abbrev MX1_isAllowed : av_M := (yX1_isAllowed, cX1_isAllowed, 2, (some .boolean), 1, 2, 1)
abbrev MX1_isEnded : av_M := (yX1_isEnded, cX1_isEnded, 1, (some .boolean), 1, 1, 0)
abbrev MX1_viewsUpTo : av_M := (yX1_viewsUpTo, cX1_viewsUpTo, 1, (some .int), 1, 0, 1)
abbrev MX1_writeTo : av_M := (yX1_writeTo, cX1_writeTo, 4, none, 1, 3, 1)
abbrev MX2_init : av_M := (yX2_init, cX2_init, 2, none, 2, 2, 0)
abbrev MX2_record : av_M := (yX2_record, cX2_record, 3, none, 2, 2, 1)
abbrev MX2_dropOldest : av_M := (yX2_dropOldest, cX2_dropOldest, 3, none, 2, 0, 0)
abbrev MX2_takeLatest : av_M := (yX2_takeLatest, cX2_takeLatest, 3, none, 2, 2, 1)
abbrev MX2_stateAt : av_M := (yX2_stateAt, cX2_stateAt, 2, (some (.object "TiltedCards$Card")), 2, 0, 1)
abbrev MX3_init : av_M := (yX3_init, cX3_init, 2, none, 3, 1, 1)
abbrev MX3_aim : av_M := (yX3_aim, cX3_aim, 3, none, 3, 3, 0)
abbrev MX3_viewSeen : av_M := (yX3_viewSeen, cX3_viewSeen, 3, (some .int), 3, 1, 2)
abbrev MX3_isGhost : av_M := (yX3_isGhost, cX3_isGhost, 4, (some .boolean), 3, 2, 2)
abbrev MX3_ghosts : av_M := (yX3_ghosts, cX3_ghosts, 4, (some .int), 3, 3, 1)
abbrev MX3_ghostsAtAllAngles : av_M := (yX3_ghostsAtAllAngles, cX3_ghostsAtAllAngles, 3, (some .int), 3, 4, 0)
abbrev MX3_ridgesShowing : av_M := (yX3_ridgesShowing, cX3_ridgesShowing, 5, (some .int), 3, 2, 2)
abbrev MX3_wholeView : av_M := (yX3_wholeView, cX3_wholeView, 3, (some .int), 3, 3, 1)
abbrev MX3_mostShownView : av_M := (yX3_mostShownView, cX3_mostShownView, 6, (some .int), 3, 3, 1)
abbrev MX3_mostShownRidges : av_M := (yX3_mostShownRidges, cX3_mostShownRidges, 3, (some .int), 3, 4, 1)
abbrev MX3_anglesShowingWhole : av_M := (yX3_anglesShowingWhole, cX3_anglesShowingWhole, 4, (some .int), 3, 4, 1)
abbrev MX3_anglesShowingAnyWhole : av_M := (yX3_anglesShowingAnyWhole, cX3_anglesShowingAnyWhole, 1, (some .int), 3, 5, 0)
abbrev MX3_wholeViews : av_M := (yX3_wholeViews, cX3_wholeViews, 3, (some .int), 3, 5, 0)
abbrev MX3_clearestAngle : av_M := (yX3_clearestAngle, cX3_clearestAngle, 9, (some .int), 3, 4, 1)
abbrev MX4_init : av_M := (yX4_init, cX4_init, 1, none, 4, 3, 0)
abbrev MX4_colour : av_M := (yX4_colour, cX4_colour, 5, (some .int), 4, 3, 3)
abbrev MX4_addView : av_M := (yX4_addView, cX4_addView, 1, (some .int), 4, 4, 0)
abbrev MX4_removeView : av_M := (yX4_removeView, cX4_removeView, 2, (some .int), 4, 4, 1)
abbrev MX4_swap : av_M := (yX4_swap, cX4_swap, 3, (some .int), 4, 4, 2)
abbrev MX4_setPitch : av_M := (yX4_setPitch, cX4_setPitch, 3, (some .int), 4, 3, 1)
abbrev MX4_slice : av_M := (yX4_slice, cX4_slice, 4, (some .int), 4, 3, 2)
abbrev MX4_setShift : av_M := (yX4_setShift, cX4_setShift, 3, (some .int), 4, 3, 1)
abbrev MX4_setLean : av_M := (yX4_setLean, cX4_setLean, 3, (some .int), 4, 3, 1)
abbrev MX4_order : av_M := (yX4_order, cX4_order, 1, (some .int), 4, 6, 0)
abbrev MX4_read : av_M := (yX4_read, cX4_read, 2, (some .int), 4, 4, 0)
abbrev MX4_press : av_M := (yX4_press, cX4_press, 3, (some .int), 4, 6, 1)
abbrev MX4_type : av_M := (yX4_type, cX4_type, 2, (some .int), 4, 1, 1)
abbrev MX4_clearText : av_M := (yX4_clearText, cX4_clearText, 2, (some .int), 4, 1, 0)
abbrev MX4_undo : av_M := (yX4_undo, cX4_undo, 1, (some .int), 4, 3, 0)
abbrev MX4_keep : av_M := (yX4_keep, cX4_keep, 1, (some .int), 4, 2, 0)
abbrev MX4_restore : av_M := (yX4_restore, cX4_restore, 1, (some .int), 4, 3, 0)
abbrev MX4_colourOf : av_M := (yX4_colourOf, cX4_colourOf, 3, (some .int), 4, 3, 2)
abbrev MX4_viewOf : av_M := (yX4_viewOf, cX4_viewOf, 2, (some .int), 4, 2, 1)
abbrev MX4_behind : av_M := (yX4_behind, cX4_behind, 4, (some .int), 4, 5, 3)
abbrev MX4_seen : av_M := (yX4_seen, cX4_seen, 6, (some .int), 4, 5, 3)
abbrev MX4_at : av_M := (yX4_at, cX4_at, 4, (some .int), 4, 5, 2)
abbrev MX4_view : av_M := (yX4_view, cX4_view, 3, (some .int), 4, 5, 2)
abbrev MX4_bestOrder : av_M := (yX4_bestOrder, cX4_bestOrder, 2, (some .int), 4, 6, 1)
abbrev MX4_bestShift : av_M := (yX4_bestShift, cX4_bestShift, 6, (some .int), 4, 6, 0)
abbrev MX4_ifSlice : av_M := (yX4_ifSlice, cX4_ifSlice, 3, (some .int), 4, 5, 2)
abbrev MX4_count : av_M := (yX4_count, cX4_count, 2, (some .int), 4, 6, 1)
abbrev MX4_isWithin : av_M := (yX4_isWithin, cX4_isWithin, 3, (some .boolean), 4, 0, 3)
abbrev MX4_isRidge : av_M := (yX4_isRidge, cX4_isRidge, 1, (some .boolean), 4, 1, 1)
abbrev MX4_isAngle : av_M := (yX4_isAngle, cX4_isAngle, 1, (some .boolean), 4, 1, 1)
abbrev MX4_noneForNothing : av_M := (yX4_noneForNothing, cX4_noneForNothing, 1, (some .int), 4, 0, 1)
abbrev MX4_copyNumbers : av_M := (yX4_copyNumbers, cX4_copyNumbers, 3, none, 4, 0, 2)
abbrev MX4_look : av_M := (yX4_look, cX4_look, 1, (some (.object "TiltedCards$Sight")), 4, 4, 0)
abbrev MX4_ghostsWithShift : av_M := (yX4_ghostsWithShift, cX4_ghostsWithShift, 2, (some .int), 4, 5, 1)
abbrev MX4_findBestSlices : av_M := (yX4_findBestSlices, cX4_findBestSlices, 7, none, 4, 5, 0)
abbrev MX5_init : av_M := (yX5_init, cX5_init, 1, none, 5, 1, 0)
abbrev MX5_in : av_M := (yX5_in, cX5_in, 6, (some .boolean), 5, 0, 3)
abbrev MX5_remember : av_M := (yX5_remember, cX5_remember, 2, none, 5, 0, 0)
abbrev MX5_acted : av_M := (yX5_acted, cX5_acted, 3, (some .int), 5, 0, 1)
abbrev MX5_isView : av_M := (yX5_isView, cX5_isView, 2, (some .boolean), 5, 1, 1)
abbrev MX5_isRidge : av_M := (yX5_isRidge, cX5_isRidge, 1, (some .boolean), 5, 1, 1)
abbrev MX5_isSlice : av_M := (yX5_isSlice, cX5_isSlice, 2, (some .boolean), 5, 1, 1)
abbrev MX5_isAngle : av_M := (yX5_isAngle, cX5_isAngle, 1, (some .boolean), 5, 1, 1)
abbrev MX5_colourAt : av_M := (yX5_colourAt, cX5_colourAt, 3, (some .int), 5, 0, 2)
abbrev MX5_ordersAsFirst : av_M := (yX5_ordersAsFirst, cX5_ordersAsFirst, 2, none, 5, 0, 0)
abbrev MX5_dueAt : av_M := (yX5_dueAt, cX5_dueAt, 4, (some .int), 5, 1, 2)
abbrev MX5_placeSeen : av_M := (yX5_placeSeen, cX5_placeSeen, 4, (some .int), 5, 0, 2)
abbrev MX5_laysSlots : av_M := (yX5_laysSlots, cX5_laysSlots, 4, none, 5, 2, 0)
abbrev MX5_viewSeen : av_M := (yX5_viewSeen, cX5_viewSeen, 4, (some .int), 5, 0, 2)
abbrev MX5_isGhost : av_M := (yX5_isGhost, cX5_isGhost, 4, (some .boolean), 5, 1, 2)
abbrev MX5_ghostsAt : av_M := (yX5_ghostsAt, cX5_ghostsAt, 4, (some .int), 5, 2, 1)
abbrev MX5_ghosts : av_M := (yX5_ghosts, cX5_ghosts, 3, (some .int), 5, 3, 0)
abbrev MX5_ghostsNow : av_M := (yX5_ghostsNow, cX5_ghostsNow, 1, (some .int), 5, 4, 0)
abbrev MX5_showing : av_M := (yX5_showing, cX5_showing, 5, (some .int), 5, 1, 2)
abbrev MX5_wholeAngles : av_M := (yX5_wholeAngles, cX5_wholeAngles, 4, (some .int), 5, 2, 1)
abbrev MX5_whole : av_M := (yX5_whole, cX5_whole, 5, (some .int), 5, 3, 1)
abbrev MX5_colour : av_M := (yX5_colour, cX5_colour, 5, (some .int), 5, 2, 3)
abbrev MX5_addView : av_M := (yX5_addView, cX5_addView, 1, (some .int), 5, 1, 0)
abbrev MX5_removeView : av_M := (yX5_removeView, cX5_removeView, 3, (some .int), 5, 2, 1)
abbrev MX5_swap : av_M := (yX5_swap, cX5_swap, 6, (some .int), 5, 2, 2)
abbrev MX5_settles : av_M := (yX5_settles, cX5_settles, 5, (some .int), 5, 1, 3)
abbrev MX5_setPitch : av_M := (yX5_setPitch, cX5_setPitch, 2, (some .int), 5, 2, 1)
abbrev MX5_setShift : av_M := (yX5_setShift, cX5_setShift, 2, (some .int), 5, 2, 1)
abbrev MX5_setLean : av_M := (yX5_setLean, cX5_setLean, 2, (some .int), 5, 2, 1)
abbrev MX5_slice : av_M := (yX5_slice, cX5_slice, 4, (some .int), 5, 2, 2)
abbrev MX5_laysOrder : av_M := (yX5_laysOrder, cX5_laysOrder, 5, (some .boolean), 5, 0, 1)
abbrev MX5_findsOrder : av_M := (yX5_findsOrder, cX5_findsOrder, 6, none, 5, 4, 0)
abbrev MX5_order : av_M := (yX5_order, cX5_order, 3, (some .int), 5, 5, 0)
abbrev MX5_press : av_M := (yX5_press, cX5_press, 3, (some .int), 5, 4, 1)
abbrev MX5_type : av_M := (yX5_type, cX5_type, 2, (some .int), 5, 0, 1)
abbrev MX5_clearText : av_M := (yX5_clearText, cX5_clearText, 2, (some .int), 5, 0, 0)
abbrev MX5_isHere : av_M := (yX5_isHere, cX5_isHere, 3, (some .boolean), 5, 1, 2)
abbrev MX5_takes : av_M := (yX5_takes, cX5_takes, 3, (some .boolean), 5, 2, 1)
abbrev MX5_readsDigits : av_M := (yX5_readsDigits, cX5_readsDigits, 4, (some .int), 5, 2, 2)
abbrev MX5_fault : av_M := (yX5_fault, cX5_fault, 2, (some .int), 5, 3, 0)
abbrev MX5_read : av_M := (yX5_read, cX5_read, 4, (some .int), 5, 4, 0)
abbrev MX5_undo : av_M := (yX5_undo, cX5_undo, 2, (some .int), 5, 0, 0)
abbrev MX5_keep : av_M := (yX5_keep, cX5_keep, 2, (some .int), 5, 0, 0)
abbrev MX5_restore : av_M := (yX5_restore, cX5_restore, 2, (some .int), 5, 1, 0)
abbrev MX5_colourOf : av_M := (yX5_colourOf, cX5_colourOf, 3, (some .int), 5, 2, 2)
abbrev MX5_viewOf : av_M := (yX5_viewOf, cX5_viewOf, 2, (some .int), 5, 2, 1)
abbrev MX5_dueOf : av_M := (yX5_dueOf, cX5_dueOf, 5, (some .int), 5, 1, 2)
abbrev MX5_behind : av_M := (yX5_behind, cX5_behind, 4, (some .int), 5, 2, 3)
abbrev MX5_seen : av_M := (yX5_seen, cX5_seen, 5, (some .int), 5, 3, 3)
abbrev MX5_wholeAt : av_M := (yX5_wholeAt, cX5_wholeAt, 4, (some .int), 5, 2, 1)
abbrev MX5_mostAt : av_M := (yX5_mostAt, cX5_mostAt, 6, (some .int), 5, 2, 1)
abbrev MX5_at : av_M := (yX5_at, cX5_at, 4, (some .int), 5, 3, 2)
abbrev MX5_clearest : av_M := (yX5_clearest, cX5_clearest, 5, (some .int), 5, 3, 1)
abbrev MX5_slicesOf : av_M := (yX5_slicesOf, cX5_slicesOf, 4, (some .int), 5, 0, 1)
abbrev MX5_view : av_M := (yX5_view, cX5_view, 3, (some .int), 5, 4, 2)
abbrev MX5_bestOrder : av_M := (yX5_bestOrder, cX5_bestOrder, 2, (some .int), 5, 5, 1)
abbrev MX5_bestShift : av_M := (yX5_bestShift, cX5_bestShift, 7, (some .int), 5, 5, 0)
abbrev MX5_ifSlice : av_M := (yX5_ifSlice, cX5_ifSlice, 5, (some .int), 5, 5, 2)
abbrev MX5_count : av_M := (yX5_count, cX5_count, 2, (some .int), 5, 5, 1)
abbrev ML_law : av_M := (yL_law, cL_law, 4, (some .boolean), 99, 7, 1)
def av_MT : List av_M := [MX0_init, MX0_copyFrom, MX0_hasView, MX0_hasSlice, MX0_colourIn, MX0_paint, MX0_appendView, MX0_dropView, MX0_exchangeViews, MX0_resetSlices, MX0_viewDue, MX0_putSlice, MX0_putSlices, MX0_hasSlices, MX0_slicesShowing, MX0_showsEachView, MX0_startSlices, MX0_nextSlices, MX0_highestViewBefore, MX0_spotBehind, MX0_sliceBehind, MX0_ridgeBehind, MX0_viewBehind, MX0_colourBehind, MX0_stepAt, MX0_placeSeen, MX1_init, MX1_isFull, MX1_append, MX1_empty, MX1_charAt, MX1_digitAt, MX1_findFault, MX1_isAllowed, MX1_isEnded, MX1_viewsUpTo, MX1_writeTo, MX2_init, MX2_record, MX2_dropOldest, MX2_takeLatest, MX2_stateAt, MX3_init, MX3_aim, MX3_viewSeen, MX3_isGhost, MX3_ghosts, MX3_ghostsAtAllAngles, MX3_ridgesShowing, MX3_wholeView, MX3_mostShownView, MX3_mostShownRidges, MX3_anglesShowingWhole, MX3_anglesShowingAnyWhole, MX3_wholeViews, MX3_clearestAngle, MX4_init, MX4_colour, MX4_addView, MX4_removeView, MX4_swap, MX4_setPitch, MX4_slice, MX4_setShift, MX4_setLean, MX4_order, MX4_read, MX4_press, MX4_type, MX4_clearText, MX4_undo, MX4_keep, MX4_restore, MX4_colourOf, MX4_viewOf, MX4_behind, MX4_seen, MX4_at, MX4_view, MX4_bestOrder, MX4_bestShift, MX4_ifSlice, MX4_count, MX4_isWithin, MX4_isRidge, MX4_isAngle, MX4_noneForNothing, MX4_copyNumbers, MX4_look, MX4_ghostsWithShift, MX4_findBestSlices, MX5_init, MX5_in, MX5_remember, MX5_acted, MX5_isView, MX5_isRidge, MX5_isSlice, MX5_isAngle, MX5_colourAt, MX5_ordersAsFirst, MX5_dueAt, MX5_placeSeen, MX5_laysSlots, MX5_viewSeen, MX5_isGhost, MX5_ghostsAt, MX5_ghosts, MX5_ghostsNow, MX5_showing, MX5_wholeAngles, MX5_whole, MX5_colour, MX5_addView, MX5_removeView, MX5_swap, MX5_settles, MX5_setPitch, MX5_setShift, MX5_setLean, MX5_slice, MX5_laysOrder, MX5_findsOrder, MX5_order, MX5_press, MX5_type, MX5_clearText, MX5_isHere, MX5_takes, MX5_readsDigits, MX5_fault, MX5_read, MX5_undo, MX5_keep, MX5_restore, MX5_colourOf, MX5_viewOf, MX5_dueOf, MX5_behind, MX5_seen, MX5_wholeAt, MX5_mostAt, MX5_at, MX5_clearest, MX5_slicesOf, MX5_view, MX5_bestOrder, MX5_bestShift, MX5_ifSlice, MX5_count]
set_option maxRecDepth 100000 in
theorem kX0 : Cond.code MX0_init.1 MX0_init.2.1 MX0_init.2.2.1 MX0_init.2.2.2.1 ∈ lw_tbl := List.mem_of_getElem? (i := 52) rfl
set_option maxRecDepth 100000 in
theorem kX1 : Cond.code MX0_copyFrom.1 MX0_copyFrom.2.1 MX0_copyFrom.2.2.1 MX0_copyFrom.2.2.2.1 ∈ lw_tbl := List.mem_of_getElem? (i := 213) rfl
set_option maxRecDepth 100000 in
theorem kX2 : Cond.code MX0_hasView.1 MX0_hasView.2.1 MX0_hasView.2.2.1 MX0_hasView.2.2.2.1 ∈ lw_tbl := List.mem_of_getElem? (i := 185) rfl
set_option maxRecDepth 100000 in
theorem kX3 : Cond.code MX0_hasSlice.1 MX0_hasSlice.2.1 MX0_hasSlice.2.2.1 MX0_hasSlice.2.2.2.1 ∈ lw_tbl := List.mem_of_getElem? (i := 259) rfl
set_option maxRecDepth 100000 in
theorem kX4 : Cond.code MX0_colourIn.1 MX0_colourIn.2.1 MX0_colourIn.2.2.1 MX0_colourIn.2.2.2.1 ∈ lw_tbl := List.mem_of_getElem? (i := 196) rfl
set_option maxRecDepth 100000 in
theorem kX5 : Cond.code MX0_paint.1 MX0_paint.2.1 MX0_paint.2.2.1 MX0_paint.2.2.2.1 ∈ lw_tbl := List.mem_of_getElem? (i := 220) rfl
set_option maxRecDepth 100000 in
theorem kX6 : Cond.code MX0_appendView.1 MX0_appendView.2.1 MX0_appendView.2.2.1 MX0_appendView.2.2.2.1 ∈ lw_tbl := List.mem_of_getElem? (i := 228) rfl
set_option maxRecDepth 100000 in
theorem kX7 : Cond.code MX0_dropView.1 MX0_dropView.2.1 MX0_dropView.2.2.1 MX0_dropView.2.2.2.1 ∈ lw_tbl := List.mem_of_getElem? (i := 237) rfl
set_option maxRecDepth 100000 in
theorem kX8 : Cond.code MX0_exchangeViews.1 MX0_exchangeViews.2.1 MX0_exchangeViews.2.2.1 MX0_exchangeViews.2.2.2.1 ∈ lw_tbl := List.mem_of_getElem? (i := 246) rfl
set_option maxRecDepth 100000 in
theorem kX9 : Cond.code MX0_resetSlices.1 MX0_resetSlices.2.1 MX0_resetSlices.2.2.1 MX0_resetSlices.2.2.2.1 ∈ lw_tbl := List.mem_of_getElem? (i := 57) rfl
set_option maxRecDepth 100000 in
theorem kX10 : Cond.code MX0_viewDue.1 MX0_viewDue.2.1 MX0_viewDue.2.2.1 MX0_viewDue.2.2.2.1 ∈ lw_tbl := List.mem_of_getElem? (i := 263) rfl
set_option maxRecDepth 100000 in
theorem kX11 : Cond.code MX0_putSlice.1 MX0_putSlice.2.1 MX0_putSlice.2.2.1 MX0_putSlice.2.2.2.1 ∈ lw_tbl := List.mem_of_getElem? (i := 267) rfl
set_option maxRecDepth 100000 in
theorem kX12 : Cond.code MX0_putSlices.1 MX0_putSlices.2.1 MX0_putSlices.2.2.1 MX0_putSlices.2.2.2.1 ∈ lw_tbl := List.mem_of_getElem? (i := 359) rfl
set_option maxRecDepth 100000 in
theorem kX13 : Cond.code MX0_hasSlices.1 MX0_hasSlices.2.1 MX0_hasSlices.2.2.1 MX0_hasSlices.2.2.2.1 ∈ lw_tbl := List.mem_of_getElem? (i := 355) rfl
set_option maxRecDepth 100000 in
theorem kX14 : Cond.code MX0_slicesShowing.1 MX0_slicesShowing.2.1 MX0_slicesShowing.2.2.1 MX0_slicesShowing.2.2.2.1 ∈ lw_tbl := List.mem_of_getElem? (i := 323) rfl
set_option maxRecDepth 100000 in
theorem kX15 : Cond.code MX0_showsEachView.1 MX0_showsEachView.2.1 MX0_showsEachView.2.2.1 MX0_showsEachView.2.2.2.1 ∈ lw_tbl := List.mem_of_getElem? (i := 319) rfl
set_option maxRecDepth 100000 in
theorem kX16 : Cond.code MX0_startSlices.1 MX0_startSlices.2.1 MX0_startSlices.2.2.1 MX0_startSlices.2.2.2.1 ∈ lw_tbl := List.mem_of_getElem? (i := 288) rfl
set_option maxRecDepth 100000 in
theorem kX17 : Cond.code MX0_nextSlices.1 MX0_nextSlices.2.1 MX0_nextSlices.2.2.1 MX0_nextSlices.2.2.2.1 ∈ lw_tbl := List.mem_of_getElem? (i := 346) rfl
set_option maxRecDepth 100000 in
theorem kX18 : Cond.code MX0_highestViewBefore.1 MX0_highestViewBefore.2.1 MX0_highestViewBefore.2.2.1 MX0_highestViewBefore.2.2.2.1 ∈ lw_tbl := List.mem_of_getElem? (i := 350) rfl
set_option maxRecDepth 100000 in
theorem kX19 : Cond.code MX0_spotBehind.1 MX0_spotBehind.2.1 MX0_spotBehind.2.2.1 MX0_spotBehind.2.2.2.1 ∈ lw_tbl := List.mem_of_getElem? (i := 310) rfl
set_option maxRecDepth 100000 in
theorem kX20 : Cond.code MX0_sliceBehind.1 MX0_sliceBehind.2.1 MX0_sliceBehind.2.2.1 MX0_sliceBehind.2.2.2.1 ∈ lw_tbl := List.mem_of_getElem? (i := 306) rfl
set_option maxRecDepth 100000 in
theorem kX21 : Cond.code MX0_ridgeBehind.1 MX0_ridgeBehind.2.1 MX0_ridgeBehind.2.2.1 MX0_ridgeBehind.2.2.2.1 ∈ lw_tbl := List.mem_of_getElem? (i := 484) rfl
set_option maxRecDepth 100000 in
theorem kX22 : Cond.code MX0_viewBehind.1 MX0_viewBehind.2.1 MX0_viewBehind.2.2.1 MX0_viewBehind.2.2.2.1 ∈ lw_tbl := List.mem_of_getElem? (i := 471) rfl
set_option maxRecDepth 100000 in
theorem kX23 : Cond.code MX0_colourBehind.1 MX0_colourBehind.2.1 MX0_colourBehind.2.2.1 MX0_colourBehind.2.2.2.1 ∈ lw_tbl := List.mem_of_getElem? (i := 479) rfl
set_option maxRecDepth 100000 in
theorem kX24 : Cond.code MX0_stepAt.1 MX0_stepAt.2.1 MX0_stepAt.2.2.1 MX0_stepAt.2.2.2.1 ∈ lw_tbl := List.mem_of_getElem? (i := 314) rfl
set_option maxRecDepth 100000 in
theorem kX25 : Cond.code MX0_placeSeen.1 MX0_placeSeen.2.1 MX0_placeSeen.2.2.1 MX0_placeSeen.2.2.2.1 ∈ lw_tbl := List.mem_of_getElem? (i := 296) rfl
set_option maxRecDepth 100000 in
theorem kX26 : Cond.code MX1_init.1 MX1_init.2.1 MX1_init.2.2.1 MX1_init.2.2.2.1 ∈ lw_tbl := List.mem_of_getElem? (i := 136) rfl
set_option maxRecDepth 100000 in
theorem kX27 : Cond.code MX1_isFull.1 MX1_isFull.2.1 MX1_isFull.2.2.1 MX1_isFull.2.2.2.1 ∈ lw_tbl := List.mem_of_getElem? (i := 427) rfl
set_option maxRecDepth 100000 in
theorem kX28 : Cond.code MX1_append.1 MX1_append.2.1 MX1_append.2.2.1 MX1_append.2.2.2.1 ∈ lw_tbl := List.mem_of_getElem? (i := 431) rfl
set_option maxRecDepth 100000 in
theorem kX29 : Cond.code MX1_empty.1 MX1_empty.2.1 MX1_empty.2.2.1 MX1_empty.2.2.2.1 ∈ lw_tbl := List.mem_of_getElem? (i := 439) rfl
set_option maxRecDepth 100000 in
theorem kX30 : Cond.code MX1_charAt.1 MX1_charAt.2.1 MX1_charAt.2.2.1 MX1_charAt.2.2.2.1 ∈ lw_tbl := List.mem_of_getElem? (i := 383) rfl
set_option maxRecDepth 100000 in
theorem kX31 : Cond.code MX1_digitAt.1 MX1_digitAt.2.1 MX1_digitAt.2.2.1 MX1_digitAt.2.2.2.1 ∈ lw_tbl := List.mem_of_getElem? (i := 379) rfl
set_option maxRecDepth 100000 in
theorem kX32 : Cond.code MX1_findFault.1 MX1_findFault.2.1 MX1_findFault.2.2.1 MX1_findFault.2.2.2.1 ∈ lw_tbl := List.mem_of_getElem? (i := 371) rfl
set_option maxRecDepth 100000 in
theorem kX33 : Cond.code MX1_isAllowed.1 MX1_isAllowed.2.1 MX1_isAllowed.2.2.1 MX1_isAllowed.2.2.2.1 ∈ lw_tbl := List.mem_of_getElem? (i := 375) rfl
set_option maxRecDepth 100000 in
theorem kX34 : Cond.code MX1_isEnded.1 MX1_isEnded.2.1 MX1_isEnded.2.2.1 MX1_isEnded.2.2.2.1 ∈ lw_tbl := List.mem_of_getElem? (i := 391) rfl
set_option maxRecDepth 100000 in
theorem kX35 : Cond.code MX1_viewsUpTo.1 MX1_viewsUpTo.2.1 MX1_viewsUpTo.2.2.1 MX1_viewsUpTo.2.2.2.1 ∈ lw_tbl := List.mem_of_getElem? (i := 386) rfl
set_option maxRecDepth 100000 in
theorem kX36 : Cond.code MX1_writeTo.1 MX1_writeTo.2.1 MX1_writeTo.2.2.1 MX1_writeTo.2.2.2.1 ∈ lw_tbl := List.mem_of_getElem? (i := 395) rfl
set_option maxRecDepth 100000 in
theorem kX37 : Cond.code MX2_init.1 MX2_init.2.1 MX2_init.2.2.1 MX2_init.2.2.2.1 ∈ lw_tbl := List.mem_of_getElem? (i := 119) rfl
set_option maxRecDepth 100000 in
theorem kX38 : Cond.code MX2_record.1 MX2_record.2.1 MX2_record.2.2.1 MX2_record.2.2.2.1 ∈ lw_tbl := List.mem_of_getElem? (i := 201) rfl
set_option maxRecDepth 100000 in
theorem kX39 : Cond.code MX2_dropOldest.1 MX2_dropOldest.2.1 MX2_dropOldest.2.2.1 MX2_dropOldest.2.2.2.1 ∈ lw_tbl := List.mem_of_getElem? (i := 205) rfl
set_option maxRecDepth 100000 in
theorem kX40 : Cond.code MX2_takeLatest.1 MX2_takeLatest.2.1 MX2_takeLatest.2.2.1 MX2_takeLatest.2.2.2.1 ∈ lw_tbl := List.mem_of_getElem? (i := 447) rfl
set_option maxRecDepth 100000 in
theorem kX41 : Cond.code MX2_stateAt.1 MX2_stateAt.2.1 MX2_stateAt.2.2.1 MX2_stateAt.2.2.2.1 ∈ lw_tbl := List.mem_of_getElem? (i := 209) rfl
set_option maxRecDepth 100000 in
theorem kX42 : Cond.code MX3_init.1 MX3_init.2.1 MX3_init.2.2.1 MX3_init.2.2.2.1 ∈ lw_tbl := List.mem_of_getElem? (i := 103) rfl
set_option maxRecDepth 100000 in
theorem kX43 : Cond.code MX3_aim.1 MX3_aim.2.1 MX3_aim.2.2.1 MX3_aim.2.2.2.1 ∈ lw_tbl := List.mem_of_getElem? (i := 292) rfl
set_option maxRecDepth 100000 in
theorem kX44 : Cond.code MX3_viewSeen.1 MX3_viewSeen.2.1 MX3_viewSeen.2.2.1 MX3_viewSeen.2.2.2.1 ∈ lw_tbl := List.mem_of_getElem? (i := 340) rfl
set_option maxRecDepth 100000 in
theorem kX45 : Cond.code MX3_isGhost.1 MX3_isGhost.2.1 MX3_isGhost.2.2.1 MX3_isGhost.2.2.2.1 ∈ lw_tbl := List.mem_of_getElem? (i := 336) rfl
set_option maxRecDepth 100000 in
theorem kX46 : Cond.code MX3_ghosts.1 MX3_ghosts.2.1 MX3_ghosts.2.2.1 MX3_ghosts.2.2.2.1 ∈ lw_tbl := List.mem_of_getElem? (i := 332) rfl
set_option maxRecDepth 100000 in
theorem kX47 : Cond.code MX3_ghostsAtAllAngles.1 MX3_ghostsAtAllAngles.2.1 MX3_ghostsAtAllAngles.2.2.1 MX3_ghostsAtAllAngles.2.2.2.1 ∈ lw_tbl := List.mem_of_getElem? (i := 328) rfl
set_option maxRecDepth 100000 in
theorem kX48 : Cond.code MX3_ridgesShowing.1 MX3_ridgesShowing.2.1 MX3_ridgesShowing.2.2.1 MX3_ridgesShowing.2.2.2.1 ∈ lw_tbl := List.mem_of_getElem? (i := 419) rfl
set_option maxRecDepth 100000 in
theorem kX49 : Cond.code MX3_wholeView.1 MX3_wholeView.2.1 MX3_wholeView.2.2.1 MX3_wholeView.2.2.2.1 ∈ lw_tbl := List.mem_of_getElem? (i := 415) rfl
set_option maxRecDepth 100000 in
theorem kX50 : Cond.code MX3_mostShownView.1 MX3_mostShownView.2.1 MX3_mostShownView.2.2.1 MX3_mostShownView.2.2.2.1 ∈ lw_tbl := List.mem_of_getElem? (i := 505) rfl
set_option maxRecDepth 100000 in
theorem kX51 : Cond.code MX3_mostShownRidges.1 MX3_mostShownRidges.2.1 MX3_mostShownRidges.2.2.1 MX3_mostShownRidges.2.2.2.1 ∈ lw_tbl := List.mem_of_getElem? (i := 509) rfl
set_option maxRecDepth 100000 in
theorem kX52 : Cond.code MX3_anglesShowingWhole.1 MX3_anglesShowingWhole.2.1 MX3_anglesShowingWhole.2.2.1 MX3_anglesShowingWhole.2.2.2.1 ∈ lw_tbl := List.mem_of_getElem? (i := 411) rfl
set_option maxRecDepth 100000 in
theorem kX53 : Cond.code MX3_anglesShowingAnyWhole.1 MX3_anglesShowingAnyWhole.2.1 MX3_anglesShowingAnyWhole.2.2.1 MX3_anglesShowingAnyWhole.2.2.2.1 ∈ lw_tbl := List.mem_of_getElem? (i := 545) rfl
set_option maxRecDepth 100000 in
theorem kX54 : Cond.code MX3_wholeViews.1 MX3_wholeViews.2.1 MX3_wholeViews.2.2.1 MX3_wholeViews.2.2.2.1 ∈ lw_tbl := List.mem_of_getElem? (i := 407) rfl
set_option maxRecDepth 100000 in
theorem kX55 : Cond.code MX3_clearestAngle.1 MX3_clearestAngle.2.1 MX3_clearestAngle.2.2.1 MX3_clearestAngle.2.2.2.1 ∈ lw_tbl := List.mem_of_getElem? (i := 521) rfl
set_option maxRecDepth 100000 in
theorem kX56 : Cond.code MX4_init.1 MX4_init.2.1 MX4_init.2.2.1 MX4_init.2.2.2.1 ∈ lw_tbl := List.mem_of_getElem? (i := 44) rfl
set_option maxRecDepth 100000 in
theorem kX57 : Cond.code MX4_colour.1 MX4_colour.2.1 MX4_colour.2.2.1 MX4_colour.2.2.2.1 ∈ lw_tbl := List.mem_of_getElem? (i := 181) rfl
set_option maxRecDepth 100000 in
theorem kX58 : Cond.code MX4_addView.1 MX4_addView.2.1 MX4_addView.2.2.1 MX4_addView.2.2.2.1 ∈ lw_tbl := List.mem_of_getElem? (i := 224) rfl
set_option maxRecDepth 100000 in
theorem kX59 : Cond.code MX4_removeView.1 MX4_removeView.2.1 MX4_removeView.2.2.1 MX4_removeView.2.2.2.1 ∈ lw_tbl := List.mem_of_getElem? (i := 233) rfl
set_option maxRecDepth 100000 in
theorem kX60 : Cond.code MX4_swap.1 MX4_swap.2.1 MX4_swap.2.2.1 MX4_swap.2.2.2.1 ∈ lw_tbl := List.mem_of_getElem? (i := 242) rfl
set_option maxRecDepth 100000 in
theorem kX61 : Cond.code MX4_setPitch.1 MX4_setPitch.2.1 MX4_setPitch.2.2.1 MX4_setPitch.2.2.2.1 ∈ lw_tbl := List.mem_of_getElem? (i := 250) rfl
set_option maxRecDepth 100000 in
theorem kX62 : Cond.code MX4_slice.1 MX4_slice.2.1 MX4_slice.2.2.1 MX4_slice.2.2.2.1 ∈ lw_tbl := List.mem_of_getElem? (i := 255) rfl
set_option maxRecDepth 100000 in
theorem kX63 : Cond.code MX4_setShift.1 MX4_setShift.2.1 MX4_setShift.2.2.1 MX4_setShift.2.2.2.1 ∈ lw_tbl := List.mem_of_getElem? (i := 271) rfl
set_option maxRecDepth 100000 in
theorem kX64 : Cond.code MX4_setLean.1 MX4_setLean.2.1 MX4_setLean.2.2.1 MX4_setLean.2.2.2.1 ∈ lw_tbl := List.mem_of_getElem? (i := 275) rfl
set_option maxRecDepth 100000 in
theorem kX65 : Cond.code MX4_order.1 MX4_order.2.1 MX4_order.2.2.1 MX4_order.2.2.2.1 ∈ lw_tbl := List.mem_of_getElem? (i := 279) rfl
set_option maxRecDepth 100000 in
theorem kX66 : Cond.code MX4_read.1 MX4_read.2.1 MX4_read.2.2.1 MX4_read.2.2.2.1 ∈ lw_tbl := List.mem_of_getElem? (i := 367) rfl
set_option maxRecDepth 100000 in
theorem kX67 : Cond.code MX4_press.1 MX4_press.2.1 MX4_press.2.2.1 MX4_press.2.2.2.1 ∈ lw_tbl := List.mem_of_getElem? (i := 402) rfl
set_option maxRecDepth 100000 in
theorem kX68 : Cond.code MX4_type.1 MX4_type.2.1 MX4_type.2.2.1 MX4_type.2.2.2.1 ∈ lw_tbl := List.mem_of_getElem? (i := 423) rfl
set_option maxRecDepth 100000 in
theorem kX69 : Cond.code MX4_clearText.1 MX4_clearText.2.1 MX4_clearText.2.2.1 MX4_clearText.2.2.2.1 ∈ lw_tbl := List.mem_of_getElem? (i := 435) rfl
set_option maxRecDepth 100000 in
theorem kX70 : Cond.code MX4_undo.1 MX4_undo.2.1 MX4_undo.2.2.1 MX4_undo.2.2.2.1 ∈ lw_tbl := List.mem_of_getElem? (i := 443) rfl
set_option maxRecDepth 100000 in
theorem kX71 : Cond.code MX4_keep.1 MX4_keep.2.1 MX4_keep.2.2.1 MX4_keep.2.2.2.1 ∈ lw_tbl := List.mem_of_getElem? (i := 451) rfl
set_option maxRecDepth 100000 in
theorem kX72 : Cond.code MX4_restore.1 MX4_restore.2.1 MX4_restore.2.2.1 MX4_restore.2.2.2.1 ∈ lw_tbl := List.mem_of_getElem? (i := 455) rfl
set_option maxRecDepth 100000 in
theorem kX73 : Cond.code MX4_colourOf.1 MX4_colourOf.2.1 MX4_colourOf.2.2.1 MX4_colourOf.2.2.2.1 ∈ lw_tbl := List.mem_of_getElem? (i := 459) rfl
set_option maxRecDepth 100000 in
theorem kX74 : Cond.code MX4_viewOf.1 MX4_viewOf.2.1 MX4_viewOf.2.2.1 MX4_viewOf.2.2.2.1 ∈ lw_tbl := List.mem_of_getElem? (i := 463) rfl
set_option maxRecDepth 100000 in
theorem kX75 : Cond.code MX4_behind.1 MX4_behind.2.1 MX4_behind.2.2.1 MX4_behind.2.2.2.1 ∈ lw_tbl := List.mem_of_getElem? (i := 467) rfl
set_option maxRecDepth 100000 in
theorem kX76 : Cond.code MX4_seen.1 MX4_seen.2.1 MX4_seen.2.2.1 MX4_seen.2.2.2.1 ∈ lw_tbl := List.mem_of_getElem? (i := 489) rfl
set_option maxRecDepth 100000 in
theorem kX77 : Cond.code MX4_at.1 MX4_at.2.1 MX4_at.2.2.1 MX4_at.2.2.2.1 ∈ lw_tbl := List.mem_of_getElem? (i := 499) rfl
set_option maxRecDepth 100000 in
theorem kX78 : Cond.code MX4_view.1 MX4_view.2.1 MX4_view.2.2.1 MX4_view.2.2.2.1 ∈ lw_tbl := List.mem_of_getElem? (i := 515) rfl
set_option maxRecDepth 100000 in
theorem kX79 : Cond.code MX4_bestOrder.1 MX4_bestOrder.2.1 MX4_bestOrder.2.2.1 MX4_bestOrder.2.2.2.1 ∈ lw_tbl := List.mem_of_getElem? (i := 525) rfl
set_option maxRecDepth 100000 in
theorem kX80 : Cond.code MX4_bestShift.1 MX4_bestShift.2.1 MX4_bestShift.2.2.1 MX4_bestShift.2.2.2.1 ∈ lw_tbl := List.mem_of_getElem? (i := 529) rfl
set_option maxRecDepth 100000 in
theorem kX81 : Cond.code MX4_ifSlice.1 MX4_ifSlice.2.1 MX4_ifSlice.2.2.1 MX4_ifSlice.2.2.2.1 ∈ lw_tbl := List.mem_of_getElem? (i := 537) rfl
set_option maxRecDepth 100000 in
theorem kX82 : Cond.code MX4_count.1 MX4_count.2.1 MX4_count.2.2.1 MX4_count.2.2.2.1 ∈ lw_tbl := List.mem_of_getElem? (i := 541) rfl
set_option maxRecDepth 100000 in
theorem kX83 : Cond.code MX4_isWithin.1 MX4_isWithin.2.1 MX4_isWithin.2.2.1 MX4_isWithin.2.2.2.1 ∈ lw_tbl := List.mem_of_getElem? (i := 188) rfl
set_option maxRecDepth 100000 in
theorem kX84 : Cond.code MX4_isRidge.1 MX4_isRidge.2.1 MX4_isRidge.2.2.1 MX4_isRidge.2.2.2.1 ∈ lw_tbl := List.mem_of_getElem? (i := 191) rfl
set_option maxRecDepth 100000 in
theorem kX85 : Cond.code MX4_isAngle.1 MX4_isAngle.2.1 MX4_isAngle.2.2.1 MX4_isAngle.2.2.2.1 ∈ lw_tbl := List.mem_of_getElem? (i := 492) rfl
set_option maxRecDepth 100000 in
theorem kX86 : Cond.code MX4_noneForNothing.1 MX4_noneForNothing.2.1 MX4_noneForNothing.2.2.1 MX4_noneForNothing.2.2.2.1 ∈ lw_tbl := List.mem_of_getElem? (i := 475) rfl
set_option maxRecDepth 100000 in
theorem kX87 : Cond.code MX4_copyNumbers.1 MX4_copyNumbers.2.1 MX4_copyNumbers.2.2.1 MX4_copyNumbers.2.2.2.1 ∈ lw_tbl := List.mem_of_getElem? (i := 216) rfl
set_option maxRecDepth 100000 in
theorem kX88 : Cond.code MX4_look.1 MX4_look.2.1 MX4_look.2.2.1 MX4_look.2.2.2.1 ∈ lw_tbl := List.mem_of_getElem? (i := 363) rfl
set_option maxRecDepth 100000 in
theorem kX89 : Cond.code MX4_ghostsWithShift.1 MX4_ghostsWithShift.2.1 MX4_ghostsWithShift.2.2.1 MX4_ghostsWithShift.2.2.2.1 ∈ lw_tbl := List.mem_of_getElem? (i := 533) rfl
set_option maxRecDepth 100000 in
theorem kX90 : Cond.code MX4_findBestSlices.1 MX4_findBestSlices.2.1 MX4_findBestSlices.2.2.1 MX4_findBestSlices.2.2.2.1 ∈ lw_tbl := List.mem_of_getElem? (i := 283) rfl
set_option maxRecDepth 100000 in
theorem kX91 : Cond.code MX5_init.1 MX5_init.2.1 MX5_init.2.2.1 MX5_init.2.2.2.1 ∈ lw_tbl := List.mem_of_getElem? (i := 550) rfl
set_option maxRecDepth 100000 in
theorem kX92 : Cond.code MX5_in.1 MX5_in.2.1 MX5_in.2.2.1 MX5_in.2.2.2.1 ∈ lw_tbl := List.mem_of_getElem? (i := 612) rfl
set_option maxRecDepth 100000 in
theorem kX93 : Cond.code MX5_remember.1 MX5_remember.2.1 MX5_remember.2.2.1 MX5_remember.2.2.2.1 ∈ lw_tbl := List.mem_of_getElem? (i := 625) rfl
set_option maxRecDepth 100000 in
theorem kX94 : Cond.code MX5_acted.1 MX5_acted.2.1 MX5_acted.2.2.1 MX5_acted.2.2.2.1 ∈ lw_tbl := List.mem_of_getElem? (i := 629) rfl
set_option maxRecDepth 100000 in
theorem kX95 : Cond.code MX5_isView.1 MX5_isView.2.1 MX5_isView.2.2.1 MX5_isView.2.2.2.1 ∈ lw_tbl := List.mem_of_getElem? (i := 609) rfl
set_option maxRecDepth 100000 in
theorem kX96 : Cond.code MX5_isRidge.1 MX5_isRidge.2.1 MX5_isRidge.2.2.1 MX5_isRidge.2.2.2.1 ∈ lw_tbl := List.mem_of_getElem? (i := 615) rfl
set_option maxRecDepth 100000 in
theorem kX97 : Cond.code MX5_isSlice.1 MX5_isSlice.2.1 MX5_isSlice.2.2.1 MX5_isSlice.2.2.2.1 ∈ lw_tbl := List.mem_of_getElem? (i := 669) rfl
set_option maxRecDepth 100000 in
theorem kX98 : Cond.code MX5_isAngle.1 MX5_isAngle.2.1 MX5_isAngle.2.2.1 MX5_isAngle.2.2.2.1 ∈ lw_tbl := List.mem_of_getElem? (i := 795) rfl
set_option maxRecDepth 100000 in
theorem kX99 : Cond.code MX5_colourAt.1 MX5_colourAt.2.1 MX5_colourAt.2.2.1 MX5_colourAt.2.2.2.1 ∈ lw_tbl := List.mem_of_getElem? (i := 621) rfl
set_option maxRecDepth 100000 in
theorem kX100 : Cond.code MX5_ordersAsFirst.1 MX5_ordersAsFirst.2.1 MX5_ordersAsFirst.2.2.1 MX5_ordersAsFirst.2.2.2.1 ∈ lw_tbl := List.mem_of_getElem? (i := 555) rfl
set_option maxRecDepth 100000 in
theorem kX101 : Cond.code MX5_dueAt.1 MX5_dueAt.2.1 MX5_dueAt.2.2.1 MX5_dueAt.2.2.2.1 ∈ lw_tbl := List.mem_of_getElem? (i := 689) rfl
set_option maxRecDepth 100000 in
theorem kX102 : Cond.code MX5_placeSeen.1 MX5_placeSeen.2.1 MX5_placeSeen.2.2.1 MX5_placeSeen.2.2.2.1 ∈ lw_tbl := List.mem_of_getElem? (i := 685) rfl
set_option maxRecDepth 100000 in
theorem kX103 : Cond.code MX5_laysSlots.1 MX5_laysSlots.2.1 MX5_laysSlots.2.2.1 MX5_laysSlots.2.2.2.1 ∈ lw_tbl := List.mem_of_getElem? (i := 681) rfl
set_option maxRecDepth 100000 in
theorem kX104 : Cond.code MX5_viewSeen.1 MX5_viewSeen.2.1 MX5_viewSeen.2.2.1 MX5_viewSeen.2.2.2.1 ∈ lw_tbl := List.mem_of_getElem? (i := 710) rfl
set_option maxRecDepth 100000 in
theorem kX105 : Cond.code MX5_isGhost.1 MX5_isGhost.2.1 MX5_isGhost.2.2.1 MX5_isGhost.2.2.2.1 ∈ lw_tbl := List.mem_of_getElem? (i := 706) rfl
set_option maxRecDepth 100000 in
theorem kX106 : Cond.code MX5_ghostsAt.1 MX5_ghostsAt.2.1 MX5_ghostsAt.2.2.1 MX5_ghostsAt.2.2.2.1 ∈ lw_tbl := List.mem_of_getElem? (i := 702) rfl
set_option maxRecDepth 100000 in
theorem kX107 : Cond.code MX5_ghosts.1 MX5_ghosts.2.1 MX5_ghosts.2.2.1 MX5_ghosts.2.2.2.1 ∈ lw_tbl := List.mem_of_getElem? (i := 698) rfl
set_option maxRecDepth 100000 in
theorem kX108 : Cond.code MX5_ghostsNow.1 MX5_ghostsNow.2.1 MX5_ghostsNow.2.2.1 MX5_ghostsNow.2.2.2.1 ∈ lw_tbl := List.mem_of_getElem? (i := 714) rfl
set_option maxRecDepth 100000 in
theorem kX109 : Cond.code MX5_showing.1 MX5_showing.2.1 MX5_showing.2.2.1 MX5_showing.2.2.2.1 ∈ lw_tbl := List.mem_of_getElem? (i := 732) rfl
set_option maxRecDepth 100000 in
theorem kX110 : Cond.code MX5_wholeAngles.1 MX5_wholeAngles.2.1 MX5_wholeAngles.2.2.1 MX5_wholeAngles.2.2.2.1 ∈ lw_tbl := List.mem_of_getElem? (i := 728) rfl
set_option maxRecDepth 100000 in
theorem kX111 : Cond.code MX5_whole.1 MX5_whole.2.1 MX5_whole.2.2.1 MX5_whole.2.2.2.1 ∈ lw_tbl := List.mem_of_getElem? (i := 724) rfl
set_option maxRecDepth 100000 in
theorem kX112 : Cond.code MX5_colour.1 MX5_colour.2.1 MX5_colour.2.2.1 MX5_colour.2.2.2.1 ∈ lw_tbl := List.mem_of_getElem? (i := 605) rfl
set_option maxRecDepth 100000 in
theorem kX113 : Cond.code MX5_addView.1 MX5_addView.2.1 MX5_addView.2.2.1 MX5_addView.2.2.2.1 ∈ lw_tbl := List.mem_of_getElem? (i := 633) rfl
set_option maxRecDepth 100000 in
theorem kX114 : Cond.code MX5_removeView.1 MX5_removeView.2.1 MX5_removeView.2.2.1 MX5_removeView.2.2.2.1 ∈ lw_tbl := List.mem_of_getElem? (i := 637) rfl
set_option maxRecDepth 100000 in
theorem kX115 : Cond.code MX5_swap.1 MX5_swap.2.1 MX5_swap.2.2.1 MX5_swap.2.2.2.1 ∈ lw_tbl := List.mem_of_getElem? (i := 641) rfl
set_option maxRecDepth 100000 in
theorem kX116 : Cond.code MX5_settles.1 MX5_settles.2.1 MX5_settles.2.2.1 MX5_settles.2.2.2.1 ∈ lw_tbl := List.mem_of_getElem? (i := 651) rfl
set_option maxRecDepth 100000 in
theorem kX117 : Cond.code MX5_setPitch.1 MX5_setPitch.2.1 MX5_setPitch.2.2.1 MX5_setPitch.2.2.2.1 ∈ lw_tbl := List.mem_of_getElem? (i := 645) rfl
set_option maxRecDepth 100000 in
theorem kX118 : Cond.code MX5_setShift.1 MX5_setShift.2.1 MX5_setShift.2.2.1 MX5_setShift.2.2.2.1 ∈ lw_tbl := List.mem_of_getElem? (i := 655) rfl
set_option maxRecDepth 100000 in
theorem kX119 : Cond.code MX5_setLean.1 MX5_setLean.2.1 MX5_setLean.2.2.1 MX5_setLean.2.2.2.1 ∈ lw_tbl := List.mem_of_getElem? (i := 661) rfl
set_option maxRecDepth 100000 in
theorem kX120 : Cond.code MX5_slice.1 MX5_slice.2.1 MX5_slice.2.2.1 MX5_slice.2.2.2.1 ∈ lw_tbl := List.mem_of_getElem? (i := 665) rfl
set_option maxRecDepth 100000 in
theorem kX121 : Cond.code MX5_laysOrder.1 MX5_laysOrder.2.1 MX5_laysOrder.2.2.1 MX5_laysOrder.2.2.2.1 ∈ lw_tbl := List.mem_of_getElem? (i := 694) rfl
set_option maxRecDepth 100000 in
theorem kX122 : Cond.code MX5_findsOrder.1 MX5_findsOrder.2.1 MX5_findsOrder.2.2.1 MX5_findsOrder.2.2.2.1 ∈ lw_tbl := List.mem_of_getElem? (i := 677) rfl
set_option maxRecDepth 100000 in
theorem kX123 : Cond.code MX5_order.1 MX5_order.2.1 MX5_order.2.2.1 MX5_order.2.2.2.1 ∈ lw_tbl := List.mem_of_getElem? (i := 673) rfl
set_option maxRecDepth 100000 in
theorem kX124 : Cond.code MX5_press.1 MX5_press.2.1 MX5_press.2.2.1 MX5_press.2.2.2.1 ∈ lw_tbl := List.mem_of_getElem? (i := 718) rfl
set_option maxRecDepth 100000 in
theorem kX125 : Cond.code MX5_type.1 MX5_type.2.1 MX5_type.2.2.1 MX5_type.2.2.2.1 ∈ lw_tbl := List.mem_of_getElem? (i := 736) rfl
set_option maxRecDepth 100000 in
theorem kX126 : Cond.code MX5_clearText.1 MX5_clearText.2.1 MX5_clearText.2.2.1 MX5_clearText.2.2.2.1 ∈ lw_tbl := List.mem_of_getElem? (i := 740) rfl
set_option maxRecDepth 100000 in
theorem kX127 : Cond.code MX5_isHere.1 MX5_isHere.2.1 MX5_isHere.2.2.1 MX5_isHere.2.2.2.1 ∈ lw_tbl := List.mem_of_getElem? (i := 756) rfl
set_option maxRecDepth 100000 in
theorem kX128 : Cond.code MX5_takes.1 MX5_takes.2.1 MX5_takes.2.2.1 MX5_takes.2.2.2.1 ∈ lw_tbl := List.mem_of_getElem? (i := 760) rfl
set_option maxRecDepth 100000 in
theorem kX129 : Cond.code MX5_readsDigits.1 MX5_readsDigits.2.1 MX5_readsDigits.2.2.1 MX5_readsDigits.2.2.2.1 ∈ lw_tbl := List.mem_of_getElem? (i := 752) rfl
set_option maxRecDepth 100000 in
theorem kX130 : Cond.code MX5_fault.1 MX5_fault.2.1 MX5_fault.2.2.1 MX5_fault.2.2.2.1 ∈ lw_tbl := List.mem_of_getElem? (i := 748) rfl
set_option maxRecDepth 100000 in
theorem kX131 : Cond.code MX5_read.1 MX5_read.2.1 MX5_read.2.2.1 MX5_read.2.2.2.1 ∈ lw_tbl := List.mem_of_getElem? (i := 744) rfl
set_option maxRecDepth 100000 in
theorem kX132 : Cond.code MX5_undo.1 MX5_undo.2.1 MX5_undo.2.2.1 MX5_undo.2.2.2.1 ∈ lw_tbl := List.mem_of_getElem? (i := 764) rfl
set_option maxRecDepth 100000 in
theorem kX133 : Cond.code MX5_keep.1 MX5_keep.2.1 MX5_keep.2.2.1 MX5_keep.2.2.2.1 ∈ lw_tbl := List.mem_of_getElem? (i := 768) rfl
set_option maxRecDepth 100000 in
theorem kX134 : Cond.code MX5_restore.1 MX5_restore.2.1 MX5_restore.2.2.1 MX5_restore.2.2.2.1 ∈ lw_tbl := List.mem_of_getElem? (i := 772) rfl
set_option maxRecDepth 100000 in
theorem kX135 : Cond.code MX5_colourOf.1 MX5_colourOf.2.1 MX5_colourOf.2.2.1 MX5_colourOf.2.2.2.1 ∈ lw_tbl := List.mem_of_getElem? (i := 776) rfl
set_option maxRecDepth 100000 in
theorem kX136 : Cond.code MX5_viewOf.1 MX5_viewOf.2.1 MX5_viewOf.2.2.1 MX5_viewOf.2.2.2.1 ∈ lw_tbl := List.mem_of_getElem? (i := 780) rfl
set_option maxRecDepth 100000 in
theorem kX137 : Cond.code MX5_dueOf.1 MX5_dueOf.2.1 MX5_dueOf.2.2.1 MX5_dueOf.2.2.2.1 ∈ lw_tbl := List.mem_of_getElem? (i := 788) rfl
set_option maxRecDepth 100000 in
theorem kX138 : Cond.code MX5_behind.1 MX5_behind.2.1 MX5_behind.2.2.1 MX5_behind.2.2.2.1 ∈ lw_tbl := List.mem_of_getElem? (i := 784) rfl
set_option maxRecDepth 100000 in
theorem kX139 : Cond.code MX5_seen.1 MX5_seen.2.1 MX5_seen.2.2.1 MX5_seen.2.2.2.1 ∈ lw_tbl := List.mem_of_getElem? (i := 792) rfl
set_option maxRecDepth 100000 in
theorem kX140 : Cond.code MX5_wholeAt.1 MX5_wholeAt.2.1 MX5_wholeAt.2.2.1 MX5_wholeAt.2.2.2.1 ∈ lw_tbl := List.mem_of_getElem? (i := 804) rfl
set_option maxRecDepth 100000 in
theorem kX141 : Cond.code MX5_mostAt.1 MX5_mostAt.2.1 MX5_mostAt.2.2.1 MX5_mostAt.2.2.2.1 ∈ lw_tbl := List.mem_of_getElem? (i := 808) rfl
set_option maxRecDepth 100000 in
theorem kX142 : Cond.code MX5_at.1 MX5_at.2.1 MX5_at.2.2.1 MX5_at.2.2.2.1 ∈ lw_tbl := List.mem_of_getElem? (i := 800) rfl
set_option maxRecDepth 100000 in
theorem kX143 : Cond.code MX5_clearest.1 MX5_clearest.2.1 MX5_clearest.2.2.1 MX5_clearest.2.2.2.1 ∈ lw_tbl := List.mem_of_getElem? (i := 820) rfl
set_option maxRecDepth 100000 in
theorem kX144 : Cond.code MX5_slicesOf.1 MX5_slicesOf.2.1 MX5_slicesOf.2.2.1 MX5_slicesOf.2.2.2.1 ∈ lw_tbl := List.mem_of_getElem? (i := 816) rfl
set_option maxRecDepth 100000 in
theorem kX145 : Cond.code MX5_view.1 MX5_view.2.1 MX5_view.2.2.1 MX5_view.2.2.2.1 ∈ lw_tbl := List.mem_of_getElem? (i := 812) rfl
set_option maxRecDepth 100000 in
theorem kX146 : Cond.code MX5_bestOrder.1 MX5_bestOrder.2.1 MX5_bestOrder.2.2.1 MX5_bestOrder.2.2.2.1 ∈ lw_tbl := List.mem_of_getElem? (i := 824) rfl
set_option maxRecDepth 100000 in
theorem kX147 : Cond.code MX5_bestShift.1 MX5_bestShift.2.1 MX5_bestShift.2.2.1 MX5_bestShift.2.2.2.1 ∈ lw_tbl := List.mem_of_getElem? (i := 828) rfl
set_option maxRecDepth 100000 in
theorem kX148 : Cond.code MX5_ifSlice.1 MX5_ifSlice.2.1 MX5_ifSlice.2.2.1 MX5_ifSlice.2.2.2.1 ∈ lw_tbl := List.mem_of_getElem? (i := 832) rfl
set_option maxRecDepth 100000 in
theorem kX149 : Cond.code MX5_count.1 MX5_count.2.1 MX5_count.2.2.1 MX5_count.2.2.2.1 ∈ lw_tbl := List.mem_of_getElem? (i := 836) rfl
def av_MT0 : List av_M := [MX0_init, MX0_copyFrom, MX0_hasView, MX0_hasSlice, MX0_colourIn, MX0_paint, MX0_appendView, MX0_dropView, MX0_exchangeViews, MX0_resetSlices, MX0_viewDue, MX0_putSlice, MX0_putSlices, MX0_hasSlices, MX0_slicesShowing, MX0_showsEachView, MX0_startSlices, MX0_nextSlices, MX0_highestViewBefore, MX0_spotBehind, MX0_sliceBehind, MX0_ridgeBehind, MX0_viewBehind, MX0_colourBehind, MX0_stepAt]
theorem av_MT0_ok : ∀ M ∈ av_MT0, Cond.code M.1 M.2.1 M.2.2.1 M.2.2.2.1 ∈ lw_tbl := List.forall_mem_cons.mpr ⟨kX0, List.forall_mem_cons.mpr ⟨kX1, List.forall_mem_cons.mpr ⟨kX2, List.forall_mem_cons.mpr ⟨kX3, List.forall_mem_cons.mpr ⟨kX4, List.forall_mem_cons.mpr ⟨kX5, List.forall_mem_cons.mpr ⟨kX6, List.forall_mem_cons.mpr ⟨kX7, List.forall_mem_cons.mpr ⟨kX8, List.forall_mem_cons.mpr ⟨kX9, List.forall_mem_cons.mpr ⟨kX10, List.forall_mem_cons.mpr ⟨kX11, List.forall_mem_cons.mpr ⟨kX12, List.forall_mem_cons.mpr ⟨kX13, List.forall_mem_cons.mpr ⟨kX14, List.forall_mem_cons.mpr ⟨kX15, List.forall_mem_cons.mpr ⟨kX16, List.forall_mem_cons.mpr ⟨kX17, List.forall_mem_cons.mpr ⟨kX18, List.forall_mem_cons.mpr ⟨kX19, List.forall_mem_cons.mpr ⟨kX20, List.forall_mem_cons.mpr ⟨kX21, List.forall_mem_cons.mpr ⟨kX22, List.forall_mem_cons.mpr ⟨kX23, List.forall_mem_cons.mpr ⟨kX24, fun _ h => absurd h List.not_mem_nil⟩⟩⟩⟩⟩⟩⟩⟩⟩⟩⟩⟩⟩⟩⟩⟩⟩⟩⟩⟩⟩⟩⟩⟩⟩
def av_MT1 : List av_M := [MX0_placeSeen, MX1_init, MX1_isFull, MX1_append, MX1_empty, MX1_charAt, MX1_digitAt, MX1_findFault, MX1_isAllowed, MX1_isEnded, MX1_viewsUpTo, MX1_writeTo, MX2_init, MX2_record, MX2_dropOldest, MX2_takeLatest, MX2_stateAt, MX3_init, MX3_aim, MX3_viewSeen, MX3_isGhost, MX3_ghosts, MX3_ghostsAtAllAngles, MX3_ridgesShowing, MX3_wholeView]
theorem av_MT1_ok : ∀ M ∈ av_MT1, Cond.code M.1 M.2.1 M.2.2.1 M.2.2.2.1 ∈ lw_tbl := List.forall_mem_cons.mpr ⟨kX25, List.forall_mem_cons.mpr ⟨kX26, List.forall_mem_cons.mpr ⟨kX27, List.forall_mem_cons.mpr ⟨kX28, List.forall_mem_cons.mpr ⟨kX29, List.forall_mem_cons.mpr ⟨kX30, List.forall_mem_cons.mpr ⟨kX31, List.forall_mem_cons.mpr ⟨kX32, List.forall_mem_cons.mpr ⟨kX33, List.forall_mem_cons.mpr ⟨kX34, List.forall_mem_cons.mpr ⟨kX35, List.forall_mem_cons.mpr ⟨kX36, List.forall_mem_cons.mpr ⟨kX37, List.forall_mem_cons.mpr ⟨kX38, List.forall_mem_cons.mpr ⟨kX39, List.forall_mem_cons.mpr ⟨kX40, List.forall_mem_cons.mpr ⟨kX41, List.forall_mem_cons.mpr ⟨kX42, List.forall_mem_cons.mpr ⟨kX43, List.forall_mem_cons.mpr ⟨kX44, List.forall_mem_cons.mpr ⟨kX45, List.forall_mem_cons.mpr ⟨kX46, List.forall_mem_cons.mpr ⟨kX47, List.forall_mem_cons.mpr ⟨kX48, List.forall_mem_cons.mpr ⟨kX49, fun _ h => absurd h List.not_mem_nil⟩⟩⟩⟩⟩⟩⟩⟩⟩⟩⟩⟩⟩⟩⟩⟩⟩⟩⟩⟩⟩⟩⟩⟩⟩
def av_MT2 : List av_M := [MX3_mostShownView, MX3_mostShownRidges, MX3_anglesShowingWhole, MX3_anglesShowingAnyWhole, MX3_wholeViews, MX3_clearestAngle, MX4_init, MX4_colour, MX4_addView, MX4_removeView, MX4_swap, MX4_setPitch, MX4_slice, MX4_setShift, MX4_setLean, MX4_order, MX4_read, MX4_press, MX4_type, MX4_clearText, MX4_undo, MX4_keep, MX4_restore, MX4_colourOf, MX4_viewOf]
theorem av_MT2_ok : ∀ M ∈ av_MT2, Cond.code M.1 M.2.1 M.2.2.1 M.2.2.2.1 ∈ lw_tbl := List.forall_mem_cons.mpr ⟨kX50, List.forall_mem_cons.mpr ⟨kX51, List.forall_mem_cons.mpr ⟨kX52, List.forall_mem_cons.mpr ⟨kX53, List.forall_mem_cons.mpr ⟨kX54, List.forall_mem_cons.mpr ⟨kX55, List.forall_mem_cons.mpr ⟨kX56, List.forall_mem_cons.mpr ⟨kX57, List.forall_mem_cons.mpr ⟨kX58, List.forall_mem_cons.mpr ⟨kX59, List.forall_mem_cons.mpr ⟨kX60, List.forall_mem_cons.mpr ⟨kX61, List.forall_mem_cons.mpr ⟨kX62, List.forall_mem_cons.mpr ⟨kX63, List.forall_mem_cons.mpr ⟨kX64, List.forall_mem_cons.mpr ⟨kX65, List.forall_mem_cons.mpr ⟨kX66, List.forall_mem_cons.mpr ⟨kX67, List.forall_mem_cons.mpr ⟨kX68, List.forall_mem_cons.mpr ⟨kX69, List.forall_mem_cons.mpr ⟨kX70, List.forall_mem_cons.mpr ⟨kX71, List.forall_mem_cons.mpr ⟨kX72, List.forall_mem_cons.mpr ⟨kX73, List.forall_mem_cons.mpr ⟨kX74, fun _ h => absurd h List.not_mem_nil⟩⟩⟩⟩⟩⟩⟩⟩⟩⟩⟩⟩⟩⟩⟩⟩⟩⟩⟩⟩⟩⟩⟩⟩⟩
def av_MT3 : List av_M := [MX4_behind, MX4_seen, MX4_at, MX4_view, MX4_bestOrder, MX4_bestShift, MX4_ifSlice, MX4_count, MX4_isWithin, MX4_isRidge, MX4_isAngle, MX4_noneForNothing, MX4_copyNumbers, MX4_look, MX4_ghostsWithShift, MX4_findBestSlices, MX5_init, MX5_in, MX5_remember, MX5_acted, MX5_isView, MX5_isRidge, MX5_isSlice, MX5_isAngle, MX5_colourAt]
theorem av_MT3_ok : ∀ M ∈ av_MT3, Cond.code M.1 M.2.1 M.2.2.1 M.2.2.2.1 ∈ lw_tbl := List.forall_mem_cons.mpr ⟨kX75, List.forall_mem_cons.mpr ⟨kX76, List.forall_mem_cons.mpr ⟨kX77, List.forall_mem_cons.mpr ⟨kX78, List.forall_mem_cons.mpr ⟨kX79, List.forall_mem_cons.mpr ⟨kX80, List.forall_mem_cons.mpr ⟨kX81, List.forall_mem_cons.mpr ⟨kX82, List.forall_mem_cons.mpr ⟨kX83, List.forall_mem_cons.mpr ⟨kX84, List.forall_mem_cons.mpr ⟨kX85, List.forall_mem_cons.mpr ⟨kX86, List.forall_mem_cons.mpr ⟨kX87, List.forall_mem_cons.mpr ⟨kX88, List.forall_mem_cons.mpr ⟨kX89, List.forall_mem_cons.mpr ⟨kX90, List.forall_mem_cons.mpr ⟨kX91, List.forall_mem_cons.mpr ⟨kX92, List.forall_mem_cons.mpr ⟨kX93, List.forall_mem_cons.mpr ⟨kX94, List.forall_mem_cons.mpr ⟨kX95, List.forall_mem_cons.mpr ⟨kX96, List.forall_mem_cons.mpr ⟨kX97, List.forall_mem_cons.mpr ⟨kX98, List.forall_mem_cons.mpr ⟨kX99, fun _ h => absurd h List.not_mem_nil⟩⟩⟩⟩⟩⟩⟩⟩⟩⟩⟩⟩⟩⟩⟩⟩⟩⟩⟩⟩⟩⟩⟩⟩⟩
def av_MT4 : List av_M := [MX5_ordersAsFirst, MX5_dueAt, MX5_placeSeen, MX5_laysSlots, MX5_viewSeen, MX5_isGhost, MX5_ghostsAt, MX5_ghosts, MX5_ghostsNow, MX5_showing, MX5_wholeAngles, MX5_whole, MX5_colour, MX5_addView, MX5_removeView, MX5_swap, MX5_settles, MX5_setPitch, MX5_setShift, MX5_setLean, MX5_slice, MX5_laysOrder, MX5_findsOrder, MX5_order, MX5_press]
theorem av_MT4_ok : ∀ M ∈ av_MT4, Cond.code M.1 M.2.1 M.2.2.1 M.2.2.2.1 ∈ lw_tbl := List.forall_mem_cons.mpr ⟨kX100, List.forall_mem_cons.mpr ⟨kX101, List.forall_mem_cons.mpr ⟨kX102, List.forall_mem_cons.mpr ⟨kX103, List.forall_mem_cons.mpr ⟨kX104, List.forall_mem_cons.mpr ⟨kX105, List.forall_mem_cons.mpr ⟨kX106, List.forall_mem_cons.mpr ⟨kX107, List.forall_mem_cons.mpr ⟨kX108, List.forall_mem_cons.mpr ⟨kX109, List.forall_mem_cons.mpr ⟨kX110, List.forall_mem_cons.mpr ⟨kX111, List.forall_mem_cons.mpr ⟨kX112, List.forall_mem_cons.mpr ⟨kX113, List.forall_mem_cons.mpr ⟨kX114, List.forall_mem_cons.mpr ⟨kX115, List.forall_mem_cons.mpr ⟨kX116, List.forall_mem_cons.mpr ⟨kX117, List.forall_mem_cons.mpr ⟨kX118, List.forall_mem_cons.mpr ⟨kX119, List.forall_mem_cons.mpr ⟨kX120, List.forall_mem_cons.mpr ⟨kX121, List.forall_mem_cons.mpr ⟨kX122, List.forall_mem_cons.mpr ⟨kX123, List.forall_mem_cons.mpr ⟨kX124, fun _ h => absurd h List.not_mem_nil⟩⟩⟩⟩⟩⟩⟩⟩⟩⟩⟩⟩⟩⟩⟩⟩⟩⟩⟩⟩⟩⟩⟩⟩⟩
def av_MT5 : List av_M := [MX5_type, MX5_clearText, MX5_isHere, MX5_takes, MX5_readsDigits, MX5_fault, MX5_read, MX5_undo, MX5_keep, MX5_restore, MX5_colourOf, MX5_viewOf, MX5_dueOf, MX5_behind, MX5_seen, MX5_wholeAt, MX5_mostAt, MX5_at, MX5_clearest, MX5_slicesOf, MX5_view, MX5_bestOrder, MX5_bestShift, MX5_ifSlice, MX5_count]
theorem av_MT5_ok : ∀ M ∈ av_MT5, Cond.code M.1 M.2.1 M.2.2.1 M.2.2.2.1 ∈ lw_tbl := List.forall_mem_cons.mpr ⟨kX125, List.forall_mem_cons.mpr ⟨kX126, List.forall_mem_cons.mpr ⟨kX127, List.forall_mem_cons.mpr ⟨kX128, List.forall_mem_cons.mpr ⟨kX129, List.forall_mem_cons.mpr ⟨kX130, List.forall_mem_cons.mpr ⟨kX131, List.forall_mem_cons.mpr ⟨kX132, List.forall_mem_cons.mpr ⟨kX133, List.forall_mem_cons.mpr ⟨kX134, List.forall_mem_cons.mpr ⟨kX135, List.forall_mem_cons.mpr ⟨kX136, List.forall_mem_cons.mpr ⟨kX137, List.forall_mem_cons.mpr ⟨kX138, List.forall_mem_cons.mpr ⟨kX139, List.forall_mem_cons.mpr ⟨kX140, List.forall_mem_cons.mpr ⟨kX141, List.forall_mem_cons.mpr ⟨kX142, List.forall_mem_cons.mpr ⟨kX143, List.forall_mem_cons.mpr ⟨kX144, List.forall_mem_cons.mpr ⟨kX145, List.forall_mem_cons.mpr ⟨kX146, List.forall_mem_cons.mpr ⟨kX147, List.forall_mem_cons.mpr ⟨kX148, List.forall_mem_cons.mpr ⟨kX149, fun _ h => absurd h List.not_mem_nil⟩⟩⟩⟩⟩⟩⟩⟩⟩⟩⟩⟩⟩⟩⟩⟩⟩⟩⟩⟩⟩⟩⟩⟩⟩
theorem av_code_ok : ∀ M ∈ av_MT, Cond.code M.1 M.2.1 M.2.2.1 M.2.2.2.1 ∈ lw_tbl := by
  show ∀ M ∈ av_MT0 ++ (av_MT1 ++ (av_MT2 ++ (av_MT3 ++ (av_MT4 ++ (av_MT5))))), _
  exact List.forall_mem_append.mpr ⟨av_MT0_ok, List.forall_mem_append.mpr ⟨av_MT1_ok, List.forall_mem_append.mpr ⟨av_MT2_ok, List.forall_mem_append.mpr ⟨av_MT3_ok, List.forall_mem_append.mpr ⟨av_MT4_ok, av_MT5_ok⟩⟩⟩⟩⟩
def av_inip : List Nat := [34, 34, 34, 34, 34, 34, 34, 34, 34, 34, 34, 34, 34, 34, 34, 34, 34, 34, 34, 34, 34, 34, 34, 34, 34, 34, 37, 37, 37, 37, 37, 37, 37, 37, 37, 37, 37, 36, 36, 36, 36, 36, 35, 35, 35, 35, 35, 35, 35, 35, 35, 35, 35, 35, 35, 35, 33, 33, 33, 33, 33, 33, 33, 33, 33, 33, 33, 33, 33, 33, 33, 33, 33, 33, 33, 33, 33, 33, 33, 33, 33, 33, 33, 33, 33, 33, 33, 33, 33, 33, 33, 38, 38, 38, 38, 38, 38, 38, 38, 38, 38, 38, 38, 38, 38, 38, 38, 38, 38, 38, 38, 38, 38, 38, 38, 38, 38, 38, 38, 38, 38, 38, 38, 38, 38, 38, 38, 38, 38, 38, 38, 38, 38, 38, 38, 38, 38, 38, 38, 38, 38, 38, 38, 38, 38, 38, 38, 38, 38, 38]
/-- a call by class and pool number: kind (0 virtual, 1 virtual of a nest mate, 2 static, 3 static of a nest mate, 4 constructor, 5 constructor of a nest mate), callee by its place in av_MT, host of the nest, places of the words -/
def av_resL : List (Nat × Nat × Nat × Nat × String × Nat × Nat × Nat) := [(99, 9, 4, 56, "", 42, 43, 0), (99, 12, 4, 91, "", 548, 549, 0), (99, 13, 0, 57, "", 178, 179, 180), (99, 17, 0, 112, "", 602, 603, 604), (99, 18, 0, 58, "", 221, 222, 223), (99, 22, 0, 113, "", 630, 631, 632), (99, 23, 0, 59, "", 230, 231, 232), (99, 27, 0, 114, "", 634, 635, 636), (99, 28, 0, 60, "", 239, 240, 241), (99, 32, 0, 115, "", 638, 639, 640), (99, 33, 0, 61, "", 247, 248, 249), (99, 36, 0, 117, "", 642, 643, 644), (99, 37, 0, 62, "", 252, 253, 254), (99, 40, 0, 120, "", 662, 663, 664), (99, 41, 0, 63, "", 268, 269, 270), (99, 44, 0, 118, "", 652, 653, 654), (99, 45, 0, 64, "", 272, 273, 274), (99, 48, 0, 119, "", 658, 659, 660), (99, 49, 0, 65, "", 276, 277, 278), (99, 52, 0, 123, "", 670, 671, 672), (99, 53, 0, 66, "", 364, 365, 366), (99, 56, 0, 131, "", 741, 742, 743), (99, 57, 0, 67, "", 399, 400, 401), (99, 60, 0, 124, "", 715, 716, 717), (99, 61, 0, 68, "", 420, 421, 422), (99, 65, 0, 125, "", 733, 734, 735), (99, 66, 0, 69, "", 432, 433, 434), (99, 69, 0, 126, "", 737, 738, 739), (99, 70, 0, 70, "", 440, 441, 442), (99, 73, 0, 132, "", 761, 762, 763), (99, 74, 0, 71, "", 448, 449, 450), (99, 77, 0, 133, "", 765, 766, 767), (99, 78, 0, 72, "", 452, 453, 454), (99, 81, 0, 134, "", 769, 770, 771), (99, 82, 0, 73, "", 456, 457, 458), (99, 85, 0, 135, "", 773, 774, 775), (99, 86, 0, 74, "", 460, 461, 462), (99, 89, 0, 136, "", 777, 778, 779), (99, 90, 0, 75, "", 464, 465, 466), (99, 93, 0, 138, "", 781, 782, 783), (99, 94, 0, 76, "", 486, 487, 488), (99, 97, 0, 139, "", 789, 790, 791), (99, 98, 0, 77, "", 496, 497, 498), (99, 101, 0, 142, "", 797, 798, 799), (99, 102, 0, 78, "", 512, 513, 514), (99, 105, 0, 145, "", 809, 810, 811), (99, 106, 0, 79, "", 522, 523, 524), (99, 109, 0, 146, "", 821, 822, 823), (99, 110, 0, 80, "", 526, 527, 528), (99, 113, 0, 147, "", 825, 826, 827), (99, 114, 0, 81, "", 534, 535, 536), (99, 117, 0, 148, "", 829, 830, 831), (99, 118, 0, 82, "", 538, 539, 540), (99, 121, 0, 149, "", 833, 834, 835), (4, 9, 4, 0, "", 50, 51, 0), (4, 18, 4, 42, "", 101, 102, 0), (4, 37, 4, 37, "", 117, 118, 0), (4, 51, 5, 26, "TiltedCards", 134, 135, 0), (4, 56, 0, 2, "", 182, 183, 184), (4, 60, 2, 84, "", 189, 190, 0), (4, 63, 2, 83, "", 192, 187, 0), (4, 67, 0, 4, "", 193, 194, 195), (4, 71, 0, 38, "", 198, 199, 200), (4, 74, 0, 5, "", 217, 218, 219), (4, 82, 0, 6, "", 225, 226, 227), (4, 85, 0, 7, "", 234, 235, 236), (4, 89, 0, 8, "", 243, 244, 245), (4, 95, 0, 9, "", 251, 55, 56), (4, 98, 0, 3, "", 256, 257, 258), (4, 101, 0, 10, "", 260, 261, 262), (4, 105, 0, 11, "", 264, 265, 266), (4, 115, 0, 90, "", 280, 282, 0), (4, 118, 0, 13, "", 352, 353, 354), (4, 122, 0, 12, "", 356, 357, 358), (4, 126, 0, 88, "", 360, 362, 1), (4, 130, 0, 47, "", 325, 326, 327), (4, 134, 0, 32, "", 368, 369, 370), (4, 137, 0, 36, "", 392, 393, 394), (4, 144, 0, 54, "", 404, 405, 406), (4, 153, 0, 27, "", 424, 425, 426), (4, 157, 0, 28, "", 428, 429, 430), (4, 164, 0, 29, "", 436, 437, 438), (4, 170, 0, 40, "", 444, 445, 446), (4, 173, 0, 1, "", 284, 211, 212), (4, 176, 0, 22, "", 468, 469, 470), (4, 179, 2, 86, "", 473, 474, 0), (4, 182, 0, 23, "", 476, 477, 478), (4, 185, 0, 21, "", 485, 482, 483), (4, 188, 2, 85, "", 490, 491, 0), (4, 191, 0, 24, "", 493, 312, 313), (4, 194, 0, 25, "", 494, 294, 295), (4, 197, 0, 45, "", 495, 334, 335), (4, 201, 0, 46, "", 500, 330, 331), (4, 204, 0, 49, "", 501, 413, 414), (4, 207, 0, 50, "", 502, 503, 504), (4, 210, 0, 51, "", 506, 507, 508), (4, 213, 0, 48, "", 511, 417, 418), (4, 216, 0, 14, "", 516, 321, 322), (4, 219, 0, 52, "", 517, 409, 410), (4, 222, 0, 55, "", 518, 519, 520), (4, 225, 0, 89, "", 530, 532, 2), (4, 228, 0, 43, "", 289, 290, 291), (4, 231, 0, 53, "", 542, 543, 544), (4, 234, 0, 16, "", 285, 286, 287), (4, 237, 0, 15, "", 316, 317, 318), (4, 243, 2, 87, "", 342, 215, 0), (4, 247, 0, 17, "", 343, 344, 345), (0, 40, 0, 9, "", 54, 55, 56), (0, 43, 3, 87, "TiltedCards", 214, 215, 0), (0, 47, 3, 83, "TiltedCards", 186, 187, 0), (0, 51, 3, 84, "TiltedCards", 197, 190, 0), (0, 55, 0, 5, "", 229, 218, 219), (0, 59, 0, 4, "", 238, 194, 195), (0, 63, 0, 10, "", 324, 261, 262), (0, 67, 0, 14, "", 320, 321, 322), (0, 70, 0, 18, "", 347, 348, 349), (0, 73, 0, 11, "", 351, 265, 266), (0, 82, 0, 19, "", 307, 308, 309), (0, 85, 0, 20, "", 472, 304, 305), (0, 88, 0, 22, "", 480, 469, 470), (0, 91, 0, 21, "", 481, 482, 483), (2, 21, 4, 0, "", 123, 51, 0), (2, 22, 0, 39, "", 202, 203, 204), (2, 25, 0, 41, "", 206, 207, 208), (2, 29, 0, 1, "", 210, 211, 212), (3, 22, 0, 25, "", 293, 294, 295), (3, 28, 0, 20, "", 303, 304, 305), (3, 31, 0, 24, "", 311, 312, 313), (3, 35, 3, 83, "TiltedCards", 315, 187, 0), (3, 39, 0, 10, "", 341, 261, 262), (3, 42, 0, 44, "", 337, 338, 339), (3, 45, 0, 45, "", 333, 334, 335), (3, 53, 0, 46, "", 329, 330, 331), (3, 56, 0, 48, "", 416, 417, 418), (3, 62, 0, 50, "", 510, 503, 504), (3, 65, 0, 49, "", 412, 413, 414), (3, 68, 0, 52, "", 408, 409, 410), (1, 22, 0, 30, "", 380, 381, 382), (1, 26, 0, 33, "", 372, 373, 374), (1, 30, 0, 34, "", 388, 389, 390), (1, 34, 0, 31, "", 376, 377, 378), (1, 38, 2, 35, "", 384, 385, 0), (1, 41, 3, 83, "TiltedCards", 387, 187, 0), (1, 50, 0, 5, "", 396, 218, 219), (1, 54, 0, 9, "", 397, 55, 56), (1, 60, 0, 11, "", 398, 265, 266), (5, 34, 0, 100, "", 552, 554, 3), (5, 41, 2, 92, "", 610, 611, 0), (5, 53, 0, 102, "", 682, 684, 12), (5, 57, 0, 101, "", 686, 688, 13), (5, 60, 0, 104, "", 707, 709, 18), (5, 63, 0, 105, "", 703, 705, 17), (5, 67, 0, 106, "", 699, 701, 16), (5, 71, 0, 103, "", 678, 680, 11), (5, 74, 0, 107, "", 695, 697, 15), (5, 78, 0, 109, "", 729, 731, 22), (5, 81, 0, 110, "", 725, 727, 21), (5, 84, 0, 95, "", 606, 608, 4), (5, 88, 2, 96, "", 613, 614, 0), (5, 91, 0, 99, "", 618, 620, 5), (5, 94, 0, 93, "", 622, 624, 6), (5, 97, 0, 94, "", 626, 628, 7), (5, 104, 0, 116, "", 648, 650, 8), (5, 112, 0, 97, "", 666, 668, 9), (5, 115, 0, 121, "", 691, 693, 14), (5, 118, 0, 122, "", 674, 676, 10), (5, 121, 0, 108, "", 711, 713, 19), (5, 127, 0, 111, "", 721, 723, 20), (5, 137, 0, 127, "", 753, 755, 25), (5, 146, 0, 129, "", 749, 751, 24), (5, 149, 0, 128, "", 757, 759, 26), (5, 155, 0, 130, "", 745, 747, 23), (5, 161, 0, 137, "", 785, 787, 27), (5, 164, 2, 98, "", 793, 794, 0), (5, 167, 0, 140, "", 801, 803, 28), (5, 170, 0, 141, "", 805, 807, 29), (5, 173, 0, 144, "", 813, 815, 30), (5, 176, 0, 143, "", 817, 819, 31)]
/-- Math.max (true) and min -/
def av_mmL : List (Nat × Nat × Bool × Nat × Nat × Nat × Nat) := [(0, 94, false, 297, 298, 299, 39), (0, 77, true, 300, 301, 302, 39)]
-- object constructors
def av_objL : List (Nat × Nat) := [(4, 1), (0, 3), (3, 3), (2, 3), (1, 3), (5, 1)]
def av_fldL : List (Nat × Nat × Nat × Nat × String × Nat) := [(0, 9, 0, 0, "", 58), (0, 15, 0, 1, "", 62), (0, 19, 0, 2, "", 63), (0, 22, 0, 3, "", 67), (0, 25, 0, 4, "", 69), (0, 28, 0, 5, "", 71), (0, 31, 0, 6, "", 73), (0, 34, 0, 7, "", 75), (0, 37, 0, 8, "", 77), (3, 9, 3, 1, "", 106), (3, 15, 3, 2, "", 107), (3, 18, 3, 0, "", 105), (3, 49, 0, 2, "TiltedCards", 64), (3, 59, 0, 0, "TiltedCards", 60), (2, 11, 2, 0, "", 124), (2, 17, 2, 1, "", 125), (1, 9, 1, 0, "", 138), (1, 15, 1, 1, "", 139), (1, 19, 1, 2, "", 141), (1, 45, 0, 0, "TiltedCards", 61), (1, 57, 0, 2, "TiltedCards", 66), (4, 10, 4, 0, "", 150), (4, 21, 4, 1, "", 151), (4, 25, 4, 2, "", 152), (4, 28, 4, 3, "", 153), (4, 31, 4, 4, "", 154), (4, 38, 4, 5, "", 155), (4, 42, 4, 6, "", 156), (4, 45, 4, 7, "", 157), (4, 52, 4, 8, "", 158), (4, 78, 0, 0, "TiltedCards", 59), (4, 92, 0, 2, "TiltedCards", 65), (4, 109, 0, 4, "TiltedCards", 70), (4, 112, 0, 5, "TiltedCards", 72), (4, 140, 0, 6, "TiltedCards", 74), (4, 147, 0, 7, "TiltedCards", 76), (4, 150, 0, 8, "TiltedCards", 78), (4, 161, 1, 1, "TiltedCards", 140), (4, 167, 2, 1, "TiltedCards", 126), (4, 240, 0, 3, "TiltedCards", 68), (5, 7, 5, 0, "", 556), (5, 13, 5, 1, "", 557), (5, 16, 5, 2, "", 558), (5, 19, 5, 4, "", 560), (5, 22, 5, 6, "", 562), (5, 25, 5, 7, "", 563), (5, 28, 5, 8, "", 564), (5, 31, 5, 9, "", 565), (5, 37, 5, 3, "", 559), (5, 131, 5, 10, "", 566), (5, 134, 5, 11, "", 567), (5, 140, 5, 12, "", 568), (5, 143, 5, 13, "", 569), (5, 152, 5, 14, "", 570), (5, 158, 5, 5, "", 561)]
def av_clsL : List (Nat × Nat × Nat) := [(99, 7, 4), (4, 7, 0), (4, 16, 3), (4, 35, 2), (2, 9, 0), (4, 49, 1), (99, 10, 5)]
def av_kiL : List (Nat × Nat × Int32) := [(4, 143, 99999), (5, 126, 99999)]
def av_klL : List (Nat × Nat × Int64) := [(5, 45, 11), (5, 49, 9), (5, 100, 2), (5, 102, 6), (5, 108, -3), (5, 110, 3), (5, 51, 12), (5, 124, 999), (5, 47, -9)]
def av_R (k : Nat) : String := match k with
  | 0 => RX0
  | 1 => RX1
  | 2 => RX2
  | 3 => RX3
  | 4 => RX4
  | 5 => RX5
  | 90 => RJ9
  | _ => RL
def av_T (k : Nat) : u_T := match k with
  | 0 => TX0
  | 1 => TX1
  | 2 => TX2
  | 3 => TX3
  | 4 => TX4
  | _ => TX5
def av_ty (k : Nat) : Nat → FieldType := match k with
  | 0 => tyX0
  | 1 => tyX1
  | 2 => tyX2
  | 3 => tyX3
  | 4 => tyX4
  | _ => tyX5
def av_N (k : Nat) : Nat := match k with
  | 0 => 9
  | 1 => 3
  | 2 => 2
  | 3 => 3
  | 4 => 9
  | _ => 15
def av_df (k : Nat) : List Value := match k with
  | 0 => [.int 0, .null, .int 0, .null, .int 0, .int 0, .int 0, .int 0, .int 0]
  | 1 => [.null, .int 0, .int 0]
  | 2 => [.null, .int 0]
  | 3 => [.null, .null, .null]
  | 4 => [.null, .null, .null, .null, .null, .null, .null, .int 0, .null]
  | _ => [.null, .null, .null, .int 0, .null, .int 0, .null, .null, .null, .null, .int 0, .int 0, .int 0, .int 0, .int 0]
end
section
/-! ===== THE ABSTRACT MACHINE: a run of bytecode over a finite store whose cells are numbered in the order in which they were made ===== -/
abbrev av_E : Type := (Nat × vp_A) ⊕ (Nat × List Value)
/-- how many cells, how many slots in all, the cells -/
abbrev av_W : Type := Nat × Nat × (Nat → av_E)
abbrev av_L : Type := List (Option Value)
def av_up (g : Nat → av_E) (k : Nat) (e : av_E) : Nat → av_E := fun j => if j = k then e else g j
def av_res (own i : Nat) : Option (Nat × av_M) := (av_resL.find? (fun q => q.1 == own && q.2.1 == i)).bind (fun q => (av_MT[q.2.2.2.1]?).map (fun M => (q.2.2.1, M)))
def av_fld (own i : Nat) : Option (Nat × Nat × String) := (av_fldL.find? (fun q => q.1 == own && q.2.1 == i)).map (fun q => (q.2.2.1, q.2.2.2.1, q.2.2.2.2.1))
def av_mm (own i : Nat) : Option Bool := (av_mmL.find? (fun q => q.1 == own && q.2.1 == i)).map (fun q => q.2.2.1)
def av_cls (own i : Nat) : Option Nat := (av_clsL.find? (fun q => q.1 == own && q.2.1 == i)).map (fun q => q.2.2)
def av_ki (own i : Nat) : Option Int32 := (av_kiL.find? (fun q => q.1 == own && q.2.1 == i)).map (fun q => q.2.2)
def av_kl (own i : Nat) : Option Int64 := (av_klL.find? (fun q => q.1 == own && q.2.1 == i)).map (fun q => q.2.2)
def av_prev (ls : av_L) (i : Nat) : Bool := match i with
  | 0 => false
  | j + 1 => match ls[j]? with
    | some (some v) => v.category == 2
    | _ => false
def av_sto (ls : av_L) (i : Nat) (v : Value) : Option av_L := if i < ls.length ∧ av_prev ls i = false then some (ls.set i (some v)) else none
/-- the number under which the script is known -/
def av_scr : Nat := 1000000000
-- what is well made: every reference is a cell's number, or the script
def av_wv (n : Nat) (v : Value) : Bool := match v with
  | .ref r => decide (r < n) || r == av_scr
  | _ => true
def av_wl (n : Nat) (ls : av_L) : Bool := ls.all (fun o => match o with | some v => av_wv n v | none => true)
def av_we (n : Nat) (e : av_E) : Bool := match e with
  | .inr q => q.2.all (av_wv n)
  | .inl (_, k, .inr (.inr (.inr (.inr f)))) => (List.range k).all (fun j => match f j with | some r => decide (r < n) | none => true)
  | .inl _ => true
def av_ww (w : av_W) : Bool := (List.range w.1).all (fun k => av_we w.1 (w.2.2 k))
def av_wf (ls : av_L) (st : List Value) (w : av_W) : Bool := decide (w.1 < 1000) && av_wl w.1 ls && st.all (av_wv w.1) && av_ww w
-- one instruction that is no call and no return
abbrev av_N1 : Type := Option (Nat × av_L × List Value × av_W)
def av_tgt (pc : Nat) (off : Int) (k : Nat → av_N1) : av_N1 := if 0 ≤ (pc : Int) + off then k ((pc : Int) + off).toNat else none
def av_push (n len pc : Nat) (ls : av_L) (v : Value) (st : List Value) (w : av_W) : av_N1 := if len = n then some (pc + n, ls, v :: st, w) else none
def av_ild (n i len pc : Nat) (ls : av_L) (st : List Value) (w : av_W) : av_N1 := match ls[i]? with
  | some (some (.int x)) => av_push n len pc ls (.int x) st w
  | _ => none
def av_lld (n i len pc : Nat) (ls : av_L) (st : List Value) (w : av_W) : av_N1 := match ls[i]? with
  | some (some (.long x)) => av_push n len pc ls (.long x) st w
  | _ => none
def av_ald (n i len pc : Nat) (ls : av_L) (st : List Value) (w : av_W) : av_N1 := match ls[i]? with
  | some (some (.ref x)) => av_push n len pc ls (.ref x) st w
  | _ => none
def av_ist (n i len pc : Nat) (ls : av_L) (st : List Value) (w : av_W) : av_N1 := match st with
  | .int x :: rest => if len = n then (av_sto ls i (.int x)).map (fun l => (pc + n, l, rest, w)) else none
  | _ => none
def av_ast (n i len pc : Nat) (ls : av_L) (st : List Value) (w : av_W) : av_N1 := match st with
  | .ref x :: rest => if len = n then (av_sto ls i (.ref x)).map (fun l => (pc + n, l, rest, w)) else none
  | _ => none
def av_iinc (i : Nat) (n : Int) (len pc : Nat) (ls : av_L) (st : List Value) (w : av_W) : av_N1 := match ls[i]? with
  | some (some (.int x)) => if len = 3 then (av_sto ls i (.int (x + Int32.ofInt n))).map (fun l => (pc + 3, l, st, w)) else none
  | _ => none
def av_bin (f : Int32 → Int32 → Int32) (len pc : Nat) (ls : av_L) (st : List Value) (w : av_W) : av_N1 := match st with
  | .int y :: .int x :: rest => av_push 1 len pc ls (.int (f x y)) rest w
  | _ => none
def av_div (f : Int32 → Int32 → Int32) (len pc : Nat) (ls : av_L) (st : List Value) (w : av_W) : av_N1 := match st with
  | .int y :: .int x :: rest => if y = 0 then none else av_push 1 len pc ls (.int (f x y)) rest w
  | _ => none
def av_lbin (f : Int64 → Int64 → Value) (len pc : Nat) (ls : av_L) (st : List Value) (w : av_W) : av_N1 := match st with
  | .long y :: .long x :: rest => av_push 1 len pc ls (f x y) rest w
  | _ => none
def av_un (f : Int32 → Value) (len pc : Nat) (ls : av_L) (st : List Value) (w : av_W) : av_N1 := match st with
  | .int x :: rest => av_push 1 len pc ls (f x) rest w
  | _ => none
def av_ifs (b : Prop) [Decidable b] (off : Int) (len pc : Nat) (ls : av_L) (rest : List Value) (w : av_W) : av_N1 := if len = 3 then av_tgt pc off (fun t => some (if b then t else pc + 3, ls, rest, w)) else none
def av_if1 (c : Int32 → Prop) [∀ x, Decidable (c x)] (off : Int) (len pc : Nat) (ls : av_L) (st : List Value) (w : av_W) : av_N1 := match st with
  | .int x :: rest => av_ifs (c x) off len pc ls rest w
  | _ => none
def av_if2 (c : Int32 → Int32 → Prop) [∀ x y, Decidable (c x y)] (off : Int) (len pc : Nat) (ls : av_L) (st : List Value) (w : av_W) : av_N1 := match st with
  | .int y :: .int x :: rest => av_ifs (c x y) off len pc ls rest w
  | _ => none
def av_tab (dflt lo hi : Int) (offs : Array Int) (pc : Nat) (ls : av_L) (st : List Value) (w : av_W) : av_N1 := match st with
  | .int x :: rest => if x.toInt < lo ∨ hi < x.toInt then av_tgt pc dflt (fun t => some (t, ls, rest, w)) else
      match offs[(x.toInt - lo).toNat]? with
      | some off => av_tgt pc off (fun t => some (t, ls, rest, w))
      | none => none
  | _ => none
def av_getf (own i len pc : Nat) (ls : av_L) (st : List Value) (w : av_W) : av_N1 := match st with
  | .ref a :: rest => if a < w.1 ∧ len = 3 then (match av_fld own i with
    | some (ci, k, _) => (match w.2.2 a with
      | .inr (c2, fs) => if c2 = ci then (match fs[k]? with
        | some v => some (pc + 3, ls, v :: rest, w)
        | none => none) else none
      | _ => none)
    | none => none) else none
  | _ => none
/-- a value that may stand in a field of a type -/
def av_fit (ty : FieldType) (v : Value) : Bool := match ty, v with
  | .int, .int _ => true
  | .boolean, .int x => x == 0 || x == 1
  | .char, .int x => decide (¬ x < 0) && decide (x ≤ 65535)
  | .object _, .ref _ => true
  | .array _, .ref _ => true
  | _, _ => false
def av_putf (own : Nat) (init : Bool) (i len pc : Nat) (ls : av_L) (st : List Value) (w : av_W) : av_N1 := match st with
  | v :: .ref a :: rest => if a < w.1 ∧ len = 3 then (match av_fld own i with
    | some (ci, k, h) => (match w.2.2 a with
      | .inr (c2, fs) => if c2 = ci ∧ k < fs.length ∧ av_fit (av_ty ci k) v = true ∧ ((av_T ci k).2.2.2 = false ∨ (init = true ∧ own = ci ∧ h = "")) then some (pc + 3, ls, rest, (w.1, w.2.1, av_up w.2.2 a (.inr (ci, fs.set k v)))) else none
      | _ => none)
    | none => none) else none
  | _ => none
def av_inr (i : Int32) (n : Nat) : Bool := decide (¬ i < 0) && decide (i.toNatClampNeg < n)
def av_xald (t len pc : Nat) (ls : av_L) (st : List Value) (w : av_W) : av_N1 := match st with
  | .int i :: .ref a :: rest => (match w.2.2 a with
    | .inl (t2, n, .inl f) => if a < w.1 ∧ len = 1 ∧ t2 = t ∧ av_inr i n = true then some (pc + 1, ls, .int (f i.toNatClampNeg) :: rest, w) else none
    | _ => none)
  | _ => none
/-- reading the script, for the law alone -/
def av_sald (len pc : Nat) (ls : av_L) (st : List Value) (w : av_W) : av_N1 := match st with
  | .int i :: .ref a :: rest => (match w.2.2 a with
    | .inl (_, n, .inl f) => if a = av_scr ∧ len = 1 ∧ av_inr i n = true then some (pc + 1, ls, .int (f i.toNatClampNeg) :: rest, w) else none
    | _ => none)
  | _ => none
def av_slen (len pc : Nat) (ls : av_L) (st : List Value) (w : av_W) : av_N1 := match st with
  | .ref a :: rest => (match w.2.2 a with
    | .inl (_, n, _) => if a = av_scr ∧ len = 1 then some (pc + 1, ls, .int (Int32.ofNat n) :: rest, w) else none
    | _ => none)
  | _ => none
def av_xast (g : Int32 → Int32) (t len pc : Nat) (ls : av_L) (st : List Value) (w : av_W) : av_N1 := match st with
  | .int x :: .int i :: .ref a :: rest => (match w.2.2 a with
    | .inl (t2, n, .inl f) => if a < w.1 ∧ len = 1 ∧ t2 = t ∧ av_inr i n = true then some (pc + 1, ls, rest, (w.1, w.2.1, av_up w.2.2 a (.inl (t, n, .inl (upd f i.toNatClampNeg (g x)))))) else none
    | _ => none)
  | _ => none
def av_rald (len pc : Nat) (ls : av_L) (st : List Value) (w : av_W) : av_N1 := match st with
  | .int i :: .ref a :: rest => (match w.2.2 a with
    | .inl (t2, n, .inr (.inr (.inr (.inr f)))) => if a < w.1 ∧ len = 1 ∧ t2 = 2 ∧ av_inr i n = true then (match f i.toNatClampNeg with
      | some r => some (pc + 1, ls, .ref r :: rest, w)
      | none => none) else none
    | _ => none)
  | _ => none
def av_rast (len pc : Nat) (ls : av_L) (st : List Value) (w : av_W) : av_N1 := match st with
  | .ref v :: .int i :: .ref a :: rest => (match w.2.2 a, w.2.2 v with
    | .inl (t2, n, .inr (.inr (.inr (.inr f)))), .inr (c2, _) => if (a < w.1 ∧ v < w.1) ∧ len = 1 ∧ t2 = 2 ∧ c2 = 0 ∧ av_inr i n = true then some (pc + 1, ls, rest, (w.1, w.2.1, av_up w.2.2 a (.inl (2, n, .inr (.inr (.inr (.inr (va_up f i.toNatClampNeg (some v))))))))) else none
    | _, _ => none)
  | _ => none
def av_alen (len pc : Nat) (ls : av_L) (st : List Value) (w : av_W) : av_N1 := match st with
  | .ref a :: rest => (match w.2.2 a with
    | .inl (t, n, _) => if a < w.1 ∧ len = 1 ∧ t < 3 then some (pc + 1, ls, .int (Int32.ofNat n) :: rest, w) else none
    | _ => none)
  | _ => none
def av_newa (t : Nat) (len pc : Nat) (ls : av_L) (st : List Value) (w : av_W) : av_N1 := match st with
  | .int n :: rest => if len = 2 ∧ ¬ n < 0 ∧ n.toNatClampNeg ≤ 1000000 ∧ av_wf ls rest w = true then some (pc + 2, ls, .ref w.1 :: rest, (w.1 + 1, w.2.1 + n.toNatClampNeg, av_up w.2.2 w.1 (.inl (t, n.toNatClampNeg, .inl (fun _ => 0))))) else none
  | _ => none
def av_newr (own i : Nat) (len pc : Nat) (ls : av_L) (st : List Value) (w : av_W) : av_N1 := match st with
  | .int n :: rest => if (av_cls own i = some 0 ∧ len = 3) ∧ ¬ n < 0 ∧ n.toNatClampNeg ≤ 1000000 ∧ av_wf ls rest w = true then some (pc + 3, ls, .ref w.1 :: rest, (w.1 + 1, w.2.1 + n.toNatClampNeg, av_up w.2.2 w.1 (.inl (2, n.toNatClampNeg, .inr (.inr (.inr (.inr (fun _ => none)))))))) else none
  | _ => none
def av_new (own i : Nat) (len pc : Nat) (ls : av_L) (st : List Value) (w : av_W) : av_N1 := match av_cls own i with
  | some ci => if len = 3 ∧ av_wf ls st w = true then some (pc + 3, ls, .ref w.1 :: st, (w.1 + 1, w.2.1 + av_N ci, av_up w.2.2 w.1 (.inr (ci, av_df ci)))) else none
  | none => none
def av_dup (len pc : Nat) (ls : av_L) (st : List Value) (w : av_W) : av_N1 := match st with
  | v :: rest => if len = 1 ∧ v.category = 1 then some (pc + 1, ls, v :: v :: rest, w) else none
  | _ => none
def av_dup2 (len pc : Nat) (ls : av_L) (st : List Value) (w : av_W) : av_N1 := match st with
  | v :: u :: rest => if len = 1 ∧ v.category = 1 ∧ u.category = 1 then some (pc + 1, ls, v :: u :: v :: u :: rest, w) else none
  | _ => none
def av_pop (len pc : Nat) (ls : av_L) (st : List Value) (w : av_W) : av_N1 := match st with
  | v :: rest => if len = 1 ∧ v.category = 1 then some (pc + 1, ls, rest, w) else none
  | _ => none
def av_ifn (len pc : Nat) (ls : av_L) (st : List Value) (w : av_W) : av_N1 := match st with
  | .ref _ :: rest => if len = 3 then some (pc + 3, ls, rest, w) else none
  | _ => none
def av_ldc (own i len pc : Nat) (ls : av_L) (st : List Value) (w : av_W) : av_N1 := match av_ki own i with
  | some v => av_push 2 len pc ls (.int v) st w
  | none => none
def av_ldl (own i len pc : Nat) (ls : av_L) (st : List Value) (w : av_W) : av_N1 := match av_kl own i with
  | some v => av_push 3 len pc ls (.long v) st w
  | none => none
def av_obj (own i h len pc : Nat) (ls : av_L) (st : List Value) (w : av_W) : av_N1 := match st with
  | [.ref _] => if (own, i) ∈ av_objL ∧ len = 3 ∧ 1 ≤ h then some (pc + 3, ls, [], w) else none
  | _ => none
/-- Math.max, Math.min -/
def av_mmx (own i h len pc : Nat) (ls : av_L) (st : List Value) (w : av_W) : av_N1 := match st with
  | .int y :: .int x :: rest => (match av_mm own i with
    | some b => if len = 3 ∧ 1 ≤ h ∧ (rest.map (fun v => v.category)).sum ≤ 8 then some (pc + 3, ls, .int (if b then (if x < y then y else x) else (if y < x then y else x)) :: rest, w) else none
    | none => none)
  | _ => none
def av_isInit (M : av_M) : Bool := M.1.name == "<init>"
def av_step (M : av_M) (i : Instr) (len pc : Nat) (ls : av_L) (st : List Value) (w : av_W) : av_N1 := match i with
  | .aload_n k => av_ald 1 k.val len pc ls st w
  | .iload_n k => av_ild 1 k.val len pc ls st w
  | .iload k => av_ild 2 k len pc ls st w
  | .lload_n k => av_lld 1 k.val len pc ls st w
  | .lload k => av_lld 2 k len pc ls st w
  | .istore_n k => av_ist 1 k.val len pc ls st w
  | .istore k => av_ist 2 k len pc ls st w
  | .astore_n k => av_ast 1 k.val len pc ls st w
  | .iinc k n => av_iinc k n len pc ls st w
  | .iconst n => av_push 1 len pc ls (.int (Int32.ofInt n)) st w
  | .bipush n => av_push 2 len pc ls (.int (Int8.ofInt n).toInt32) st w
  | .sipush n => av_push 3 len pc ls (.int (Int16.ofInt n).toInt32) st w
  | .lconst n => av_push 1 len pc ls (.long (Int64.ofNat (n : Nat))) st w
  | .ldc k => av_ldc M.2.2.2.2.1 k len pc ls st w
  | .ldc2_w k => av_ldl M.2.2.2.2.1 k len pc ls st w
  | .iadd => av_bin (fun x y => x + y) len pc ls st w
  | .isub => av_bin (fun x y => x - y) len pc ls st w
  | .imul => av_bin (fun x y => x * y) len pc ls st w
  | .iand => av_bin (fun x y => x &&& y) len pc ls st w
  | .ior => av_bin (fun x y => x ||| y) len pc ls st w
  | .ixor => av_bin (fun x y => x ^^^ y) len pc ls st w
  | .ishl => av_bin (fun x y => x <<< (y &&& 31)) len pc ls st w
  | .ishr => av_bin (fun x y => x >>> (y &&& 31)) len pc ls st w
  | .idiv => av_div (fun x y => x / y) len pc ls st w
  | .irem => av_div (fun x y => x - x / y * y) len pc ls st w
  | .ineg => av_un (fun x => .int (-x)) len pc ls st w
  | .i2l => av_un (fun x => .long x.toInt64) len pc ls st w
  | .i2c => av_un (fun x => .int (x.toUInt32 % 65536).toInt32) len pc ls st w
  | .lsub => av_lbin (fun x y => .long (x - y)) len pc ls st w
  | .lmul => av_lbin (fun x y => .long (x * y)) len pc ls st w
  | .lcmp => av_lbin (fun x y => .int (lg_cmp x y)) len pc ls st w
  | .ifCond .eq off => av_if1 (fun x => x = 0) off len pc ls st w
  | .ifCond .ne off => av_if1 (fun x => ¬ x = 0) off len pc ls st w
  | .ifCond .lt off => av_if1 (fun x => x < 0) off len pc ls st w
  | .ifCond .ge off => av_if1 (fun x => 0 ≤ x) off len pc ls st w
  | .ifCond .gt off => av_if1 (fun x => 0 < x) off len pc ls st w
  | .ifCond .le off => av_if1 (fun x => x ≤ 0) off len pc ls st w
  | .if_icmp .eq off => av_if2 (fun x y => x = y) off len pc ls st w
  | .if_icmp .ne off => av_if2 (fun x y => ¬ x = y) off len pc ls st w
  | .if_icmp .lt off => av_if2 (fun x y => x < y) off len pc ls st w
  | .if_icmp .ge off => av_if2 (fun x y => y ≤ x) off len pc ls st w
  | .if_icmp .gt off => av_if2 (fun x y => y < x) off len pc ls st w
  | .if_icmp .le off => av_if2 (fun x y => x ≤ y) off len pc ls st w
  | .goto off => if len = 3 then av_tgt pc off (fun t => some (t, ls, st, w)) else none
  | .tableswitch dflt lo hi offs => av_tab dflt lo hi offs pc ls st w
  | .getfield k => av_getf M.2.2.2.2.1 k len pc ls st w
  | .putfield k => av_putf M.2.2.2.2.1 (av_isInit M) k len pc ls st w
  | .iaload => if M.2.2.2.2.1 = 99 then av_sald len pc ls st w else av_xald 0 len pc ls st w
  | .caload => av_xald 1 len pc ls st w
  | .iastore => av_xast (fun x => x) 0 len pc ls st w
  | .castore => av_xast (vp_nar .char) 1 len pc ls st w
  | .aaload => av_rald len pc ls st w
  | .aastore => av_rast len pc ls st w
  | .arraylength => if M.2.2.2.2.1 = 99 then av_slen len pc ls st w else av_alen len pc ls st w
  | .newarray .int => av_newa 0 len pc ls st w
  | .newarray .char => av_newa 1 len pc ls st w
  | .anewarray k => av_newr M.2.2.2.2.1 k len pc ls st w
  | .new k => av_new M.2.2.2.2.1 k len pc ls st w
  | .dup => av_dup len pc ls st w
  | .dup2 => av_dup2 len pc ls st w
  | .pop => av_pop len pc ls st w
  | .ifnull _ => av_ifn len pc ls st w
  | .invokespecial k => av_obj M.2.2.2.2.1 k M.2.2.2.2.2.1 len pc ls st w
  | .invokestatic k => av_mmx M.2.2.2.2.1 k M.2.2.2.2.2.1 len pc ls st w
  | _ => none
/-- a return: what is answered -/
def av_ret (M : av_M) (i : Instr) (len : Nat) (st : List Value) : Option (Option Value) := match i with
  | .ireturn => (match st with
    | [.int v] => (match M.2.2.2.1 with
      | some ty => if len = 1 ∧ av_fit ty (.int v) = true then some (some (.int v)) else none
      | none => none)
    | _ => none)
  | .return_ => (match st with
    | [] => if len = 1 ∧ M.2.2.2.1 = none then some none else none
    | _ => none)
  | .areturn => (match st with
    | [.ref a] => (match M.2.2.2.1 with
      | some ty => if len = 1 ∧ av_fit ty (.ref a) = true then some (some (.ref a)) else none
      | none => none)
    | _ => none)
  | _ => none
/-- a call: its kind, the callee, the arguments, what stays on the stack -/
def av_cut (M : av_M) (len : Nat) (idx : Nat) (ks : List Nat) (stat : Bool) (st : List Value) : Option (Nat × av_M × List Value × List Value) := match av_res M.2.2.2.2.1 idx with
  | some (k, M2) =>
    let n := M2.2.2.2.2.2.2 + (if stat then 0 else 1)
    if len = 3 ∧ k ∈ ks ∧ M2.2.2.2.2.2.1 < M.2.2.2.2.2.1 ∧ n ≤ st.length ∧ ((st.drop n).map (fun v => v.category)).sum ≤ 8 then some (k, M2, (st.take n).reverse, st.drop n) else none
  | none => none
def av_inv (M : av_M) (i : Instr) (len : Nat) (st : List Value) : Option (Nat × av_M × List Value × List Value) := match i with
  | .invokevirtual idx => av_cut M len idx [0, 1] false st
  | .invokestatic idx => av_cut M len idx [2, 3] true st
  | .invokespecial idx => av_cut M len idx [4, 5] false st
  | _ => none
/-- the receiver of a virtual call is an object of the callee's class -/
def av_rcv (k : Nat) (M2 : av_M) (args : List Value) (w : av_W) : Bool := match k, args with
  | 2, _ => true
  | 3, _ => true
  | 4, .ref _ :: _ => true
  | 5, .ref _ :: _ => true
  | _, .ref b :: _ => decide (b < w.1) && (match w.2.2 b with | .inr q => q.1 == M2.2.2.2.2.1 | _ => false)
  | _, _ => false
def av_ents : List Value → av_L
  | [] => []
  | v :: vs => if v.category = 2 then some v :: none :: av_ents vs else some v :: av_ents vs
def av_ent (args : List Value) (n : Nat) : av_L := av_ents args ++ List.replicate (n - (av_ents args).length) none
def av_back (ls : av_L) (rest : List Value) (w w2 : av_W) : Bool := w2.1 == w.1 || (av_wl w.1 ls && rest.all (av_wv w.1))
def arun : Nat → av_M → Nat → av_L → List Value → av_W → Option (Option Value × av_W)
  | 0, _, _, _, _, _ => none
  | f + 1, M, pc, ls, st, w => match decode M.2.1 pc with
    | .ok (i, len) => (match av_ret M i len st with
      | some r => some (r, w)
      | none => (match av_inv M i len st with
        | some (k, M2, args, rest) => if av_rcv k M2 args w = true ∧ (av_ents args).length ≤ M2.2.2.1 then (match arun f M2 0 (av_ent args M2.2.2.1) [] w with
          | some (r, w2) => if av_back ls rest w w2 = true then arun f M (pc + 3) ls (r.toList ++ rest) w2 else none
          | none => none) else none
        | none => (match av_step M i len pc ls st w with
          | some (pc2, ls2, st2, w2) => arun f M pc2 ls2 st2 w2
          | none => none)))
    | _ => none
end
section
/-! ===== what the tables say of the tables of the machine ===== -/
/-- the words that a method is given: those that stay -/
def av_ws : List Cond := lw_tbl.filter goodWord
def av_ns : List Cond := lw_tbl.filter (fun w => match w with | .methodLinkNest _ _ _ _ => true | .fieldLinkNest _ _ _ _ _ _ => true | .arrayOver (.object _) => true | _ => false)
def av_inT (p : Nat) (w : Cond) : Bool := decide (lw_tbl[p]? = some w) && goodWord w
def av_inN (p : Nat) (w : Cond) : Bool := decide (lw_tbl[p]? = some w) && (match w with | .methodLinkNest _ _ _ _ => true | .fieldLinkNest _ _ _ _ _ _ => true | .arrayOver (.object _) => true | _ => false)
theorem av_inT_ws {p : Nat} {w : Cond} (h : av_inT p w = true) : w ∈ av_ws := by
  simp only [av_inT, Bool.and_eq_true, decide_eq_true_eq] at h
  exact List.mem_filter.mpr ⟨List.mem_of_getElem? h.1, h.2⟩
theorem av_inN_ns {p : Nat} {w : Cond} (h : av_inN p w = true) : w ∈ av_ns := by
  simp only [av_inN, Bool.and_eq_true, decide_eq_true_eq] at h
  exact List.mem_filter.mpr ⟨List.mem_of_getElem? h.1, h.2⟩
theorem av_code_ws : ∀ M ∈ av_MT, Cond.code M.1 M.2.1 M.2.2.1 M.2.2.2.1 ∈ av_ws := fun M h => List.mem_filter.mpr ⟨av_code_ok M h, rfl⟩
def av_okM (q : av_M × Nat) : Bool :=
  plainName q.1.1.cls && (q.1.1.cls == av_R q.1.2.2.2.2.1) && av_inT q.2 (Cond.initialized q.1.1.cls) && decide (q.1.1.cls ≠ "java/lang/invoke/MethodHandle") && decide (q.1.1.cls ≠ "java/lang/invoke/VarHandle") &&
  decide ((parseMethodDescriptor q.1.1.desc).map (fun d => d.parameters.length) = some q.1.2.2.2.2.2.2) && decide (q.1.2.2.1 ≤ 16) && decide (q.1.2.2.2.2.1 < 6)
set_option maxRecDepth 100000 in
theorem av_MT_ok : (av_MT.zip av_inip).all av_okM = true := by decide +kernel
theorem av_MT_len : av_MT.length = av_inip.length := by decide +kernel
def av_okR (q : Nat × Nat × Nat × Nat × String × Nat × Nat × Nat) : Bool :=
  match av_MT[q.2.2.2.1]? with
  | none => false
  | some M => (match q.2.2.1 with
    | 0 => av_inT q.2.2.2.2.2.1 (Cond.methodLink (av_R q.1) q.2.1 M.1) && av_inT q.2.2.2.2.2.2.1 (Cond.instanceMethod M.1) && av_inT q.2.2.2.2.2.2.2 (Cond.selects M.1.cls M.1 M.1)
    | 1 => av_inN q.2.2.2.2.2.1 (Cond.methodLinkNest (av_R q.1) q.2.1 M.1 q.2.2.2.2.1) && av_inT q.2.2.2.2.2.2.1 (Cond.instanceMethod M.1) && av_inT q.2.2.2.2.2.2.2 (Cond.selects M.1.cls M.1 M.1)
    | 2 => av_inT q.2.2.2.2.2.1 (Cond.methodLink (av_R q.1) q.2.1 M.1) && av_inT q.2.2.2.2.2.2.1 (Cond.static M.1)
    | 3 => av_inN q.2.2.2.2.2.1 (Cond.methodLinkNest (av_R q.1) q.2.1 M.1 q.2.2.2.2.1) && av_inT q.2.2.2.2.2.2.1 (Cond.static M.1)
    | 4 => av_inT q.2.2.2.2.2.1 (Cond.methodLink (av_R q.1) q.2.1 M.1) && av_inT q.2.2.2.2.2.2.1 (Cond.instanceMethod M.1) && (M.1.name == "<init>") && decide (M.2.2.2.1 = none)
    | 5 => av_inN q.2.2.2.2.2.1 (Cond.methodLinkNest (av_R q.1) q.2.1 M.1 q.2.2.2.2.1) && av_inT q.2.2.2.2.2.2.1 (Cond.instanceMethod M.1) && (M.1.name == "<init>") && decide (M.2.2.2.1 = none)
    | _ => false)
set_option maxRecDepth 100000 in
theorem av_resL_ok : av_resL.all av_okR = true := by decide +kernel
def av_okF (q : Nat × Nat × Nat × Nat × String × Nat) : Bool :=
  decide (q.2.2.1 < 6) && decide (q.2.2.2.1 < av_N q.2.2.1) && (if q.2.2.2.2.1 = "" then av_inT q.2.2.2.2.2 (Cond.fieldLink (av_R q.1) q.2.1 (av_T q.2.2.1 q.2.2.2.1).1 (av_T q.2.2.1 q.2.2.2.1).2.1 (av_T q.2.2.1 q.2.2.2.1).2.2.1) else av_inN q.2.2.2.2.2 (Cond.fieldLinkNest (av_R q.1) q.2.1 (av_T q.2.2.1 q.2.2.2.1).1 (av_T q.2.2.1 q.2.2.2.1).2.1 (av_T q.2.2.1 q.2.2.2.1).2.2.1 q.2.2.2.2.1))
set_option maxRecDepth 100000 in
theorem av_fldL_ok : av_fldL.all av_okF = true := by decide +kernel
def av_inA (w : Cond) : Bool := decide (w ∈ lw_tbl) && goodWord w
theorem av_inA_ws {w : Cond} (h : av_inA w = true) : w ∈ av_ws := by
  simp only [av_inA, Bool.and_eq_true, decide_eq_true_eq] at h
  exact List.mem_filter.mpr h
set_option maxRecDepth 100000 in
theorem av_clsL_ok : av_clsL.all (fun q => decide (q.2.2 < 6) && av_inA (Cond.classLink (av_R q.1) q.2.1 (av_R q.2.2)) && av_inA (Cond.instantiable (av_R q.2.2) (av_N q.2.2)) && av_inA (Cond.initialized (av_R q.2.2))) = true := by decide +kernel
set_option maxRecDepth 100000 in
theorem av_kiL_ok : av_kiL.all (fun q => av_inA (Cond.constant (av_R q.1) q.2.1 q.2.2)) = true := by decide +kernel
set_option maxRecDepth 100000 in
theorem av_klL_ok : av_klL.all (fun q => av_inA (Cond.constantLong (av_R q.1) q.2.1 q.2.2)) = true := by decide +kernel
set_option maxRecDepth 100000 in
theorem av_objL_ok : av_objL.all (fun q => av_inA (Cond.methodLink (av_R q.1) q.2 Jvm.Lib.objectInit)) = true := by decide +kernel
set_option maxRecDepth 100000 in
theorem av_obj_ok : av_inA (Cond.instanceMethod Jvm.Lib.objectInit) = true ∧ av_inA (Cond.code Jvm.Lib.objectInit ⟨#[0xb1]⟩ 1 none) = true := by decide +kernel
set_option maxRecDepth 100000 in
theorem av_mmL_ok : av_mmL.all (fun q => av_inT q.2.2.2.1 (Cond.methodLink (av_R q.1) q.2.1 (if q.2.2.1 then Lib.Math.max.name else Lib.Math.min.name)) && av_inT q.2.2.2.2.1 (Cond.static (if q.2.2.1 then Lib.Math.max.name else Lib.Math.min.name)) && av_inT q.2.2.2.2.2.1 (Cond.code (if q.2.2.1 then Lib.Math.max.name else Lib.Math.min.name) (if q.2.2.1 then Lib.Math.max.code else Lib.Math.min.code) 2 (some .int)) && av_inT q.2.2.2.2.2.2 (Cond.initialized "java/lang/Math")) = true := by decide +kernel
set_option maxRecDepth 100000 in
theorem av_arr_ok : av_inA (Cond.arrayClass .int) = true ∧ av_inA (Cond.arrayClass .char) = true ∧ Cond.arrayOver (.object (av_R 0)) ∈ av_ns := by decide +kernel
set_option maxRecDepth 100000 in
theorem av_lays0 : ∀ ci, ci < 6 → (u_ws (av_R ci) (av_T ci) (av_N ci)).all av_inA = true := by decide +kernel
theorem av_lays (ci : Nat) (h : ci < 6) : ∀ w ∈ u_ws (av_R ci) (av_T ci) (av_N ci), w ∈ av_ws := fun w hw => av_inA_ws (List.all_eq_true.mp (av_lays0 ci h) w hw)
theorem av_cl : ∀ ci, ci < 6 → vwCl[ci]? = some (av_R ci, av_T ci, av_N ci) := by
  intro ci h
  rcases ci with _ | _ | _ | _ | _ | _ | ci
  · rfl
  · rfl
  · rfl
  · rfl
  · rfl
  · rfl
  · omega
theorem av_tys : ∀ ci, ci < 6 → ∀ k, k < av_N ci → parseFieldDescriptor (av_T ci k).2.2.1 = some (av_ty ci k) := by decide +kernel
theorem av_nms : ∀ ci, ci < 6 → ∀ a, a < av_N ci → ∀ b, b < av_N ci → a ≠ b → (av_T ci a).2.1 ≠ (av_T ci b).2.1 := by decide +kernel
theorem av_dfs : ∀ ci, ci < 6 → ∀ k, k < av_N ci → defaultValue (av_ty ci k) = vp_V (av_df ci) k := by decide +kernel
theorem av_dcl : ∀ ci, ci < 6 → ∀ k, k < av_N ci → (av_T ci k).1 = av_R ci := by decide +kernel
theorem av_dfl : ∀ ci, ci < 6 → (av_df ci).length = av_N ci := by decide +kernel
end
section
/-! ===== the machine is sound: what it runs, the JVM runs ===== -/
def av_cv (ad : Nat → Nat) (v : Value) : Value := match v with
  | .ref k => .ref (ad k)
  | x => x
/-- two tables of addresses agree on the first n cells and on the script -/
def av_agr (n : Nat) (ad ad2 : Nat → Nat) : Prop := ∀ k, k < n ∨ k = av_scr → ad2 k = ad k
def av_cA (ad : Nat → Nat) (a : vp_A) : vp_A := (a.1, match a.2 with
  | .inr (.inr (.inr (.inr f))) => .inr (.inr (.inr (.inr (fun j => if j < a.1 then (f j).map ad else none))))
  | x => x)
def av_cE (ad : Nat → Nat) (kk : Nat → ClassId) (e : av_E) : va_E := match e with
  | .inl q => .inl (kk q.1, av_cA ad q.2)
  | .inr q => .inr (q.1, q.2.map (av_cv ad))
def av_cW (ad : Nat → Nat) (kk : Nat → ClassId) (w : av_W) : va_W := (List.range w.1).map (fun k => (ad k, av_cE ad kk (w.2.2 k)))
theorem av_cW_len (ad : Nat → Nat) (kk : Nat → ClassId) (w : av_W) : (av_cW ad kk w).length = w.1 := by simp [av_cW]
theorem av_cW_get {ad : Nat → Nat} {kk : Nat → ClassId} {w : av_W} {k : Nat} (h : k < w.1) : (av_cW ad kk w)[k]? = some (ad k, av_cE ad kk (w.2.2 k)) := by
  simp [av_cW, h]
theorem av_cW_out {ad : Nat → Nat} {kk : Nat → ClassId} {w : av_W} {k : Nat} (h : ¬ k < w.1) : (av_cW ad kk w)[k]? = none := by
  simp [av_cW]; omega
theorem av_cW_set {ad : Nat → Nat} {kk : Nat → ClassId} {w : av_W} {k z : Nat} {e : av_E} (h : k < w.1) : (av_cW ad kk w).set k (ad k, av_cE ad kk e) = av_cW ad kk (w.1, z, av_up w.2.2 k e) := by
  apply List.ext_getElem?
  intro j
  by_cases hj : j < w.1
  · rw [av_cW_get (w := (w.1, z, av_up w.2.2 k e)) hj]
    by_cases hk : j = k
    · subst hk
      rw [List.getElem?_set_self (by rw [av_cW_len]; exact hj)]
      simp [av_up]
    · rw [List.getElem?_set_ne (fun q => hk q.symm), av_cW_get hj]
      simp [av_up, hk]
  · rw [av_cW_out (w := (w.1, z, av_up w.2.2 k e)) hj]
    by_cases hk : j = k
    · exact absurd (hk ▸ h) hj
    · rw [List.getElem?_set_ne (fun q => hk q.symm), av_cW_out hj]
theorem av_cv_ext {ad ad2 : Nat → Nat} {n : Nat} (h : av_agr n ad ad2) {v : Value} (hv : av_wv n v = true) : av_cv ad2 v = av_cv ad v := by
  cases v with
  | ref k =>
    have hk : k < n ∨ k = av_scr := by simpa [av_wv] using hv
    simp [av_cv, h k hk]
  | _ => rfl
theorem av_cvs_ext {ad ad2 : Nat → Nat} {n : Nat} (h : av_agr n ad ad2) {vs : List Value} (hv : vs.all (av_wv n) = true) : vs.map (av_cv ad2) = vs.map (av_cv ad) := by
  apply List.map_congr_left
  intro v hv2
  exact av_cv_ext h (List.all_eq_true.mp hv v hv2)
/-- cells keep their picture under more addresses -/
theorem av_cE_ext {ad ad2 : Nat → Nat} {kk : Nat → ClassId} {n : Nat} (h : av_agr n ad ad2) {e : av_E} (he : av_we n e = true) : av_cE ad2 kk e = av_cE ad kk e := by
  match e with
  | .inr (ci, fs) =>
    simp only [av_cE]
    rw [av_cvs_ext h (by simpa [av_we] using he)]
  | .inl (t, k, .inl f) => rfl
  | .inl (t, k, .inr (.inl f)) => rfl
  | .inl (t, k, .inr (.inr (.inl f))) => rfl
  | .inl (t, k, .inr (.inr (.inr (.inl f)))) => rfl
  | .inl (t, k, .inr (.inr (.inr (.inr f)))) =>
    simp only [av_cE, av_cA]
    have hf : (fun j => if j < k then (f j).map ad2 else none) = (fun j => if j < k then (f j).map ad else none) := by
      funext j
      by_cases hj : j < k
      · rw [if_pos hj, if_pos hj]
        have h1 := List.all_eq_true.mp (by simpa only [av_we] using he) j (List.mem_range.mpr hj)
        cases hf : f j with
        | none => rfl
        | some r =>
          rw [hf] at h1
          have hr : r < n := by simpa using h1
          simp [h r (Or.inl hr)]
      · rw [if_neg hj, if_neg hj]
    rw [hf]
theorem av_cW_ext {ad ad2 : Nat → Nat} {kk : Nat → ClassId} {w : av_W} (h : av_agr w.1 ad ad2) (hw : av_ww w = true) : av_cW ad2 kk w = av_cW ad kk w := by
  unfold av_cW
  apply List.map_congr_left
  intro k hk
  have hk2 : k < w.1 := List.mem_range.mp hk
  rw [h k (Or.inl hk2), av_cE_ext h (List.all_eq_true.mp hw k hk)]
theorem av_agr_new {ad : Nat → Nat} {n q : Nat} (h : n < 1000) : av_agr n ad (fun k => if k = n then q else ad k) := fun k hk => if_neg (by unfold av_scr at hk; omega)
theorem av_cW_app {ad : Nat → Nat} {kk : Nat → ClassId} {w : av_W} {z q : Nat} {e : av_E} {e2 : va_E} (h1000 : w.1 < 1000) (hw : av_ww w = true) (he : av_cE (fun k => if k = w.1 then q else ad k) kk e = e2) : av_cW (fun k => if k = w.1 then q else ad k) kk (w.1 + 1, z, av_up w.2.2 w.1 e) = av_cW ad kk w ++ [(q, e2)] := by
  have hx : av_agr w.1 ad (fun k => if k = w.1 then q else ad k) := av_agr_new h1000
  rw [← av_cW_ext hx hw]
  unfold av_cW
  show (List.range (w.1 + 1)).map _ = _
  rw [List.range_succ, List.map_append]
  congr 1
  · apply List.map_congr_left
    intro k hk
    have hk2 : k < w.1 := List.mem_range.mp hk
    simp [av_up, Nat.ne_of_lt hk2]
  · simp [av_up, ← he]
def av_as (ad : Nat → Nat) (ls : av_L) : List (Nat × Value) := (List.range ls.length).filterMap (fun i => match ls[i]? with
  | some (some v) => some (i, av_cv ad v)
  | _ => none)
theorem av_as_mem {ad : Nat → Nat} {ls : av_L} {i : Nat} {x : Value} : (i, x) ∈ av_as ad ls ↔ ∃ v, ls[i]? = some (some v) ∧ av_cv ad v = x := by
  unfold av_as
  rw [List.mem_filterMap]
  constructor
  · rintro ⟨j, hj, h⟩
    split at h
    · rename_i v hv
      cases h
      exact ⟨v, hv, rfl⟩
    · cases h
  · rintro ⟨v, hv, rfl⟩
    refine ⟨i, List.mem_range.mpr (List.getElem?_eq_some_iff.mp hv).1, ?_⟩
    rw [hv]
def av_LH (ad : Nat → Nat) (LS : Array Slot) (nL : Nat) (ls : av_L) : Prop := ls.length = nL ∧ lv_has LS nL (av_as ad ls)
theorem av_LH.get {ad : Nat → Nat} {LS : Array Slot} {nL : Nat} {ls : av_L} (h : av_LH ad LS nL ls) {i : Nat} {v : Value} (hv : ls[i]? = some (some v)) : LS[i]? = some (.val (av_cv ad v)) := h.2.2.2 (i, av_cv ad v) (av_as_mem.mpr ⟨v, hv, rfl⟩)
theorem av_cat (ad : Nat → Nat) (v : Value) : (av_cv ad v).category = v.category := by cases v <;> rfl
theorem av_cats (ad : Nat → Nat) (vs : List Value) : ((vs.map (av_cv ad)).map (fun v => v.category)).sum = (vs.map (fun v => v.category)).sum := by
  rw [List.map_map]
  congr 1
  apply List.map_congr_left
  intro v _
  exact av_cat ad v
theorem av_LH.set {ad : Nat → Nat} {LS LS2 : Array Slot} {nL : Nat} {ls ls2 : av_L} {i : Nat} {v : Value} (h : av_LH ad LS nL ls) (hs : av_sto ls i v = some ls2) (h2 : lv_has LS2 nL ((i, av_cv ad v) :: (av_as ad ls).filter (fun q => !(q.1 == i) && !(q.1 + 1 == i && q.2.category == 2)))) : av_LH ad LS2 nL ls2 := by
  unfold av_sto at hs
  split at hs
  · rename_i hc
    cases hs
    refine ⟨by simp [h.1], h2.1, h2.2.1, ?_⟩
    rintro ⟨j, x⟩ hq
    obtain ⟨u, hu, rfl⟩ := av_as_mem.mp hq
    apply h2.2.2 (j, av_cv ad u)
    by_cases hj : j = i
    · subst hj
      rw [List.getElem?_set_self hc.1] at hu
      cases hu
      exact List.mem_cons_self
    · rw [List.getElem?_set_ne (fun q => hj q.symm)] at hu
      refine List.mem_cons_of_mem _ (List.mem_filter.mpr ⟨av_as_mem.mpr ⟨u, hu, rfl⟩, ?_⟩)
      have hp := hc.2
      by_cases hji : j + 1 = i
      · subst hji
        simp only [av_prev, hu] at hp
        simp [av_cat]
        simpa using hp
      · simp [hj, hji]
  · cases hs
theorem av_sto_lt {ls ls2 : av_L} {i : Nat} {v : Value} (hs : av_sto ls i v = some ls2) : i < ls.length := by
  unfold av_sto at hs
  split at hs
  · rename_i hc
    exact hc.1
  · cases hs
def av_K (D : va_G) (kk : Nat → ClassId) (s : State) : Prop := va_K D vwCl [(kk 0, .int), (kk 1, .char), (kk 2, .object (av_R 0))] s ∧ ∀ w ∈ av_ns, va_Nw w s
/-- the script, where the method is the law's -/
def av_SX (s : State) (A : Nat → Prop) (ad : Nat → Nat) (w : av_W) (M : av_M) : Prop := M.2.2.2.2.1 = 99 → ∃ (t L : Nat) (xs : Nat → Int32), w.2.2 av_scr = .inl (t, L, .inl xs) ∧ va_X (ad av_scr) L xs s s.heap ∧ ad av_scr < s.heap.size ∧ ¬ A (ad av_scr)
def av_Fx (p : Program) (m : MethodId) (c : Code) (s : State) (args : Array Value) (D : va_G) (kk : Nat → ClassId) (meth : Method) (M : av_M) : Prop :=
  p.tables.exec = Jvm.exec ∧ c.code = M.2.1 ∧ c.maxLocals = M.2.2.1 ∧ s.vm.findClass (av_R M.2.2.2.2.1) = some m.cls ∧ (∀ w ∈ av_ws, w.before args s = true) ∧ av_K D kk s ∧ (av_isInit M = true → meth.name = "<init>")
def av_St (D : va_G) (kk : Nat → ClassId) (A : Nat → Prop) (s : State) (ad : Nat → Nat) (w : av_W) (H : Heap) (locs : List Loc) (LS : Array Slot) (nL : Nat) (ls : av_L) : Prop :=
  va_P D vwCl (av_cW ad kk w) H ∧ va_D A (av_cW ad kk w) ∧ va_S A s.heap H locs ∧ av_LH ad LS nL ls
/-- from every state of the JVM that shows this state of the machine -/
def av_go (p : Program) (l : Launch) (e : Env) (R : Room) (s : State) (m : MethodId) (args : Array Value) (below : List Frame) (meth : Method) (c : Code) (D : va_G) (kk : Nat → ClassId) (A : Nat → Prop) (ad : Nat → Nat) (nL cells slots : Nat) (Q : State → Prop) (pc : Nat) (ls : av_L) (st : List Value) (w : av_W) : Prop :=
  ∀ (H : Heap) (locs : List Loc) (LS : Array Slot), av_St D kk A s ad w H locs LS nL ls → W p l e R s m args below meth c H locs cells slots Q (F0 m pc LS (st.map (av_cv ad)))
section AVS
variable {p : Program} {l : Launch} {e : Env} {R : Room} {s : State} {m : MethodId} {args : Array Value} {below : List Frame} {meth : Method} {c : Code} {cells slots : Nat} {Q : State → Prop}
variable {D : va_G} {kk : Nat → ClassId} {A : Nat → Prop} {ad : Nat → Nat} {nL : Nat} {len pc pc2 : Nat} {ls ls2 : av_L} {st st2 : List Value} {w w2 : av_W} {cc : ByteArray}
theorem av_push_ok {n : Nat} {v : Value} (row : len = n → ∀ (H : Heap) (locs : List Loc) (LS : Array Slot) (rest : List Value), av_St D kk A s ad w H locs LS nL ls → W p l e R s m args below meth c H locs cells slots Q (F0 m (pc + n) LS (av_cv ad v :: rest)) → W p l e R s m args below meth c H locs cells slots Q (F0 m pc LS rest)) (hs : av_push n len pc ls v st w = some (pc2, ls2, st2, w2)) (k : av_go p l e R s m args below meth c D kk A ad nL cells slots Q pc2 ls2 st2 w2) : av_go p l e R s m args below meth c D kk A ad nL cells slots Q pc ls st w := by
  unfold av_push at hs
  split at hs
  · rename_i hl
    cases hs
    intro H locs LS X
    exact row hl H locs LS _ X (k H locs LS X)
  · cases hs
theorem av_ild_ok {n i : Nat} (row : len = n → ∀ (H : Heap) (locs : List Loc) (LS : Array Slot) (rest : List Value) (x : Int32), LS[i]? = some (.val (.int x)) → W p l e R s m args below meth c H locs cells slots Q (F0 m (pc + n) LS (.int x :: rest)) → W p l e R s m args below meth c H locs cells slots Q (F0 m pc LS rest)) (hs : av_ild n i len pc ls st w = some (pc2, ls2, st2, w2)) (k : av_go p l e R s m args below meth c D kk A ad nL cells slots Q pc2 ls2 st2 w2) : av_go p l e R s m args below meth c D kk A ad nL cells slots Q pc ls st w := by
  unfold av_ild at hs
  split at hs
  · rename_i x hx
    unfold av_push at hs
    split at hs
    · rename_i hl
      cases hs
      intro H locs LS X
      exact row hl H locs LS _ x (X.2.2.2.get hx) (k H locs LS X)
    · cases hs
  · cases hs
theorem av_lld_ok {n i : Nat} (row : len = n → ∀ (H : Heap) (locs : List Loc) (LS : Array Slot) (rest : List Value) (x : Int64), LS[i]? = some (.val (.long x)) → W p l e R s m args below meth c H locs cells slots Q (F0 m (pc + n) LS (.long x :: rest)) → W p l e R s m args below meth c H locs cells slots Q (F0 m pc LS rest)) (hs : av_lld n i len pc ls st w = some (pc2, ls2, st2, w2)) (k : av_go p l e R s m args below meth c D kk A ad nL cells slots Q pc2 ls2 st2 w2) : av_go p l e R s m args below meth c D kk A ad nL cells slots Q pc ls st w := by
  unfold av_lld at hs
  split at hs
  · rename_i x hx
    unfold av_push at hs
    split at hs
    · rename_i hl
      cases hs
      intro H locs LS X
      exact row hl H locs LS _ x (X.2.2.2.get hx) (k H locs LS X)
    · cases hs
  · cases hs
theorem av_ald_ok {n i : Nat} (row : len = n → ∀ (H : Heap) (locs : List Loc) (LS : Array Slot) (rest : List Value) (x : Nat), LS[i]? = some (.val (.ref (ad x))) → W p l e R s m args below meth c H locs cells slots Q (F0 m (pc + n) LS (.ref (ad x) :: rest)) → W p l e R s m args below meth c H locs cells slots Q (F0 m pc LS rest)) (hs : av_ald n i len pc ls st w = some (pc2, ls2, st2, w2)) (k : av_go p l e R s m args below meth c D kk A ad nL cells slots Q pc2 ls2 st2 w2) : av_go p l e R s m args below meth c D kk A ad nL cells slots Q pc ls st w := by
  unfold av_ald at hs
  split at hs
  · rename_i x hx
    unfold av_push at hs
    split at hs
    · rename_i hl
      cases hs
      intro H locs LS X
      exact row hl H locs LS _ x (X.2.2.2.get hx) (k H locs LS X)
    · cases hs
  · cases hs
theorem av_ist_ok {n i : Nat} (row : len = n → ∀ (H : Heap) (locs : List Loc) (LS : Array Slot) (rest : List Value) (x : Int32), i < nL → lv_has LS nL (av_as ad ls) → (∀ LS2 : Array Slot, lv_has LS2 nL ((i, Value.int x) :: (av_as ad ls).filter (fun q => !(q.1 == i) && !(q.1 + 1 == i && q.2.category == 2))) → W p l e R s m args below meth c H locs cells slots Q (F0 m (pc + n) LS2 rest)) → W p l e R s m args below meth c H locs cells slots Q (F0 m pc LS (.int x :: rest))) (hs : av_ist n i len pc ls st w = some (pc2, ls2, st2, w2)) (k : av_go p l e R s m args below meth c D kk A ad nL cells slots Q pc2 ls2 st2 w2) : av_go p l e R s m args below meth c D kk A ad nL cells slots Q pc ls st w := by
  unfold av_ist at hs
  split at hs
  · split at hs
    · rename_i hl
      rw [Option.map_eq_some_iff] at hs
      obtain ⟨l2, h1, h2⟩ := hs
      cases h2
      intro H locs LS X
      have hi : i < nL := X.2.2.2.1 ▸ av_sto_lt h1
      exact row hl H locs LS _ _ hi X.2.2.2.2 (fun LS2 h2 => k H locs LS2 ⟨X.1, X.2.1, X.2.2.1, X.2.2.2.set h1 h2⟩)
    · cases hs
  · cases hs
theorem av_ast_ok {n i : Nat} (row : len = n → ∀ (H : Heap) (locs : List Loc) (LS : Array Slot) (rest : List Value) (x : Nat), i < nL → lv_has LS nL (av_as ad ls) → (∀ LS2 : Array Slot, lv_has LS2 nL ((i, Value.ref (ad x)) :: (av_as ad ls).filter (fun q => !(q.1 == i) && !(q.1 + 1 == i && q.2.category == 2))) → W p l e R s m args below meth c H locs cells slots Q (F0 m (pc + n) LS2 rest)) → W p l e R s m args below meth c H locs cells slots Q (F0 m pc LS (.ref (ad x) :: rest))) (hs : av_ast n i len pc ls st w = some (pc2, ls2, st2, w2)) (k : av_go p l e R s m args below meth c D kk A ad nL cells slots Q pc2 ls2 st2 w2) : av_go p l e R s m args below meth c D kk A ad nL cells slots Q pc ls st w := by
  unfold av_ast at hs
  split at hs
  · split at hs
    · rename_i hl
      rw [Option.map_eq_some_iff] at hs
      obtain ⟨l2, h1, h2⟩ := hs
      cases h2
      intro H locs LS X
      have hi : i < nL := X.2.2.2.1 ▸ av_sto_lt h1
      exact row hl H locs LS _ _ hi X.2.2.2.2 (fun LS2 h2 => k H locs LS2 ⟨X.1, X.2.1, X.2.2.1, X.2.2.2.set h1 h2⟩)
    · cases hs
  · cases hs
theorem av_iinc_ok (hx : p.tables.exec = Jvm.exec) (hb : c.code = cc) {i : Nat} {n : Int} (hd : decode cc pc = .ok (.iinc i n, len)) (hs : av_iinc i n len pc ls st w = some (pc2, ls2, st2, w2)) (k : av_go p l e R s m args below meth c D kk A ad nL cells slots Q pc2 ls2 st2 w2) : av_go p l e R s m args below meth c D kk A ad nL cells slots Q pc ls st w := by
  unfold av_iinc at hs
  split at hs
  · rename_i x hv
    split at hs
    · rename_i hl
      subst hl
      rw [Option.map_eq_some_iff] at hs
      obtain ⟨l2, h1, h2⟩ := hs
      cases h2
      intro H locs LS X
      have hi : i < nL := X.2.2.2.1 ▸ av_sto_lt h1
      obtain ⟨j, hj⟩ := List.getElem?_of_mem (av_as_mem.mpr ⟨_, hv, rfl⟩ : (i, av_cv ad (.int x)) ∈ av_as ad ls)
      exact lv_iinc hx hb hd X.2.2.2.2 hj rfl hi rfl (fun LS2 h2 => k H locs LS2 ⟨X.1, X.2.1, X.2.2.1, X.2.2.2.set h1 h2⟩)
    · cases hs
  · cases hs
theorem av_bin_ok {f : Int32 → Int32 → Int32} (row : len = 1 → ∀ (H : Heap) (locs : List Loc) (LS : Array Slot) (rest : List Value) (x y : Int32), W p l e R s m args below meth c H locs cells slots Q (F0 m (pc + 1) LS (.int (f x y) :: rest)) → W p l e R s m args below meth c H locs cells slots Q (F0 m pc LS (.int y :: .int x :: rest))) (hs : av_bin f len pc ls st w = some (pc2, ls2, st2, w2)) (k : av_go p l e R s m args below meth c D kk A ad nL cells slots Q pc2 ls2 st2 w2) : av_go p l e R s m args below meth c D kk A ad nL cells slots Q pc ls st w := by
  unfold av_bin at hs
  split at hs
  · unfold av_push at hs
    split at hs
    · rename_i hl
      cases hs
      intro H locs LS X
      exact row hl H locs LS _ _ _ (k H locs LS X)
    · cases hs
  · cases hs
theorem av_div_ok {f : Int32 → Int32 → Int32} (row : len = 1 → ∀ (H : Heap) (locs : List Loc) (LS : Array Slot) (rest : List Value) (x y : Int32), ¬ y = 0 → W p l e R s m args below meth c H locs cells slots Q (F0 m (pc + 1) LS (.int (f x y) :: rest)) → W p l e R s m args below meth c H locs cells slots Q (F0 m pc LS (.int y :: .int x :: rest))) (hs : av_div f len pc ls st w = some (pc2, ls2, st2, w2)) (k : av_go p l e R s m args below meth c D kk A ad nL cells slots Q pc2 ls2 st2 w2) : av_go p l e R s m args below meth c D kk A ad nL cells slots Q pc ls st w := by
  unfold av_div at hs
  split at hs
  · split at hs
    · cases hs
    · rename_i hy
      unfold av_push at hs
      split at hs
      · rename_i hl
        cases hs
        intro H locs LS X
        exact row hl H locs LS _ _ _ hy (k H locs LS X)
      · cases hs
  · cases hs
theorem av_lbin_ok {f : Int64 → Int64 → Value} (row : len = 1 → ∀ (H : Heap) (locs : List Loc) (LS : Array Slot) (rest : List Value) (x y : Int64), W p l e R s m args below meth c H locs cells slots Q (F0 m (pc + 1) LS (av_cv ad (f x y) :: rest)) → W p l e R s m args below meth c H locs cells slots Q (F0 m pc LS (.long y :: .long x :: rest))) (hs : av_lbin f len pc ls st w = some (pc2, ls2, st2, w2)) (k : av_go p l e R s m args below meth c D kk A ad nL cells slots Q pc2 ls2 st2 w2) : av_go p l e R s m args below meth c D kk A ad nL cells slots Q pc ls st w := by
  unfold av_lbin at hs
  split at hs
  · unfold av_push at hs
    split at hs
    · rename_i hl
      cases hs
      intro H locs LS X
      exact row hl H locs LS _ _ _ (k H locs LS X)
    · cases hs
  · cases hs
theorem av_un_ok {f : Int32 → Value} (row : len = 1 → ∀ (H : Heap) (locs : List Loc) (LS : Array Slot) (rest : List Value) (x : Int32), W p l e R s m args below meth c H locs cells slots Q (F0 m (pc + 1) LS (av_cv ad (f x) :: rest)) → W p l e R s m args below meth c H locs cells slots Q (F0 m pc LS (.int x :: rest))) (hs : av_un f len pc ls st w = some (pc2, ls2, st2, w2)) (k : av_go p l e R s m args below meth c D kk A ad nL cells slots Q pc2 ls2 st2 w2) : av_go p l e R s m args below meth c D kk A ad nL cells slots Q pc ls st w := by
  unfold av_un at hs
  split at hs
  · unfold av_push at hs
    split at hs
    · rename_i hl
      cases hs
      intro H locs LS X
      exact row hl H locs LS _ _ (k H locs LS X)
    · cases hs
  · cases hs
theorem av_tgt_ok {off : Int} {k : Nat → av_N1} {r : Nat × av_L × List Value × av_W} (h : av_tgt pc off k = some r) : ∃ tgt : Nat, (pc : Int) + off = (tgt : Int) ∧ k tgt = some r := by
  unfold av_tgt at h
  split at h
  · rename_i h0
    exact ⟨_, by omega, h⟩
  · cases h
theorem av_if1_ok {cnd : Int32 → Prop} {dc : ∀ x, Decidable (cnd x)} {off : Int} (row : len = 3 → ∀ (H : Heap) (locs : List Loc) (LS : Array Slot) (rest : List Value) (x : Int32) (tgt : Nat), (pc : Int) + off = (tgt : Int) → (cnd x → W p l e R s m args below meth c H locs cells slots Q (F0 m tgt LS rest)) → (¬ cnd x → W p l e R s m args below meth c H locs cells slots Q (F0 m (pc + 3) LS rest)) → W p l e R s m args below meth c H locs cells slots Q (F0 m pc LS (.int x :: rest))) (hs : av_if1 cnd off len pc ls st w = some (pc2, ls2, st2, w2)) (k : av_go p l e R s m args below meth c D kk A ad nL cells slots Q pc2 ls2 st2 w2) : av_go p l e R s m args below meth c D kk A ad nL cells slots Q pc ls st w := by
  unfold av_if1 at hs
  split at hs
  · unfold av_ifs at hs
    split at hs
    · rename_i x rest hl
      obtain ⟨tgt, ht, hk⟩ := av_tgt_ok hs
      cases hk
      intro H locs LS X
      refine row hl H locs LS _ x tgt ht (fun h => ?_) (fun h => ?_)
      · have q := k H locs LS X
        rw [if_pos h] at q
        exact q
      · have q := k H locs LS X
        rw [if_neg h] at q
        exact q
    · cases hs
  · cases hs
theorem av_if2_ok {cnd : Int32 → Int32 → Prop} {dc : ∀ x y, Decidable (cnd x y)} {off : Int} (row : len = 3 → ∀ (H : Heap) (locs : List Loc) (LS : Array Slot) (rest : List Value) (x y : Int32) (tgt : Nat), (pc : Int) + off = (tgt : Int) → (cnd x y → W p l e R s m args below meth c H locs cells slots Q (F0 m tgt LS rest)) → (¬ cnd x y → W p l e R s m args below meth c H locs cells slots Q (F0 m (pc + 3) LS rest)) → W p l e R s m args below meth c H locs cells slots Q (F0 m pc LS (.int y :: .int x :: rest))) (hs : av_if2 cnd off len pc ls st w = some (pc2, ls2, st2, w2)) (k : av_go p l e R s m args below meth c D kk A ad nL cells slots Q pc2 ls2 st2 w2) : av_go p l e R s m args below meth c D kk A ad nL cells slots Q pc ls st w := by
  unfold av_if2 at hs
  split at hs
  · unfold av_ifs at hs
    split at hs
    · rename_i y x rest hl
      obtain ⟨tgt, ht, hk⟩ := av_tgt_ok hs
      cases hk
      intro H locs LS X
      refine row hl H locs LS _ x y tgt ht (fun h => ?_) (fun h => ?_)
      · have q := k H locs LS X
        rw [if_pos h] at q
        exact q
      · have q := k H locs LS X
        rw [if_neg h] at q
        exact q
    · cases hs
  · cases hs
theorem av_tab_ok (hx : p.tables.exec = Jvm.exec) (hb : c.code = cc) {dflt lo hi : Int} {offs : Array Int} (hd : decode cc pc = .ok (.tableswitch dflt lo hi offs, len)) (hs : av_tab dflt lo hi offs pc ls st w = some (pc2, ls2, st2, w2)) (k : av_go p l e R s m args below meth c D kk A ad nL cells slots Q pc2 ls2 st2 w2) : av_go p l e R s m args below meth c D kk A ad nL cells slots Q pc ls st w := by
  unfold av_tab at hs
  split at hs
  · split at hs
    · rename_i ho
      obtain ⟨tgt, ht, hk⟩ := av_tgt_ok hs
      cases hk
      intro H locs LS X
      exact lv_tableOut hx hb hd ho ht (k H locs LS X)
    · rename_i ho
      split at hs
      · rename_i off hoff
        obtain ⟨tgt, ht, hk⟩ := av_tgt_ok hs
        cases hk
        intro H locs LS X
        exact lv_tableIn hx hb hd (fun q => ho (Or.inl q)) (fun q => ho (Or.inr q)) hoff ht (k H locs LS X)
      · cases hs
  · cases hs
theorem av_fld_ok {own i ci k : Nat} {h : String} (hf : av_fld own i = some (ci, k, h)) : ci < 6 ∧ k < av_N ci ∧ (if h = "" then Cond.fieldLink (av_R own) i (av_T ci k).1 (av_T ci k).2.1 (av_T ci k).2.2.1 ∈ av_ws else Cond.fieldLinkNest (av_R own) i (av_T ci k).1 (av_T ci k).2.1 (av_T ci k).2.2.1 h ∈ av_ns) := by
  unfold av_fld at hf
  rw [Option.map_eq_some_iff] at hf
  obtain ⟨q, h1, h2⟩ := hf
  have h3 := List.find?_some h1
  have h4 := List.all_eq_true.mp av_fldL_ok q (List.mem_of_find?_eq_some h1)
  obtain ⟨o, j, c2, k2, hh, pp⟩ := q
  cases h2
  simp only [Bool.and_eq_true, beq_iff_eq] at h3
  obtain ⟨rfl, rfl⟩ := h3
  simp only [av_okF, Bool.and_eq_true, decide_eq_true_eq] at h4
  refine ⟨h4.1.1, h4.1.2, ?_⟩
  have h5 := h4.2
  by_cases hz : hh = ""
  · rw [if_pos hz] at h5 ⊢
    exact av_inT_ws h5
  · rw [if_neg hz] at h5 ⊢
    exact av_inN_ns h5
theorem av_cls_ok {own i ci : Nat} (hf : av_cls own i = some ci) : ci < 6 ∧ Cond.classLink (av_R own) i (av_R ci) ∈ av_ws ∧ Cond.instantiable (av_R ci) (av_N ci) ∈ av_ws ∧ Cond.initialized (av_R ci) ∈ av_ws := by
  unfold av_cls at hf
  rw [Option.map_eq_some_iff] at hf
  obtain ⟨q, h1, h2⟩ := hf
  have h3 := List.find?_some h1
  have h4 := List.all_eq_true.mp av_clsL_ok q (List.mem_of_find?_eq_some h1)
  obtain ⟨o, j, c2⟩ := q
  cases h2
  simp only [Bool.and_eq_true, beq_iff_eq] at h3
  obtain ⟨rfl, rfl⟩ := h3
  simp only [Bool.and_eq_true, decide_eq_true_eq] at h4
  exact ⟨h4.1.1.1, av_inA_ws h4.1.1.2, av_inA_ws h4.1.2, av_inA_ws h4.2⟩
theorem av_ki_ok {own i : Nat} {v : Int32} (hf : av_ki own i = some v) : Cond.constant (av_R own) i v ∈ av_ws := by
  unfold av_ki at hf
  rw [Option.map_eq_some_iff] at hf
  obtain ⟨q, h1, h2⟩ := hf
  have h3 := List.find?_some h1
  have h4 := List.all_eq_true.mp av_kiL_ok q (List.mem_of_find?_eq_some h1)
  obtain ⟨o, j, c2⟩ := q
  cases h2
  simp only [Bool.and_eq_true, beq_iff_eq] at h3
  obtain ⟨rfl, rfl⟩ := h3
  exact av_inA_ws h4
theorem av_kl_ok {own i : Nat} {v : Int64} (hf : av_kl own i = some v) : Cond.constantLong (av_R own) i v ∈ av_ws := by
  unfold av_kl at hf
  rw [Option.map_eq_some_iff] at hf
  obtain ⟨q, h1, h2⟩ := hf
  have h3 := List.find?_some h1
  have h4 := List.all_eq_true.mp av_klL_ok q (List.mem_of_find?_eq_some h1)
  obtain ⟨o, j, c2⟩ := q
  cases h2
  simp only [Bool.and_eq_true, beq_iff_eq] at h3
  obtain ⟨rfl, rfl⟩ := h3
  exact av_inA_ws h4
theorem av_mm_ok {own i : Nat} {b : Bool} (hf : av_mm own i = some b) : Cond.methodLink (av_R own) i (if b then Lib.Math.max.name else Lib.Math.min.name) ∈ av_ws ∧ Cond.static (if b then Lib.Math.max.name else Lib.Math.min.name) ∈ av_ws ∧ Cond.code (if b then Lib.Math.max.name else Lib.Math.min.name) (if b then Lib.Math.max.code else Lib.Math.min.code) 2 (some .int) ∈ av_ws ∧ Cond.initialized "java/lang/Math" ∈ av_ws := by
  unfold av_mm at hf
  rw [Option.map_eq_some_iff] at hf
  obtain ⟨q, h1, h2⟩ := hf
  have h3 := List.find?_some h1
  have h4 := List.all_eq_true.mp av_mmL_ok q (List.mem_of_find?_eq_some h1)
  obtain ⟨o, j, c2, p1, p2, p3, p4⟩ := q
  cases h2
  simp only [Bool.and_eq_true, beq_iff_eq] at h3
  obtain ⟨rfl, rfl⟩ := h3
  simp only [Bool.and_eq_true] at h4
  exact ⟨av_inT_ws h4.1.1.1, av_inT_ws h4.1.1.2, av_inT_ws h4.1.2, av_inT_ws h4.2⟩
theorem av_getf_ok {M : av_M} (Fx : av_Fx p m c s args D kk meth M) {i : Nat} (hd : decode M.2.1 pc = .ok (.getfield i, len)) (hs : av_getf M.2.2.2.2.1 i len pc ls st w = some (pc2, ls2, st2, w2)) (k : av_go p l e R s m args below meth c D kk A ad M.2.2.1 cells slots Q pc2 ls2 st2 w2) : av_go p l e R s m args below meth c D kk A ad M.2.2.1 cells slots Q pc ls st w := by
  obtain ⟨hx, hb, hml, hown, hts, hK, hnm⟩ := Fx
  unfold av_getf at hs
  split at hs
  case h_2 => cases hs
  case h_1 =>
  rename_i a rest
  split at hs
  case isFalse => cases hs
  case isTrue h0 =>
  obtain ⟨ha, rfl⟩ := h0
  split at hs
  case h_2 => cases hs
  case h_1 =>
  rename_i ci kf hh hf
  obtain ⟨f1, f2, f3⟩ := av_fld_ok hf
  split at hs
  case h_2 => cases hs
  case h_1 =>
  rename_i c2 fs hc
  split at hs
  case isFalse => cases hs
  case isTrue hci =>
  subst hci
  split at hs
  case h_2 => cases hs
  case h_1 =>
  rename_i v hv
  cases hs
  intro H locs LS X
  have he := av_cW_get (ad := ad) (kk := kk) ha
  rw [hc] at he
  have hv2 : (fs.map (av_cv ad))[kf]? = some (av_cv ad v) := by rw [List.getElem?_map, hv]; rfl
  by_cases hz : hh = ""
  · rw [if_pos hz] at f3
    exact va_get (ws := av_cW ad kk w) hx hb hts (av_lays c2 f1) hown hK.1 X.1 a he (av_cl c2 f1) kf f2 (hts _ f3) (fun _ q => q) hv2 hd (k H locs LS X)
  · rw [if_neg hz] at f3
    exact va_getN (ws := av_cW ad kk w) hx hb hts (av_lays c2 f1) hown hK.1 X.1 a he (av_cl c2 f1) kf f2 (va_Nw.use rfl (hK.2 _ f3)) (fun _ q => q) hv2 hd (k H locs LS X)
theorem av_fit_ok {ty : FieldType} {v : Value} (ad : Nat → Nat) (h : av_fit ty v = true) : narrow ty (av_cv ad v) = av_cv ad v ∧ fits ty (av_cv ad v) = true := by
  unfold av_fit at h
  split at h
  · exact ⟨rfl, rfl⟩
  · rename_i x
    have hx : x = 0 ∨ x = 1 := by simpa using h
    rcases hx with rfl | rfl
    · exact ⟨(by decide +kernel : narrow .boolean (.int 0) = .int 0), (by decide +kernel : fits .boolean (.int 0) = true)⟩
    · exact ⟨(by decide +kernel : narrow .boolean (.int 1) = .int 1), (by decide +kernel : fits .boolean (.int 1) = true)⟩
  · rename_i x
    simp only [Bool.and_eq_true, decide_eq_true_eq] at h
    obtain ⟨q, hq, rfl⟩ := nI_of h.1
    have h2 : q ≤ 65535 := by
      have h3 : nI q ≤ nI 65535 := h.2
      exact (nI_leI hq (by decide)).mp h3
    exact pk_charN (by omega)
  · exact ⟨rfl, rfl⟩
  · exact ⟨rfl, rfl⟩
  · cases h
theorem av_putf_ok {M : av_M} (Fx : av_Fx p m c s args D kk meth M) {i : Nat} (hd : decode M.2.1 pc = .ok (.putfield i, len)) (hs : av_putf M.2.2.2.2.1 (av_isInit M) i len pc ls st w = some (pc2, ls2, st2, w2)) (k : av_go p l e R s m args below meth c D kk A ad M.2.2.1 cells slots Q pc2 ls2 st2 w2) : av_go p l e R s m args below meth c D kk A ad M.2.2.1 cells slots Q pc ls st w := by
  obtain ⟨hx, hb, hml, hown, hts, hK, hnm⟩ := Fx
  unfold av_putf at hs
  split at hs
  case h_2 => cases hs
  case h_1 =>
  rename_i v a rest
  split at hs
  case isFalse => cases hs
  case isTrue h0 =>
  obtain ⟨ha, rfl⟩ := h0
  split at hs
  case h_2 => cases hs
  case h_1 =>
  rename_i ci kf hh hf
  obtain ⟨f1, f2, f3⟩ := av_fld_ok hf
  split at hs
  case h_2 => cases hs
  case h_1 =>
  rename_i c2 fs hc
  split at hs
  case isFalse => cases hs
  case isTrue hci =>
  obtain ⟨rfl, hlen, hfit, hfin⟩ := hci
  cases hs
  intro H locs LS X
  have he := av_cW_get (ad := ad) (kk := kk) ha
  rw [hc] at he
  obtain ⟨hn, hft⟩ := av_fit_ok ad hfit
  have hl2 : kf < (fs.map (av_cv ad)).length := by rw [List.length_map]; exact hlen
  have hset : (av_cW ad kk w).set a (ad a, .inr (c2, (fs.map (av_cv ad)).set kf (av_cv ad v))) = av_cW ad kk (w.1, w.2.1, av_up w.2.2 a (.inr (c2, fs.set kf v))) := by
    rw [← av_cW_set ha]
    simp only [av_cE, List.map_set]
  have kgo : ∀ (H1 : Heap) (locs1 : List Loc), va_P D vwCl ((av_cW ad kk w).set a (ad a, .inr (c2, (fs.map (av_cv ad)).set kf (av_cv ad v)))) H1 → va_D A ((av_cW ad kk w).set a (ad a, .inr (c2, (fs.map (av_cv ad)).set kf (av_cv ad v)))) → va_S A s.heap H1 locs1 → W p l e R s m args below meth c H1 locs1 cells slots Q (F0 m (pc + 3) LS (st2.map (av_cv ad))) := fun H1 locs1 h1 h2 h3 => k H1 locs1 LS ⟨hset ▸ h1, hset ▸ h2, h3, X.2.2.2⟩
  by_cases hz : hh = ""
  · rw [if_pos hz] at f3
    rcases hfin with hfin | ⟨hin, hoc, -⟩
    · exact va_put (ws := av_cW ad kk w) hx hb hts (av_lays c2 f1) (av_ty c2) (av_tys c2 f1) (av_nms c2 f1) hown hK.1 X.1 X.2.1 X.2.2.1 a he (av_cl c2 f1) kf f2 (hts _ f3) (fun _ q => q) hfin (av_tys c2 f1 kf f2) hn hft hl2 hd kgo
    · by_cases hfin : (av_T c2 kf).2.2.2 = false
      · exact va_put (ws := av_cW ad kk w) hx hb hts (av_lays c2 f1) (av_ty c2) (av_tys c2 f1) (av_nms c2 f1) hown hK.1 X.1 X.2.1 X.2.2.1 a he (av_cl c2 f1) kf f2 (hts _ f3) (fun _ q => q) hfin (av_tys c2 f1 kf f2) hn hft hl2 hd kgo
      · have hin2 : meth.name = "<init>" := hnm hin
        exact va_putF (ws := av_cW ad kk w) hx hb hts (av_lays c2 f1) (av_ty c2) (av_tys c2 f1) (av_nms c2 f1) hown hK.1 X.1 X.2.1 X.2.2.1 a he (av_cl c2 f1) kf f2 (hts _ f3) (fun _ q => q) (by simpa using hfin) hin2 (by rw [hoc]; exact av_dcl c2 f1 kf f2) (av_tys c2 f1 kf f2) hn hft hl2 hd kgo
  · rw [if_neg hz] at f3
    rcases hfin with hfin | ⟨-, -, hh0⟩
    · exact va_putN (ws := av_cW ad kk w) hx hb hts (av_lays c2 f1) (av_ty c2) (av_tys c2 f1) (av_nms c2 f1) hown hK.1 X.1 X.2.1 X.2.2.1 a he (av_cl c2 f1) kf f2 (va_Nw.use rfl (hK.2 _ f3)) (fun _ q => q) hfin (av_tys c2 f1 kf f2) hn hft hl2 hd kgo
    · exact absurd hh0 hz
theorem av_inr_ok {i : Int32} {n : Nat} (h : av_inr i n = true) : vp_in i n := by
  simp only [av_inr, Bool.and_eq_true, decide_eq_true_eq] at h
  rintro (q | q)
  · exact h.1 q
  · omega
theorem av_iald_ok {M : av_M} (Fx : av_Fx p m c s args D kk meth M) (hd : decode M.2.1 pc = .ok (.iaload, len)) (hs : av_xald 0 len pc ls st w = some (pc2, ls2, st2, w2)) (k : av_go p l e R s m args below meth c D kk A ad M.2.2.1 cells slots Q pc2 ls2 st2 w2) : av_go p l e R s m args below meth c D kk A ad M.2.2.1 cells slots Q pc ls st w := by
  obtain ⟨hx, hb, hml, hown, hts, hK, hnm⟩ := Fx
  unfold av_xald at hs
  split at hs
  case h_2 => cases hs
  case h_1 =>
  rename_i i a rest
  split at hs
  case h_2 => cases hs
  case h_1 =>
  rename_i t2 n f hc
  split at hs
  case isFalse => cases hs
  case isTrue h0 =>
  obtain ⟨ha, rfl, rfl, hin⟩ := h0
  cases hs
  intro H locs LS X
  have he := av_cW_get (ad := ad) (kk := kk) ha
  rw [hc] at he
  exact va_iald (ws := av_cW ad kk w) hx hb hK.1 X.1 a 0 he rfl (av_inr_ok hin) hd (k H locs LS X)
theorem av_cald_ok {M : av_M} (Fx : av_Fx p m c s args D kk meth M) (hd : decode M.2.1 pc = .ok (.caload, len)) (hs : av_xald 1 len pc ls st w = some (pc2, ls2, st2, w2)) (k : av_go p l e R s m args below meth c D kk A ad M.2.2.1 cells slots Q pc2 ls2 st2 w2) : av_go p l e R s m args below meth c D kk A ad M.2.2.1 cells slots Q pc ls st w := by
  obtain ⟨hx, hb, hml, hown, hts, hK, hnm⟩ := Fx
  unfold av_xald at hs
  split at hs
  case h_2 => cases hs
  case h_1 =>
  rename_i i a rest
  split at hs
  case h_2 => cases hs
  case h_1 =>
  rename_i t2 n f hc
  split at hs
  case isFalse => cases hs
  case isTrue h0 =>
  obtain ⟨ha, rfl, rfl, hin⟩ := h0
  cases hs
  intro H locs LS X
  have he := av_cW_get (ad := ad) (kk := kk) ha
  rw [hc] at he
  exact va_cald (ws := av_cW ad kk w) hx hb hK.1 X.1 a 1 he rfl (av_inr_ok hin) hd (k H locs LS X)
theorem av_iast_ok {M : av_M} (Fx : av_Fx p m c s args D kk meth M) (hd : decode M.2.1 pc = .ok (.iastore, len)) (hs : av_xast (fun x => x) 0 len pc ls st w = some (pc2, ls2, st2, w2)) (k : av_go p l e R s m args below meth c D kk A ad M.2.2.1 cells slots Q pc2 ls2 st2 w2) : av_go p l e R s m args below meth c D kk A ad M.2.2.1 cells slots Q pc ls st w := by
  obtain ⟨hx, hb, hml, hown, hts, hK, hnm⟩ := Fx
  unfold av_xast at hs
  split at hs
  case h_2 => cases hs
  case h_1 =>
  rename_i x i a rest
  split at hs
  case h_2 => cases hs
  case h_1 =>
  rename_i t2 n f hc
  split at hs
  case isFalse => cases hs
  case isTrue h0 =>
  obtain ⟨ha, rfl, rfl, hin⟩ := h0
  cases hs
  intro H locs LS X
  have he := av_cW_get (ad := ad) (kk := kk) ha
  rw [hc] at he
  refine va_iast (ws := av_cW ad kk w) hx hb hK.1 X.1 X.2.1 X.2.2.1 a 0 he rfl (av_inr_ok hin) hd (fun H1 locs1 h1 h2 h3 => k H1 locs1 LS ⟨?_, ?_, h3, X.2.2.2⟩)
  · rw [← av_cW_set ha]
    exact h1
  · rw [← av_cW_set ha]
    exact h2
theorem av_cast_ok {M : av_M} (Fx : av_Fx p m c s args D kk meth M) (hd : decode M.2.1 pc = .ok (.castore, len)) (hs : av_xast (vp_nar .char) 1 len pc ls st w = some (pc2, ls2, st2, w2)) (k : av_go p l e R s m args below meth c D kk A ad M.2.2.1 cells slots Q pc2 ls2 st2 w2) : av_go p l e R s m args below meth c D kk A ad M.2.2.1 cells slots Q pc ls st w := by
  obtain ⟨hx, hb, hml, hown, hts, hK, hnm⟩ := Fx
  unfold av_xast at hs
  split at hs
  case h_2 => cases hs
  case h_1 =>
  rename_i x i a rest
  split at hs
  case h_2 => cases hs
  case h_1 =>
  rename_i t2 n f hc
  split at hs
  case isFalse => cases hs
  case isTrue h0 =>
  obtain ⟨ha, rfl, rfl, hin⟩ := h0
  cases hs
  intro H locs LS X
  have he := av_cW_get (ad := ad) (kk := kk) ha
  rw [hc] at he
  refine va_cast (ws := av_cW ad kk w) hx hb hK.1 X.1 X.2.1 X.2.2.1 a 1 he rfl (av_inr_ok hin) hd (fun H1 locs1 h1 h2 h3 => k H1 locs1 LS ⟨?_, ?_, h3, X.2.2.2⟩)
  · rw [← av_cW_set ha]
    exact h1
  · rw [← av_cW_set ha]
    exact h2
theorem av_rald_ok {M : av_M} (Fx : av_Fx p m c s args D kk meth M) (hd : decode M.2.1 pc = .ok (.aaload, len)) (hs : av_rald len pc ls st w = some (pc2, ls2, st2, w2)) (k : av_go p l e R s m args below meth c D kk A ad M.2.2.1 cells slots Q pc2 ls2 st2 w2) : av_go p l e R s m args below meth c D kk A ad M.2.2.1 cells slots Q pc ls st w := by
  obtain ⟨hx, hb, hml, hown, hts, hK, hnm⟩ := Fx
  unfold av_rald at hs
  split at hs
  case h_2 => cases hs
  case h_1 =>
  rename_i i a rest
  split at hs
  case h_2 => cases hs
  case h_1 =>
  rename_i t2 n f hc
  split at hs
  case isFalse => cases hs
  case isTrue h0 =>
  obtain ⟨ha, rfl, rfl, hin⟩ := h0
  split at hs
  case h_2 => cases hs
  case h_1 =>
  rename_i r hr
  cases hs
  intro H locs LS X
  have he := av_cW_get (ad := ad) (kk := kk) ha
  rw [hc] at he
  have hlt : i.toNatClampNeg < n := by
    simp only [av_inr, Bool.and_eq_true, decide_eq_true_eq] at hin
    exact hin.2
  refine va_aldq (ws := av_cW ad kk w) hx hb hK.1 X.1 a 2 he rfl (av_inr_ok hin) hd ?_
  show W p l e R s m args below meth c H locs cells slots Q (F0 m (pc + 1) LS (va_rf (if i.toNatClampNeg < n then (f i.toNatClampNeg).map ad else none) :: rest.map (av_cv ad)))
  rw [if_pos hlt, hr]
  exact k H locs LS X
theorem av_rast_ok {M : av_M} (Fx : av_Fx p m c s args D kk meth M) (hd : decode M.2.1 pc = .ok (.aastore, len)) (hs : av_rast len pc ls st w = some (pc2, ls2, st2, w2)) (k : av_go p l e R s m args below meth c D kk A ad M.2.2.1 cells slots Q pc2 ls2 st2 w2) : av_go p l e R s m args below meth c D kk A ad M.2.2.1 cells slots Q pc ls st w := by
  obtain ⟨hx, hb, hml, hown, hts, hK, hnm⟩ := Fx
  unfold av_rast at hs
  split at hs
  case h_2 => cases hs
  case h_1 =>
  rename_i v i a rest
  split at hs
  case h_2 => cases hs
  case h_1 =>
  rename_i t2 n f c2 vs hc hv
  split at hs
  case isFalse => cases hs
  case isTrue h0 =>
  obtain ⟨⟨ha, hav⟩, rfl, rfl, rfl, hin⟩ := h0
  cases hs
  intro H locs LS X
  have he := av_cW_get (ad := ad) (kk := kk) ha
  rw [hc] at he
  have hev := av_cW_get (ad := ad) (kk := kk) hav
  rw [hv] at hev
  have hlt : i.toNatClampNeg < n := by
    simp only [av_inr, Bool.and_eq_true, decide_eq_true_eq] at hin
    exact hin.2
  have hf : (va_up (fun j => if j < n then (f j).map ad else none) i.toNatClampNeg (some (ad v))) = (fun j => if j < n then (va_up f i.toNatClampNeg (some v) j).map ad else none) := by
    funext j
    unfold va_up
    by_cases hj : j = i.toNatClampNeg
    · subst hj
      simp [hlt]
    · simp [hj]
  refine va_astq (ws := av_cW ad kk w) hx hb hK.1 X.1 X.2.1 X.2.2.1 a 2 v 0 he rfl hev (av_cl 0 (by omega)) (av_inr_ok hin) hd (fun H1 locs1 h1 h2 h3 => k H1 locs1 LS ⟨?_, ?_, h3, X.2.2.2⟩)
  · rw [hf] at h1
    rw [← av_cW_set ha]
    exact h1
  · rw [hf] at h2
    rw [← av_cW_set ha]
    exact h2
theorem av_alen_ok {M : av_M} (Fx : av_Fx p m c s args D kk meth M) (hd : decode M.2.1 pc = .ok (.arraylength, len)) (hs : av_alen len pc ls st w = some (pc2, ls2, st2, w2)) (k : av_go p l e R s m args below meth c D kk A ad M.2.2.1 cells slots Q pc2 ls2 st2 w2) : av_go p l e R s m args below meth c D kk A ad M.2.2.1 cells slots Q pc ls st w := by
  obtain ⟨hx, hb, hml, hown, hts, hK, hnm⟩ := Fx
  unfold av_alen at hs
  split at hs
  case h_2 => cases hs
  case h_1 =>
  rename_i a rest
  split at hs
  case h_2 => cases hs
  case h_1 =>
  rename_i t2 n f hc
  split at hs
  case isFalse => cases hs
  case isTrue h0 =>
  obtain ⟨ha, rfl, ht⟩ := h0
  cases hs
  intro H locs LS X
  have he := av_cW_get (ad := ad) (kk := kk) ha
  rw [hc] at he
  rcases (show t2 = 0 ∨ t2 = 1 ∨ t2 = 2 by omega) with rfl | rfl | rfl
  · exact va_alen (ws := av_cW ad kk w) hx hb hK.1 X.1 a 0 he rfl rfl hd (k H locs LS X)
  · exact va_alen (ws := av_cW ad kk w) hx hb hK.1 X.1 a 1 he rfl rfl hd (k H locs LS X)
  · exact va_alen (ws := av_cW ad kk w) hx hb hK.1 X.1 a 2 he rfl rfl hd (k H locs LS X)
theorem av_obj_ok2 {M : av_M} (Fx : av_Fx p m c s args D kk meth M) (hR : M.2.2.2.2.2.1 ≤ R.frames ∧ 35 * M.2.2.2.2.2.1 ≤ R.locals) {i : Nat} (hd : decode M.2.1 pc = .ok (.invokespecial i, len)) (hs : av_obj M.2.2.2.2.1 i M.2.2.2.2.2.1 len pc ls st w = some (pc2, ls2, st2, w2)) (k : av_go p l e R s m args below meth c D kk A ad M.2.2.1 cells slots Q pc2 ls2 st2 w2) : av_go p l e R s m args below meth c D kk A ad M.2.2.1 cells slots Q pc ls st w := by
  obtain ⟨hx, hb, hml, hown, hts, hK, hnm⟩ := Fx
  unfold av_obj at hs
  split at hs
  case h_2 => cases hs
  case h_1 =>
  rename_i a
  split at hs
  case isFalse => cases hs
  case isTrue h0 =>
  obtain ⟨hm, rfl, h1⟩ := h0
  cases hs
  intro H locs LS X
  have hlk := List.all_eq_true.mp av_objL_ok _ hm
  refine W.objInit hx hb hown (hts _ (av_inA_ws hlk)) (hts _ (av_inA_ws av_obj_ok.1)) (hts _ (av_inA_ws av_obj_ok.2)) rfl (by rw [hml]; exact X.2.2.2.2.1) rfl hd (by omega) ?_ (k H locs LS X)
  have h9 : (2 * (F0 m pc LS (List.map (av_cv ad) [Value.ref a])).monitorRoom + (([] : List Value).map fun v => v.category).sum) ≤ 8 := lv_room (Nat.le_of_ble_eq_true rfl)
  have h7 : (List.map (fun v => v.category) (List.map (av_cv ad) ([] : List Value))).sum = 0 := rfl
  omega
theorem av_mmx_ok {M : av_M} (Fx : av_Fx p m c s args D kk meth M) (hc0 : cells ≤ R.cells ∧ slots ≤ R.slots) (hR : M.2.2.2.2.2.1 ≤ R.frames ∧ 35 * M.2.2.2.2.2.1 ≤ R.locals) {i : Nat} (hd : decode M.2.1 pc = .ok (.invokestatic i, len)) (hs : av_mmx M.2.2.2.2.1 i M.2.2.2.2.2.1 len pc ls st w = some (pc2, ls2, st2, w2)) (k : av_go p l e R s m args below meth c D kk A ad M.2.2.1 cells slots Q pc2 ls2 st2 w2) : av_go p l e R s m args below meth c D kk A ad M.2.2.1 cells slots Q pc ls st w := by
  obtain ⟨hx, hb, hml, hown, hts, hK, hnm⟩ := Fx
  unfold av_mmx at hs
  split at hs
  case h_2 => cases hs
  case h_1 =>
  rename_i y x rest
  split at hs
  case h_2 => cases hs
  case h_1 =>
  rename_i b hmm
  split at hs
  case isFalse => cases hs
  case isTrue h0 =>
  obtain ⟨rfl, h1, h8⟩ := h0
  cases hs
  intro H locs LS X
  obtain ⟨g1, g2, g3, g4⟩ := av_mm_ok hmm
  have hsum : ((rest.map (av_cv ad)).map (fun v => v.category)).sum + 13 ≤ R.locals := by rw [av_cats]; omega
  cases b with
  | true => exact va_mmax hx hb (by rw [hml]; exact X.2.2.2.2.1.symm) hown (hts _ g1) (hts _ g2) (hts _ g4) (hts _ g3) (by omega) hsum hc0.1 hc0.2 hd (k H locs LS X)
  | false => exact va_mmin hx hb (by rw [hml]; exact X.2.2.2.2.1.symm) hown (hts _ g1) (hts _ g2) (hts _ g4) (hts _ g3) (by omega) hsum hc0.1 hc0.2 hd (k H locs LS X)
theorem av_ldc_ok {M : av_M} (Fx : av_Fx p m c s args D kk meth M) {i : Nat} (hd : decode M.2.1 pc = .ok (.ldc i, len)) (hs : av_ldc M.2.2.2.2.1 i len pc ls st w = some (pc2, ls2, st2, w2)) (k : av_go p l e R s m args below meth c D kk A ad M.2.2.1 cells slots Q pc2 ls2 st2 w2) : av_go p l e R s m args below meth c D kk A ad M.2.2.1 cells slots Q pc ls st w := by
  obtain ⟨hx, hb, hml, hown, hts, hK, hnm⟩ := Fx
  unfold av_ldc at hs
  split at hs
  case h_2 => cases hs
  case h_1 =>
  rename_i v hv
  exact av_push_ok (v := .int v) (fun (hl : len = 2) H locs LS rest X k => lv_ldc hx hb hown (hts _ (av_ki_ok hv)) (hl ▸ hd) k) hs k
theorem av_ldl_ok {M : av_M} (Fx : av_Fx p m c s args D kk meth M) {i : Nat} (hd : decode M.2.1 pc = .ok (.ldc2_w i, len)) (hs : av_ldl M.2.2.2.2.1 i len pc ls st w = some (pc2, ls2, st2, w2)) (k : av_go p l e R s m args below meth c D kk A ad M.2.2.1 cells slots Q pc2 ls2 st2 w2) : av_go p l e R s m args below meth c D kk A ad M.2.2.1 cells slots Q pc ls st w := by
  obtain ⟨hx, hb, hml, hown, hts, hK, hnm⟩ := Fx
  unfold av_ldl at hs
  split at hs
  case h_2 => cases hs
  case h_1 =>
  rename_i v hv
  exact av_push_ok (v := .long v) (fun (hl : len = 3) H locs LS rest X k => lv_ldc2 hx hb hown (hts _ (av_kl_ok hv)) (hl ▸ hd) k) hs k
theorem av_dup_ok {M : av_M} (Fx : av_Fx p m c s args D kk meth M) (hd : decode M.2.1 pc = .ok (.dup, len)) (hs : av_dup len pc ls st w = some (pc2, ls2, st2, w2)) (k : av_go p l e R s m args below meth c D kk A ad M.2.2.1 cells slots Q pc2 ls2 st2 w2) : av_go p l e R s m args below meth c D kk A ad M.2.2.1 cells slots Q pc ls st w := by
  obtain ⟨hx, hb, hml, hown, hts, hK, hnm⟩ := Fx
  unfold av_dup at hs
  split at hs
  case h_2 => cases hs
  case h_1 =>
  split at hs
  case isFalse => cases hs
  case isTrue h0 =>
  obtain ⟨rfl, hc⟩ := h0
  cases hs
  intro H locs LS X
  exact lv_dup hx hb hd (by rw [av_cat]; exact hc) (k H locs LS X)
theorem av_pop_ok {M : av_M} (Fx : av_Fx p m c s args D kk meth M) (hd : decode M.2.1 pc = .ok (.pop, len)) (hs : av_pop len pc ls st w = some (pc2, ls2, st2, w2)) (k : av_go p l e R s m args below meth c D kk A ad M.2.2.1 cells slots Q pc2 ls2 st2 w2) : av_go p l e R s m args below meth c D kk A ad M.2.2.1 cells slots Q pc ls st w := by
  obtain ⟨hx, hb, hml, hown, hts, hK, hnm⟩ := Fx
  unfold av_pop at hs
  split at hs
  case h_2 => cases hs
  case h_1 =>
  split at hs
  case isFalse => cases hs
  case isTrue h0 =>
  obtain ⟨rfl, hc⟩ := h0
  cases hs
  intro H locs LS X
  exact lv_pop hx hb hd (by rw [av_cat]; exact hc) (k H locs LS X)
theorem av_dup2_ok {M : av_M} (Fx : av_Fx p m c s args D kk meth M) (hd : decode M.2.1 pc = .ok (.dup2, len)) (hs : av_dup2 len pc ls st w = some (pc2, ls2, st2, w2)) (k : av_go p l e R s m args below meth c D kk A ad M.2.2.1 cells slots Q pc2 ls2 st2 w2) : av_go p l e R s m args below meth c D kk A ad M.2.2.1 cells slots Q pc ls st w := by
  obtain ⟨hx, hb, hml, hown, hts, hK, hnm⟩ := Fx
  unfold av_dup2 at hs
  split at hs
  case h_2 => cases hs
  case h_1 =>
  split at hs
  case isFalse => cases hs
  case isTrue h0 =>
  obtain ⟨rfl, hc, hc2⟩ := h0
  cases hs
  intro H locs LS X
  exact lv_dup2_11 hx hb hd (by rw [av_cat]; exact hc) (by rw [av_cat]; exact hc2) (k H locs LS X)
theorem av_ifn_ok {M : av_M} (Fx : av_Fx p m c s args D kk meth M) {off : Int} (hd : decode M.2.1 pc = .ok (.ifnull off, len)) (hs : av_ifn len pc ls st w = some (pc2, ls2, st2, w2)) (k : av_go p l e R s m args below meth c D kk A ad M.2.2.1 cells slots Q pc2 ls2 st2 w2) : av_go p l e R s m args below meth c D kk A ad M.2.2.1 cells slots Q pc ls st w := by
  obtain ⟨hx, hb, hml, hown, hts, hK, hnm⟩ := Fx
  unfold av_ifn at hs
  split at hs
  case h_2 => cases hs
  case h_1 =>
  split at hs
  case isFalse => cases hs
  case isTrue h0 =>
  subst h0
  cases hs
  intro H locs LS X
  exact lv_ifnull hx hb hd (k H locs LS X)
theorem av_sald_ok {M : av_M} (Fx : av_Fx p m c s args D kk meth M) (hX : av_SX s A ad w M) (h99 : M.2.2.2.2.1 = 99) (hd : decode M.2.1 pc = .ok (.iaload, len)) (hs : av_sald len pc ls st w = some (pc2, ls2, st2, w2)) (k : av_go p l e R s m args below meth c D kk A ad M.2.2.1 cells slots Q pc2 ls2 st2 w2) : av_go p l e R s m args below meth c D kk A ad M.2.2.1 cells slots Q pc ls st w := by
  obtain ⟨hx, hb, hml, hown, hts, hK, hnm⟩ := Fx
  obtain ⟨t2, L, xs, e1, e2, e3, e4⟩ := hX h99
  unfold av_sald at hs
  split at hs
  case h_2 => cases hs
  case h_1 =>
  rename_i i a rest
  split at hs
  case h_2 => cases hs
  case h_1 =>
  rename_i t3 n f hc
  split at hs
  case isFalse => cases hs
  case isTrue h0 =>
  obtain ⟨rfl, rfl, hin⟩ := h0
  rw [e1] at hc
  cases hc
  cases hs
  intro H locs LS X
  exact va_sld hx hb e2 e3 e4 X.2.2.1 (av_inr_ok hin) hd (k H locs LS X)
theorem av_slen_ok {M : av_M} (Fx : av_Fx p m c s args D kk meth M) (hX : av_SX s A ad w M) (h99 : M.2.2.2.2.1 = 99) (hd : decode M.2.1 pc = .ok (.arraylength, len)) (hs : av_slen len pc ls st w = some (pc2, ls2, st2, w2)) (k : av_go p l e R s m args below meth c D kk A ad M.2.2.1 cells slots Q pc2 ls2 st2 w2) : av_go p l e R s m args below meth c D kk A ad M.2.2.1 cells slots Q pc ls st w := by
  obtain ⟨hx, hb, hml, hown, hts, hK, hnm⟩ := Fx
  obtain ⟨t2, L, xs, e1, e2, e3, e4⟩ := hX h99
  unfold av_slen at hs
  split at hs
  case h_2 => cases hs
  case h_1 =>
  rename_i a rest
  split at hs
  case h_2 => cases hs
  case h_1 =>
  rename_i t3 n f hc
  split at hs
  case isFalse => cases hs
  case isTrue h0 =>
  obtain ⟨rfl, rfl⟩ := h0
  rw [e1] at hc
  cases hc
  cases hs
  intro H locs LS X
  exact va_slen hx hb e2 e3 e4 X.2.2.1 hd (k H locs LS X)
end AVS
end
section
/-! ===== the machine is sound, 2: making cells, any step, calls, whole runs ===== -/
theorem av_LH.ext {ad ad2 : Nat → Nat} {n nL : Nat} {LS : Array Slot} {ls : av_L} (h : av_agr n ad ad2) (hl : av_wl n ls = true) (X : av_LH ad LS nL ls) : av_LH ad2 LS nL ls := by
  refine ⟨X.1, X.2.1, X.2.2.1, ?_⟩
  rintro ⟨i, x⟩ hq
  obtain ⟨v, hv, rfl⟩ := av_as_mem.mp hq
  have h1 := List.all_eq_true.mp hl _ (List.mem_of_getElem? hv)
  rw [av_cv_ext h h1]
  exact X.get hv
theorem av_dfc (ad : Nat → Nat) (ci : Nat) : (av_df ci).map (av_cv ad) = av_df ci := by
  unfold av_df
  split <;> rfl
section AVS2
variable {p : Program} {l : Launch} {e : Env} {R : Room} {s : State} {m : MethodId} {args : Array Value} {below : List Frame} {meth : Method} {c : Code} {cells slots : Nat} {Q : State → Prop}
variable {D : va_G} {kk : Nat → ClassId} {A : Nat → Prop} {ad : Nat → Nat} {len pc pc2 : Nat} {ls ls2 : av_L} {st st2 : List Value} {w w2 : av_W}
theorem av_born {M : av_M} {q : Nat} {H1 : Heap} {locs : List Loc} {LS : Array Slot} {rest : List Value} {z : Nat} {ev : av_E} {e2 : va_E} (hwf : av_wf ls rest w = true) (hL : av_LH ad LS M.2.2.1 ls) (he : av_cE (fun k => if k = w.1 then q else ad k) kk ev = e2)
    (hP : va_P D vwCl (av_cW ad kk w ++ [(q, e2)]) H1) (hD : va_D A (av_cW ad kk w ++ [(q, e2)])) (hS : va_S A s.heap H1 locs)
    (k : ∀ ad2 : Nat → Nat, av_agr w.1 ad ad2 → (w.1 + 1 = w.1 → ad2 = ad) → av_go p l e R s m args below meth c D kk A ad2 M.2.2.1 (cells + 1) (slots + z) Q pc2 ls (.ref w.1 :: rest) (w.1 + 1, w.2.1 + z, av_up w.2.2 w.1 ev)) : W p l e R s m args below meth c H1 locs (cells + 1) (slots + z) Q (F0 m pc2 LS (.ref q :: rest.map (av_cv ad))) := by
  simp only [av_wf, Bool.and_eq_true, decide_eq_true_eq] at hwf
  have hx : av_agr w.1 ad (fun j => if j = w.1 then q else ad j) := av_agr_new hwf.1.1.1
  have k1 := k (fun j => if j = w.1 then q else ad j) hx (fun h => by omega)
  have k2 := k1 H1 locs LS ⟨by rw [av_cW_app hwf.1.1.1 hwf.2 he]; exact hP, by rw [av_cW_app hwf.1.1.1 hwf.2 he]; exact hD, hS, hL.ext hx hwf.1.1.2⟩
  have e3 : List.map (av_cv (fun j => if j = w.1 then q else ad j)) (Value.ref w.1 :: rest) = .ref q :: rest.map (av_cv ad) := by
    rw [List.map_cons, av_cvs_ext hx hwf.1.2]
    simp [av_cv]
  rw [e3] at k2
  exact k2
theorem av_newi_ok {M : av_M} (Fx : av_Fx p m c s args D kk meth M) (hA : ∀ q, s.heap.size ≤ q → A q) (hd : decode M.2.1 pc = .ok (.newarray .int, len)) (hs : av_newa 0 len pc ls st w = some (pc2, ls2, st2, w2)) (hc : cells + (w2.1 - w.1) ≤ R.cells ∧ slots + (w2.2.1 - w.2.1) ≤ R.slots)
    (k : ∀ ad2 : Nat → Nat, av_agr w.1 ad ad2 → (w2.1 = w.1 → ad2 = ad) → av_go p l e R s m args below meth c D kk A ad2 M.2.2.1 (cells + (w2.1 - w.1)) (slots + (w2.2.1 - w.2.1)) Q pc2 ls2 st2 w2) : av_go p l e R s m args below meth c D kk A ad M.2.2.1 cells slots Q pc ls st w := by
  obtain ⟨hx, hb, hml, hown, hts, hK, hnm⟩ := Fx
  unfold av_newa at hs
  split at hs
  case h_2 => cases hs
  case h_1 =>
  rename_i n rest
  split at hs
  case isFalse => cases hs
  case isTrue h0 =>
  obtain ⟨rfl, hn, hbig, hwf⟩ := h0
  cases hs
  have e1 : w.1 + 1 - w.1 = 1 := by omega
  have e2 : w.2.1 + n.toNatClampNeg - w.2.1 = n.toNatClampNeg := by omega
  simp only [e1, e2] at hc k
  have h9 : componentBytes .int ≤ 4 := by decide
  have hby : n.toNatClampNeg * componentBytes .int ≤ 536870912 := Nat.le_trans (Nat.mul_le_mul hbig h9) (Nat.le_of_ble_eq_true rfl)
  intro H locs LS X
  refine va_newa (atype := .int) (ty := .int) (a0 := (n.toNatClampNeg, .inl (fun _ => 0))) (ws := av_cW ad kk w) hx hb (hts _ (av_inA_ws av_arr_ok.1)) rfl hK.1 X.1 X.2.1 X.2.2.1 hA (fun cA => rfl) hn rfl hby hc.1 hc.2 hd (fun q cA H1 hK2 hP hD hS => ?_)
  have hcA : cA = kk 0 := by
    have g1 := (hK2.2 3 (cA, .int) rfl).2
    have g2 := (hK.1.2 0 (kk 0, .int) rfl).2
    exact Option.some.inj (g1.symm.trans g2)
  subst hcA
  exact av_born hwf X.2.2.2 rfl hP hD hS k
theorem av_newc_ok {M : av_M} (Fx : av_Fx p m c s args D kk meth M) (hA : ∀ q, s.heap.size ≤ q → A q) (hd : decode M.2.1 pc = .ok (.newarray .char, len)) (hs : av_newa 1 len pc ls st w = some (pc2, ls2, st2, w2)) (hc : cells + (w2.1 - w.1) ≤ R.cells ∧ slots + (w2.2.1 - w.2.1) ≤ R.slots)
    (k : ∀ ad2 : Nat → Nat, av_agr w.1 ad ad2 → (w2.1 = w.1 → ad2 = ad) → av_go p l e R s m args below meth c D kk A ad2 M.2.2.1 (cells + (w2.1 - w.1)) (slots + (w2.2.1 - w.2.1)) Q pc2 ls2 st2 w2) : av_go p l e R s m args below meth c D kk A ad M.2.2.1 cells slots Q pc ls st w := by
  obtain ⟨hx, hb, hml, hown, hts, hK, hnm⟩ := Fx
  unfold av_newa at hs
  split at hs
  case h_2 => cases hs
  case h_1 =>
  rename_i n rest
  split at hs
  case isFalse => cases hs
  case isTrue h0 =>
  obtain ⟨rfl, hn, hbig, hwf⟩ := h0
  cases hs
  have e1 : w.1 + 1 - w.1 = 1 := by omega
  have e2 : w.2.1 + n.toNatClampNeg - w.2.1 = n.toNatClampNeg := by omega
  simp only [e1, e2] at hc k
  have h9 : componentBytes .char ≤ 4 := by decide
  have hby : n.toNatClampNeg * componentBytes .char ≤ 536870912 := Nat.le_trans (Nat.mul_le_mul hbig h9) (Nat.le_of_ble_eq_true rfl)
  intro H locs LS X
  refine va_newa (atype := .char) (ty := .char) (a0 := (n.toNatClampNeg, .inl (fun _ => 0))) (ws := av_cW ad kk w) hx hb (hts _ (av_inA_ws av_arr_ok.2.1)) rfl hK.1 X.1 X.2.1 X.2.2.1 hA (fun cA => rfl) hn rfl hby hc.1 hc.2 hd (fun q cA H1 hK2 hP hD hS => ?_)
  have hcA : cA = kk 1 := by
    have g1 := (hK2.2 3 (cA, .char) rfl).2
    have g2 := (hK.1.2 1 (kk 1, .char) rfl).2
    exact Option.some.inj (g1.symm.trans g2)
  subst hcA
  exact av_born hwf X.2.2.2 rfl hP hD hS k
theorem av_newr_ok {M : av_M} (Fx : av_Fx p m c s args D kk meth M) (hA : ∀ q, s.heap.size ≤ q → A q) {i : Nat} (hd : decode M.2.1 pc = .ok (.anewarray i, len)) (hs : av_newr M.2.2.2.2.1 i len pc ls st w = some (pc2, ls2, st2, w2)) (hc : cells + (w2.1 - w.1) ≤ R.cells ∧ slots + (w2.2.1 - w.2.1) ≤ R.slots)
    (k : ∀ ad2 : Nat → Nat, av_agr w.1 ad ad2 → (w2.1 = w.1 → ad2 = ad) → av_go p l e R s m args below meth c D kk A ad2 M.2.2.1 (cells + (w2.1 - w.1)) (slots + (w2.2.1 - w.2.1)) Q pc2 ls2 st2 w2) : av_go p l e R s m args below meth c D kk A ad M.2.2.1 cells slots Q pc ls st w := by
  obtain ⟨hx, hb, hml, hown, hts, hK, hnm⟩ := Fx
  unfold av_newr at hs
  split at hs
  case h_2 => cases hs
  case h_1 =>
  rename_i n rest
  split at hs
  case isFalse => cases hs
  case isTrue h0 =>
  obtain ⟨⟨hcl, rfl⟩, hn, hbig, hwf⟩ := h0
  cases hs
  have e1 : w.1 + 1 - w.1 = 1 := by omega
  have e2 : w.2.1 + n.toNatClampNeg - w.2.1 = n.toNatClampNeg := by omega
  simp only [e1, e2] at hc k
  obtain ⟨g1, g2, g3, g4⟩ := av_cls_ok hcl
  intro H locs LS X
  refine va_newq (ws := av_cW ad kk w) hx hb hown (hts _ g2) (hK.2 _ av_arr_ok.2.2) hK.1 X.1 X.2.1 X.2.2.1 hA hn rfl (Nat.le_trans (Nat.mul_le_mul_right 4 hbig) (Nat.le_of_ble_eq_true rfl)) hc.1 hc.2 hd (fun q cA H1 hK2 hP hD hS => ?_)
  have hcA : cA = kk 2 := by
    obtain ⟨_, _, _, _, _, g5⟩ := (hK2.2 3 (cA, .object (av_R 0)) rfl).2
    obtain ⟨_, _, _, _, _, g6⟩ := (hK.1.2 2 (kk 2, .object (av_R 0)) rfl).2
    exact Option.some.inj (g5.symm.trans g6)
  subst hcA
  refine av_born hwf X.2.2.2 ?_ hP hD hS k
  simp [av_cE, av_cA]
theorem av_new_ok {M : av_M} (Fx : av_Fx p m c s args D kk meth M) (hA : ∀ q, s.heap.size ≤ q → A q) {i : Nat} (hd : decode M.2.1 pc = .ok (.new i, len)) (hs : av_new M.2.2.2.2.1 i len pc ls st w = some (pc2, ls2, st2, w2)) (hc : cells + (w2.1 - w.1) ≤ R.cells ∧ slots + (w2.2.1 - w.2.1) ≤ R.slots)
    (k : ∀ ad2 : Nat → Nat, av_agr w.1 ad ad2 → (w2.1 = w.1 → ad2 = ad) → av_go p l e R s m args below meth c D kk A ad2 M.2.2.1 (cells + (w2.1 - w.1)) (slots + (w2.2.1 - w.2.1)) Q pc2 ls2 st2 w2) : av_go p l e R s m args below meth c D kk A ad M.2.2.1 cells slots Q pc ls st w := by
  obtain ⟨hx, hb, hml, hown, hts, hK, hnm⟩ := Fx
  unfold av_new at hs
  split at hs
  case h_2 => cases hs
  case h_1 =>
  rename_i ci hcl
  split at hs
  case isFalse => cases hs
  case isTrue h0 =>
  obtain ⟨rfl, hwf⟩ := h0
  cases hs
  have e1 : w.1 + 1 - w.1 = 1 := by omega
  have e2 : w.2.1 + av_N ci - w.2.1 = av_N ci := by omega
  simp only [e1, e2] at hc k
  obtain ⟨g1, g2, g3, g4⟩ := av_cls_ok hcl
  intro H locs LS X
  refine va_new (ws := av_cW ad kk w) hx hb hts (av_lays ci g1) (av_ty ci) (av_tys ci g1) hown (hts _ g2) (hts _ g3) (hts _ g4) hK.1 X.1 X.2.1 X.2.2.1 hA (av_cl ci g1) (av_dfs ci g1) hc.1 hc.2 hd (fun q H1 hP hD hS => ?_)
  refine av_born hwf X.2.2.2 ?_ hP hD hS k
  simp only [av_cE]
  rw [av_dfc _ ci]
theorem av_push_sm {n : Nat} {v : Value} (hs : av_push n len pc ls v st w = some (pc2, ls2, st2, w2)) : w2.1 = w.1 ∧ w2.2.1 = w.2.1 := by
  unfold av_push at hs
  try simp only [av_push, av_ifs] at hs
  (repeat' split at hs) <;> first | (cases hs; done) | (cases hs; exact ⟨rfl, rfl⟩) | (rw [Option.map_eq_some_iff] at hs; obtain ⟨_, _, h⟩ := hs; cases h; exact ⟨rfl, rfl⟩) | (obtain ⟨_, _, h⟩ := av_tgt_ok hs; cases h; exact ⟨rfl, rfl⟩)
theorem av_ild_sm {n i : Nat} (hs : av_ild n i len pc ls st w = some (pc2, ls2, st2, w2)) : w2.1 = w.1 ∧ w2.2.1 = w.2.1 := by
  unfold av_ild at hs
  try simp only [av_push, av_ifs] at hs
  (repeat' split at hs) <;> first | (cases hs; done) | (cases hs; exact ⟨rfl, rfl⟩) | (rw [Option.map_eq_some_iff] at hs; obtain ⟨_, _, h⟩ := hs; cases h; exact ⟨rfl, rfl⟩) | (obtain ⟨_, _, h⟩ := av_tgt_ok hs; cases h; exact ⟨rfl, rfl⟩)
theorem av_lld_sm {n i : Nat} (hs : av_lld n i len pc ls st w = some (pc2, ls2, st2, w2)) : w2.1 = w.1 ∧ w2.2.1 = w.2.1 := by
  unfold av_lld at hs
  try simp only [av_push, av_ifs] at hs
  (repeat' split at hs) <;> first | (cases hs; done) | (cases hs; exact ⟨rfl, rfl⟩) | (rw [Option.map_eq_some_iff] at hs; obtain ⟨_, _, h⟩ := hs; cases h; exact ⟨rfl, rfl⟩) | (obtain ⟨_, _, h⟩ := av_tgt_ok hs; cases h; exact ⟨rfl, rfl⟩)
theorem av_ald_sm {n i : Nat} (hs : av_ald n i len pc ls st w = some (pc2, ls2, st2, w2)) : w2.1 = w.1 ∧ w2.2.1 = w.2.1 := by
  unfold av_ald at hs
  try simp only [av_push, av_ifs] at hs
  (repeat' split at hs) <;> first | (cases hs; done) | (cases hs; exact ⟨rfl, rfl⟩) | (rw [Option.map_eq_some_iff] at hs; obtain ⟨_, _, h⟩ := hs; cases h; exact ⟨rfl, rfl⟩) | (obtain ⟨_, _, h⟩ := av_tgt_ok hs; cases h; exact ⟨rfl, rfl⟩)
theorem av_ist_sm {n i : Nat} (hs : av_ist n i len pc ls st w = some (pc2, ls2, st2, w2)) : w2.1 = w.1 ∧ w2.2.1 = w.2.1 := by
  unfold av_ist at hs
  try simp only [av_push, av_ifs] at hs
  (repeat' split at hs) <;> first | (cases hs; done) | (cases hs; exact ⟨rfl, rfl⟩) | (rw [Option.map_eq_some_iff] at hs; obtain ⟨_, _, h⟩ := hs; cases h; exact ⟨rfl, rfl⟩) | (obtain ⟨_, _, h⟩ := av_tgt_ok hs; cases h; exact ⟨rfl, rfl⟩)
theorem av_ast_sm {n i : Nat} (hs : av_ast n i len pc ls st w = some (pc2, ls2, st2, w2)) : w2.1 = w.1 ∧ w2.2.1 = w.2.1 := by
  unfold av_ast at hs
  try simp only [av_push, av_ifs] at hs
  (repeat' split at hs) <;> first | (cases hs; done) | (cases hs; exact ⟨rfl, rfl⟩) | (rw [Option.map_eq_some_iff] at hs; obtain ⟨_, _, h⟩ := hs; cases h; exact ⟨rfl, rfl⟩) | (obtain ⟨_, _, h⟩ := av_tgt_ok hs; cases h; exact ⟨rfl, rfl⟩)
theorem av_iinc_sm {i : Nat} {n : Int} (hs : av_iinc i n len pc ls st w = some (pc2, ls2, st2, w2)) : w2.1 = w.1 ∧ w2.2.1 = w.2.1 := by
  unfold av_iinc at hs
  try simp only [av_push, av_ifs] at hs
  (repeat' split at hs) <;> first | (cases hs; done) | (cases hs; exact ⟨rfl, rfl⟩) | (rw [Option.map_eq_some_iff] at hs; obtain ⟨_, _, h⟩ := hs; cases h; exact ⟨rfl, rfl⟩) | (obtain ⟨_, _, h⟩ := av_tgt_ok hs; cases h; exact ⟨rfl, rfl⟩)
theorem av_bin_sm {f : Int32 → Int32 → Int32} (hs : av_bin f len pc ls st w = some (pc2, ls2, st2, w2)) : w2.1 = w.1 ∧ w2.2.1 = w.2.1 := by
  unfold av_bin at hs
  try simp only [av_push, av_ifs] at hs
  (repeat' split at hs) <;> first | (cases hs; done) | (cases hs; exact ⟨rfl, rfl⟩) | (rw [Option.map_eq_some_iff] at hs; obtain ⟨_, _, h⟩ := hs; cases h; exact ⟨rfl, rfl⟩) | (obtain ⟨_, _, h⟩ := av_tgt_ok hs; cases h; exact ⟨rfl, rfl⟩)
theorem av_div_sm {f : Int32 → Int32 → Int32} (hs : av_div f len pc ls st w = some (pc2, ls2, st2, w2)) : w2.1 = w.1 ∧ w2.2.1 = w.2.1 := by
  unfold av_div at hs
  try simp only [av_push, av_ifs] at hs
  (repeat' split at hs) <;> first | (cases hs; done) | (cases hs; exact ⟨rfl, rfl⟩) | (rw [Option.map_eq_some_iff] at hs; obtain ⟨_, _, h⟩ := hs; cases h; exact ⟨rfl, rfl⟩) | (obtain ⟨_, _, h⟩ := av_tgt_ok hs; cases h; exact ⟨rfl, rfl⟩)
theorem av_lbin_sm {f : Int64 → Int64 → Value} (hs : av_lbin f len pc ls st w = some (pc2, ls2, st2, w2)) : w2.1 = w.1 ∧ w2.2.1 = w.2.1 := by
  unfold av_lbin at hs
  try simp only [av_push, av_ifs] at hs
  (repeat' split at hs) <;> first | (cases hs; done) | (cases hs; exact ⟨rfl, rfl⟩) | (rw [Option.map_eq_some_iff] at hs; obtain ⟨_, _, h⟩ := hs; cases h; exact ⟨rfl, rfl⟩) | (obtain ⟨_, _, h⟩ := av_tgt_ok hs; cases h; exact ⟨rfl, rfl⟩)
theorem av_un_sm {f : Int32 → Value} (hs : av_un f len pc ls st w = some (pc2, ls2, st2, w2)) : w2.1 = w.1 ∧ w2.2.1 = w.2.1 := by
  unfold av_un at hs
  try simp only [av_push, av_ifs] at hs
  (repeat' split at hs) <;> first | (cases hs; done) | (cases hs; exact ⟨rfl, rfl⟩) | (rw [Option.map_eq_some_iff] at hs; obtain ⟨_, _, h⟩ := hs; cases h; exact ⟨rfl, rfl⟩) | (obtain ⟨_, _, h⟩ := av_tgt_ok hs; cases h; exact ⟨rfl, rfl⟩)
theorem av_if1_sm {cnd : Int32 → Prop} {dc : ∀ x, Decidable (cnd x)} {off : Int} (hs : av_if1 cnd off len pc ls st w = some (pc2, ls2, st2, w2)) : w2.1 = w.1 ∧ w2.2.1 = w.2.1 := by
  unfold av_if1 at hs
  try simp only [av_push, av_ifs] at hs
  (repeat' split at hs) <;> first | (cases hs; done) | (cases hs; exact ⟨rfl, rfl⟩) | (rw [Option.map_eq_some_iff] at hs; obtain ⟨_, _, h⟩ := hs; cases h; exact ⟨rfl, rfl⟩) | (obtain ⟨_, _, h⟩ := av_tgt_ok hs; cases h; exact ⟨rfl, rfl⟩)
theorem av_if2_sm {cnd : Int32 → Int32 → Prop} {dc : ∀ x y, Decidable (cnd x y)} {off : Int} (hs : av_if2 cnd off len pc ls st w = some (pc2, ls2, st2, w2)) : w2.1 = w.1 ∧ w2.2.1 = w.2.1 := by
  unfold av_if2 at hs
  try simp only [av_push, av_ifs] at hs
  (repeat' split at hs) <;> first | (cases hs; done) | (cases hs; exact ⟨rfl, rfl⟩) | (rw [Option.map_eq_some_iff] at hs; obtain ⟨_, _, h⟩ := hs; cases h; exact ⟨rfl, rfl⟩) | (obtain ⟨_, _, h⟩ := av_tgt_ok hs; cases h; exact ⟨rfl, rfl⟩)
theorem av_tab_sm {dflt lo hi : Int} {offs : Array Int} (hs : av_tab dflt lo hi offs pc ls st w = some (pc2, ls2, st2, w2)) : w2.1 = w.1 ∧ w2.2.1 = w.2.1 := by
  unfold av_tab at hs
  try simp only [av_push, av_ifs] at hs
  (repeat' split at hs) <;> first | (cases hs; done) | (cases hs; exact ⟨rfl, rfl⟩) | (rw [Option.map_eq_some_iff] at hs; obtain ⟨_, _, h⟩ := hs; cases h; exact ⟨rfl, rfl⟩) | (obtain ⟨_, _, h⟩ := av_tgt_ok hs; cases h; exact ⟨rfl, rfl⟩)
theorem av_getf_sm {own i : Nat} (hs : av_getf own i len pc ls st w = some (pc2, ls2, st2, w2)) : w2.1 = w.1 ∧ w2.2.1 = w.2.1 := by
  unfold av_getf at hs
  try simp only [av_push, av_ifs] at hs
  (repeat' split at hs) <;> first | (cases hs; done) | (cases hs; exact ⟨rfl, rfl⟩) | (rw [Option.map_eq_some_iff] at hs; obtain ⟨_, _, h⟩ := hs; cases h; exact ⟨rfl, rfl⟩) | (obtain ⟨_, _, h⟩ := av_tgt_ok hs; cases h; exact ⟨rfl, rfl⟩)
theorem av_putf_sm {own i : Nat} {b : Bool} (hs : av_putf own b i len pc ls st w = some (pc2, ls2, st2, w2)) : w2.1 = w.1 ∧ w2.2.1 = w.2.1 := by
  unfold av_putf at hs
  try simp only [av_push, av_ifs] at hs
  (repeat' split at hs) <;> first | (cases hs; done) | (cases hs; exact ⟨rfl, rfl⟩) | (rw [Option.map_eq_some_iff] at hs; obtain ⟨_, _, h⟩ := hs; cases h; exact ⟨rfl, rfl⟩) | (obtain ⟨_, _, h⟩ := av_tgt_ok hs; cases h; exact ⟨rfl, rfl⟩)
theorem av_xald_sm {t : Nat} (hs : av_xald t len pc ls st w = some (pc2, ls2, st2, w2)) : w2.1 = w.1 ∧ w2.2.1 = w.2.1 := by
  unfold av_xald at hs
  try simp only [av_push, av_ifs] at hs
  (repeat' split at hs) <;> first | (cases hs; done) | (cases hs; exact ⟨rfl, rfl⟩) | (rw [Option.map_eq_some_iff] at hs; obtain ⟨_, _, h⟩ := hs; cases h; exact ⟨rfl, rfl⟩) | (obtain ⟨_, _, h⟩ := av_tgt_ok hs; cases h; exact ⟨rfl, rfl⟩)
theorem av_xast_sm {g : Int32 → Int32} {t : Nat} (hs : av_xast g t len pc ls st w = some (pc2, ls2, st2, w2)) : w2.1 = w.1 ∧ w2.2.1 = w.2.1 := by
  unfold av_xast at hs
  try simp only [av_push, av_ifs] at hs
  (repeat' split at hs) <;> first | (cases hs; done) | (cases hs; exact ⟨rfl, rfl⟩) | (rw [Option.map_eq_some_iff] at hs; obtain ⟨_, _, h⟩ := hs; cases h; exact ⟨rfl, rfl⟩) | (obtain ⟨_, _, h⟩ := av_tgt_ok hs; cases h; exact ⟨rfl, rfl⟩)
theorem av_rald_sm  (hs : av_rald len pc ls st w = some (pc2, ls2, st2, w2)) : w2.1 = w.1 ∧ w2.2.1 = w.2.1 := by
  unfold av_rald at hs
  try simp only [av_push, av_ifs] at hs
  (repeat' split at hs) <;> first | (cases hs; done) | (cases hs; exact ⟨rfl, rfl⟩) | (rw [Option.map_eq_some_iff] at hs; obtain ⟨_, _, h⟩ := hs; cases h; exact ⟨rfl, rfl⟩) | (obtain ⟨_, _, h⟩ := av_tgt_ok hs; cases h; exact ⟨rfl, rfl⟩)
theorem av_rast_sm  (hs : av_rast len pc ls st w = some (pc2, ls2, st2, w2)) : w2.1 = w.1 ∧ w2.2.1 = w.2.1 := by
  unfold av_rast at hs
  try simp only [av_push, av_ifs] at hs
  (repeat' split at hs) <;> first | (cases hs; done) | (cases hs; exact ⟨rfl, rfl⟩) | (rw [Option.map_eq_some_iff] at hs; obtain ⟨_, _, h⟩ := hs; cases h; exact ⟨rfl, rfl⟩) | (obtain ⟨_, _, h⟩ := av_tgt_ok hs; cases h; exact ⟨rfl, rfl⟩)
theorem av_sald_sm  (hs : av_sald len pc ls st w = some (pc2, ls2, st2, w2)) : w2.1 = w.1 ∧ w2.2.1 = w.2.1 := by
  unfold av_sald at hs
  try simp only [av_push, av_ifs] at hs
  (repeat' split at hs) <;> first | (cases hs; done) | (cases hs; exact ⟨rfl, rfl⟩) | (rw [Option.map_eq_some_iff] at hs; obtain ⟨_, _, h⟩ := hs; cases h; exact ⟨rfl, rfl⟩) | (obtain ⟨_, _, h⟩ := av_tgt_ok hs; cases h; exact ⟨rfl, rfl⟩)
theorem av_slen_sm  (hs : av_slen len pc ls st w = some (pc2, ls2, st2, w2)) : w2.1 = w.1 ∧ w2.2.1 = w.2.1 := by
  unfold av_slen at hs
  try simp only [av_push, av_ifs] at hs
  (repeat' split at hs) <;> first | (cases hs; done) | (cases hs; exact ⟨rfl, rfl⟩) | (rw [Option.map_eq_some_iff] at hs; obtain ⟨_, _, h⟩ := hs; cases h; exact ⟨rfl, rfl⟩) | (obtain ⟨_, _, h⟩ := av_tgt_ok hs; cases h; exact ⟨rfl, rfl⟩)
theorem av_alen_sm  (hs : av_alen len pc ls st w = some (pc2, ls2, st2, w2)) : w2.1 = w.1 ∧ w2.2.1 = w.2.1 := by
  unfold av_alen at hs
  try simp only [av_push, av_ifs] at hs
  (repeat' split at hs) <;> first | (cases hs; done) | (cases hs; exact ⟨rfl, rfl⟩) | (rw [Option.map_eq_some_iff] at hs; obtain ⟨_, _, h⟩ := hs; cases h; exact ⟨rfl, rfl⟩) | (obtain ⟨_, _, h⟩ := av_tgt_ok hs; cases h; exact ⟨rfl, rfl⟩)
theorem av_dup_sm  (hs : av_dup len pc ls st w = some (pc2, ls2, st2, w2)) : w2.1 = w.1 ∧ w2.2.1 = w.2.1 := by
  unfold av_dup at hs
  try simp only [av_push, av_ifs] at hs
  (repeat' split at hs) <;> first | (cases hs; done) | (cases hs; exact ⟨rfl, rfl⟩) | (rw [Option.map_eq_some_iff] at hs; obtain ⟨_, _, h⟩ := hs; cases h; exact ⟨rfl, rfl⟩) | (obtain ⟨_, _, h⟩ := av_tgt_ok hs; cases h; exact ⟨rfl, rfl⟩)
theorem av_dup2_sm  (hs : av_dup2 len pc ls st w = some (pc2, ls2, st2, w2)) : w2.1 = w.1 ∧ w2.2.1 = w.2.1 := by
  unfold av_dup2 at hs
  try simp only [av_push, av_ifs] at hs
  (repeat' split at hs) <;> first | (cases hs; done) | (cases hs; exact ⟨rfl, rfl⟩) | (rw [Option.map_eq_some_iff] at hs; obtain ⟨_, _, h⟩ := hs; cases h; exact ⟨rfl, rfl⟩) | (obtain ⟨_, _, h⟩ := av_tgt_ok hs; cases h; exact ⟨rfl, rfl⟩)
theorem av_pop_sm  (hs : av_pop len pc ls st w = some (pc2, ls2, st2, w2)) : w2.1 = w.1 ∧ w2.2.1 = w.2.1 := by
  unfold av_pop at hs
  try simp only [av_push, av_ifs] at hs
  (repeat' split at hs) <;> first | (cases hs; done) | (cases hs; exact ⟨rfl, rfl⟩) | (rw [Option.map_eq_some_iff] at hs; obtain ⟨_, _, h⟩ := hs; cases h; exact ⟨rfl, rfl⟩) | (obtain ⟨_, _, h⟩ := av_tgt_ok hs; cases h; exact ⟨rfl, rfl⟩)
theorem av_ifn_sm  (hs : av_ifn len pc ls st w = some (pc2, ls2, st2, w2)) : w2.1 = w.1 ∧ w2.2.1 = w.2.1 := by
  unfold av_ifn at hs
  try simp only [av_push, av_ifs] at hs
  (repeat' split at hs) <;> first | (cases hs; done) | (cases hs; exact ⟨rfl, rfl⟩) | (rw [Option.map_eq_some_iff] at hs; obtain ⟨_, _, h⟩ := hs; cases h; exact ⟨rfl, rfl⟩) | (obtain ⟨_, _, h⟩ := av_tgt_ok hs; cases h; exact ⟨rfl, rfl⟩)
theorem av_ldc_sm {own i : Nat} (hs : av_ldc own i len pc ls st w = some (pc2, ls2, st2, w2)) : w2.1 = w.1 ∧ w2.2.1 = w.2.1 := by
  unfold av_ldc at hs
  try simp only [av_push, av_ifs] at hs
  (repeat' split at hs) <;> first | (cases hs; done) | (cases hs; exact ⟨rfl, rfl⟩) | (rw [Option.map_eq_some_iff] at hs; obtain ⟨_, _, h⟩ := hs; cases h; exact ⟨rfl, rfl⟩) | (obtain ⟨_, _, h⟩ := av_tgt_ok hs; cases h; exact ⟨rfl, rfl⟩)
theorem av_ldl_sm {own i : Nat} (hs : av_ldl own i len pc ls st w = some (pc2, ls2, st2, w2)) : w2.1 = w.1 ∧ w2.2.1 = w.2.1 := by
  unfold av_ldl at hs
  try simp only [av_push, av_ifs] at hs
  (repeat' split at hs) <;> first | (cases hs; done) | (cases hs; exact ⟨rfl, rfl⟩) | (rw [Option.map_eq_some_iff] at hs; obtain ⟨_, _, h⟩ := hs; cases h; exact ⟨rfl, rfl⟩) | (obtain ⟨_, _, h⟩ := av_tgt_ok hs; cases h; exact ⟨rfl, rfl⟩)
theorem av_obj_sm {own i h : Nat} (hs : av_obj own i h len pc ls st w = some (pc2, ls2, st2, w2)) : w2.1 = w.1 ∧ w2.2.1 = w.2.1 := by
  unfold av_obj at hs
  try simp only [av_push, av_ifs] at hs
  (repeat' split at hs) <;> first | (cases hs; done) | (cases hs; exact ⟨rfl, rfl⟩) | (rw [Option.map_eq_some_iff] at hs; obtain ⟨_, _, h⟩ := hs; cases h; exact ⟨rfl, rfl⟩) | (obtain ⟨_, _, h⟩ := av_tgt_ok hs; cases h; exact ⟨rfl, rfl⟩)
theorem av_mmx_sm {own i h : Nat} (hs : av_mmx own i h len pc ls st w = some (pc2, ls2, st2, w2)) : w2.1 = w.1 ∧ w2.2.1 = w.2.1 := by
  unfold av_mmx at hs
  try simp only [av_push, av_ifs] at hs
  (repeat' split at hs) <;> first | (cases hs; done) | (cases hs; exact ⟨rfl, rfl⟩) | (rw [Option.map_eq_some_iff] at hs; obtain ⟨_, _, h⟩ := hs; cases h; exact ⟨rfl, rfl⟩) | (obtain ⟨_, _, h⟩ := av_tgt_ok hs; cases h; exact ⟨rfl, rfl⟩)
theorem av_newa_mo {t : Nat} (hs : av_newa t len pc ls st w = some (pc2, ls2, st2, w2)) : w.1 ≤ w2.1 ∧ w.2.1 ≤ w2.2.1 := by
  unfold av_newa at hs
  (repeat' split at hs) <;> first | (cases hs; done) | (cases hs; exact ⟨Nat.le_succ _, Nat.le_add_right _ _⟩)
theorem av_newr_mo {own i : Nat} (hs : av_newr own i len pc ls st w = some (pc2, ls2, st2, w2)) : w.1 ≤ w2.1 ∧ w.2.1 ≤ w2.2.1 := by
  unfold av_newr at hs
  (repeat' split at hs) <;> first | (cases hs; done) | (cases hs; exact ⟨Nat.le_succ _, Nat.le_add_right _ _⟩)
theorem av_new_mo {own i : Nat} (hs : av_new own i len pc ls st w = some (pc2, ls2, st2, w2)) : w.1 ≤ w2.1 ∧ w.2.1 ≤ w2.2.1 := by
  unfold av_new at hs
  (repeat' split at hs) <;> first | (cases hs; done) | (cases hs; exact ⟨Nat.le_succ _, Nat.le_add_right _ _⟩)
set_option maxHeartbeats 4000000 in
theorem av_step_mo {M : av_M} {i : Instr} (hs : av_step M i len pc ls st w = some (pc2, ls2, st2, w2)) : w.1 ≤ w2.1 ∧ w.2.1 ≤ w2.2.1 := by
  have hsm : w2.1 = w.1 ∧ w2.2.1 = w.2.1 → w.1 ≤ w2.1 ∧ w.2.1 ≤ w2.2.1 := fun h => ⟨Nat.le_of_eq h.1.symm, Nat.le_of_eq h.2.symm⟩
  unfold av_step at hs
  split at hs
  · exact hsm (av_ald_sm hs)
  · exact hsm (av_ild_sm hs)
  · exact hsm (av_ild_sm hs)
  · exact hsm (av_lld_sm hs)
  · exact hsm (av_lld_sm hs)
  · exact hsm (av_ist_sm hs)
  · exact hsm (av_ist_sm hs)
  · exact hsm (av_ast_sm hs)
  · exact hsm (av_iinc_sm hs)
  · exact hsm (av_push_sm hs)
  · exact hsm (av_push_sm hs)
  · exact hsm (av_push_sm hs)
  · exact hsm (av_push_sm hs)
  · exact hsm (av_ldc_sm hs)
  · exact hsm (av_ldl_sm hs)
  · exact hsm (av_bin_sm hs)
  · exact hsm (av_bin_sm hs)
  · exact hsm (av_bin_sm hs)
  · exact hsm (av_bin_sm hs)
  · exact hsm (av_bin_sm hs)
  · exact hsm (av_bin_sm hs)
  · exact hsm (av_bin_sm hs)
  · exact hsm (av_bin_sm hs)
  · exact hsm (av_div_sm hs)
  · exact hsm (av_div_sm hs)
  · exact hsm (av_un_sm hs)
  · exact hsm (av_un_sm hs)
  · exact hsm (av_un_sm hs)
  · exact hsm (av_lbin_sm hs)
  · exact hsm (av_lbin_sm hs)
  · exact hsm (av_lbin_sm hs)
  · exact hsm (av_if1_sm hs)
  · exact hsm (av_if1_sm hs)
  · exact hsm (av_if1_sm hs)
  · exact hsm (av_if1_sm hs)
  · exact hsm (av_if1_sm hs)
  · exact hsm (av_if1_sm hs)
  · exact hsm (av_if2_sm hs)
  · exact hsm (av_if2_sm hs)
  · exact hsm (av_if2_sm hs)
  · exact hsm (av_if2_sm hs)
  · exact hsm (av_if2_sm hs)
  · exact hsm (av_if2_sm hs)
  · split at hs
    · obtain ⟨_, _, h⟩ := av_tgt_ok hs
      cases h
      exact ⟨Nat.le_refl _, Nat.le_refl _⟩
    · cases hs
  · exact hsm (av_tab_sm hs)
  · exact hsm (av_getf_sm hs)
  · exact hsm (av_putf_sm hs)
  · split at hs
    · exact hsm (av_sald_sm hs)
    · exact hsm (av_xald_sm hs)
  · exact hsm (av_xald_sm hs)
  · exact hsm (av_xast_sm hs)
  · exact hsm (av_xast_sm hs)
  · exact hsm (av_rald_sm hs)
  · exact hsm (av_rast_sm hs)
  · split at hs
    · exact hsm (av_slen_sm hs)
    · exact hsm (av_alen_sm hs)
  · exact av_newa_mo hs
  · exact av_newa_mo hs
  · exact av_newr_mo hs
  · exact av_new_mo hs
  · exact hsm (av_dup_sm hs)
  · exact hsm (av_dup2_sm hs)
  · exact hsm (av_pop_sm hs)
  · exact hsm (av_ifn_sm hs)
  · exact hsm (av_obj_sm hs)
  · exact hsm (av_mmx_sm hs)
  · cases hs
set_option maxHeartbeats 4000000 in
theorem av_step_ok {M : av_M} (Fx : av_Fx p m c s args D kk meth M) (hX : av_SX s A ad w M) (hA : ∀ q, s.heap.size ≤ q → A q) (hR : M.2.2.2.2.2.1 ≤ R.frames ∧ 35 * M.2.2.2.2.2.1 ≤ R.locals) {i : Instr} (hd : decode M.2.1 pc = .ok (i, len)) (hs : av_step M i len pc ls st w = some (pc2, ls2, st2, w2)) (hc : cells + (w2.1 - w.1) ≤ R.cells ∧ slots + (w2.2.1 - w.2.1) ≤ R.slots)
    (k : ∀ ad2 : Nat → Nat, av_agr w.1 ad ad2 → (w2.1 = w.1 → ad2 = ad) → av_go p l e R s m args below meth c D kk A ad2 M.2.2.1 (cells + (w2.1 - w.1)) (slots + (w2.2.1 - w.2.1)) Q pc2 ls2 st2 w2) : av_go p l e R s m args below meth c D kk A ad M.2.2.1 cells slots Q pc ls st w := by
  have hk : w2.1 = w.1 ∧ w2.2.1 = w.2.1 → av_go p l e R s m args below meth c D kk A ad M.2.2.1 cells slots Q pc2 ls2 st2 w2 := fun h => by
    have k1 := k ad (fun _ _ => rfl) (fun _ => rfl)
    have e1 : cells + (w2.1 - w.1) = cells := by omega
    have e2 : slots + (w2.2.1 - w.2.1) = slots := by omega
    rw [e1, e2] at k1
    exact k1
  unfold av_step at hs
  split at hs
  · exact av_ald_ok (fun hl H locs LS rest x h k => lv_aload_n Fx.1 Fx.2.1 (hl ▸ hd) rfl h k) hs (hk (av_ald_sm hs))
  · exact av_ild_ok (fun hl H locs LS rest x h k => lv_iload_n Fx.1 Fx.2.1 (hl ▸ hd) rfl h k) hs (hk (av_ild_sm hs))
  · exact av_ild_ok (fun hl H locs LS rest x h k => lv_iload Fx.1 Fx.2.1 (hl ▸ hd) h k) hs (hk (av_ild_sm hs))
  · exact av_lld_ok (fun hl H locs LS rest x h k => lv_lload_n Fx.1 Fx.2.1 (hl ▸ hd) rfl h k) hs (hk (av_lld_sm hs))
  · exact av_lld_ok (fun hl H locs LS rest x h k => lv_lload Fx.1 Fx.2.1 (hl ▸ hd) h k) hs (hk (av_lld_sm hs))
  · exact av_ist_ok (fun hl H locs LS rest x hi h k => lv_istore_n Fx.1 Fx.2.1 (hl ▸ hd) rfl h hi rfl k) hs (hk (av_ist_sm hs))
  · exact av_ist_ok (fun hl H locs LS rest x hi h k => lv_istore Fx.1 Fx.2.1 (hl ▸ hd) h hi rfl k) hs (hk (av_ist_sm hs))
  · exact av_ast_ok (fun hl H locs LS rest x hi h k => lv_astore_n Fx.1 Fx.2.1 (hl ▸ hd) rfl h hi rfl k) hs (hk (av_ast_sm hs))
  · exact av_iinc_ok Fx.1 Fx.2.1 hd hs (hk (av_iinc_sm hs))
  · exact av_push_ok (fun hl H locs LS rest X k => lv_iconst Fx.1 Fx.2.1 (hl ▸ hd) rfl k) hs (hk (av_push_sm hs))
  · exact av_push_ok (fun hl H locs LS rest X k => lv_bipush Fx.1 Fx.2.1 (hl ▸ hd) rfl k) hs (hk (av_push_sm hs))
  · exact av_push_ok (fun hl H locs LS rest X k => lv_sipush Fx.1 Fx.2.1 (hl ▸ hd) rfl k) hs (hk (av_push_sm hs))
  · exact av_push_ok (fun hl H locs LS rest X k => lv_lconst Fx.1 Fx.2.1 (hl ▸ hd) rfl k) hs (hk (av_push_sm hs))
  · exact av_ldc_ok Fx hd hs (hk (av_ldc_sm hs))
  · exact av_ldl_ok Fx hd hs (hk (av_ldl_sm hs))
  · exact av_bin_ok (fun hl H locs LS rest x y k => lv_iadd Fx.1 Fx.2.1 (hl ▸ hd) k) hs (hk (av_bin_sm hs))
  · exact av_bin_ok (fun hl H locs LS rest x y k => lv_isub Fx.1 Fx.2.1 (hl ▸ hd) k) hs (hk (av_bin_sm hs))
  · exact av_bin_ok (fun hl H locs LS rest x y k => lv_imul Fx.1 Fx.2.1 (hl ▸ hd) k) hs (hk (av_bin_sm hs))
  · exact av_bin_ok (fun hl H locs LS rest x y k => lv_iand Fx.1 Fx.2.1 (hl ▸ hd) k) hs (hk (av_bin_sm hs))
  · exact av_bin_ok (fun hl H locs LS rest x y k => lv_ior Fx.1 Fx.2.1 (hl ▸ hd) k) hs (hk (av_bin_sm hs))
  · exact av_bin_ok (fun hl H locs LS rest x y k => lv_ixor Fx.1 Fx.2.1 (hl ▸ hd) k) hs (hk (av_bin_sm hs))
  · exact av_bin_ok (fun hl H locs LS rest x y k => lv_ishl Fx.1 Fx.2.1 (hl ▸ hd) k) hs (hk (av_bin_sm hs))
  · exact av_bin_ok (fun hl H locs LS rest x y k => lv_ishr Fx.1 Fx.2.1 (hl ▸ hd) k) hs (hk (av_bin_sm hs))
  · exact av_div_ok (fun hl H locs LS rest x y hy k => lv_idiv Fx.1 Fx.2.1 (hl ▸ hd) hy k) hs (hk (av_div_sm hs))
  · exact av_div_ok (fun hl H locs LS rest x y hy k => lv_irem Fx.1 Fx.2.1 (hl ▸ hd) hy k) hs (hk (av_div_sm hs))
  · exact av_un_ok (f := fun x => .int (-x)) (fun hl H locs LS rest x k => lv_ineg Fx.1 Fx.2.1 (hl ▸ hd) k) hs (hk (av_un_sm hs))
  · exact av_un_ok (f := fun x => .long x.toInt64) (fun hl H locs LS rest x k => lv_i2l Fx.1 Fx.2.1 (hl ▸ hd) rfl k) hs (hk (av_un_sm hs))
  · exact av_un_ok (f := fun x => .int (x.toUInt32 % 65536).toInt32) (fun hl H locs LS rest x k => lv_i2c Fx.1 Fx.2.1 (hl ▸ hd) rfl k) hs (hk (av_un_sm hs))
  · exact av_lbin_ok (f := fun x y => .long (x - y)) (fun hl H locs LS rest x y k => lv_lsub Fx.1 Fx.2.1 (hl ▸ hd) k) hs (hk (av_lbin_sm hs))
  · exact av_lbin_ok (f := fun x y => .long (x * y)) (fun hl H locs LS rest x y k => lv_lmul Fx.1 Fx.2.1 (hl ▸ hd) k) hs (hk (av_lbin_sm hs))
  · exact av_lbin_ok (f := fun x y => .int (lg_cmp x y)) (fun hl H locs LS rest x y k => W.lcmp Fx.1 Fx.2.1 (hl ▸ hd) k) hs (hk (av_lbin_sm hs))
  · exact av_if1_ok (fun hl H locs LS rest x tgt ht kt kf => lv_if_eq Fx.1 Fx.2.1 (hl ▸ hd) ht kt kf) hs (hk (av_if1_sm hs))
  · exact av_if1_ok (fun hl H locs LS rest x tgt ht kt kf => lv_if_ne Fx.1 Fx.2.1 (hl ▸ hd) ht kt (fun z => kf (not_not_intro z))) hs (hk (av_if1_sm hs))
  · exact av_if1_ok (fun hl H locs LS rest x tgt ht kt kf => lv_if_lt Fx.1 Fx.2.1 (hl ▸ hd) ht kt kf) hs (hk (av_if1_sm hs))
  · exact av_if1_ok (fun hl H locs LS rest x tgt ht kt kf => lv_if_ge Fx.1 Fx.2.1 (hl ▸ hd) ht kt kf) hs (hk (av_if1_sm hs))
  · exact av_if1_ok (fun hl H locs LS rest x tgt ht kt kf => lv_if_gt Fx.1 Fx.2.1 (hl ▸ hd) ht kt kf) hs (hk (av_if1_sm hs))
  · exact av_if1_ok (fun hl H locs LS rest x tgt ht kt kf => lv_if_le Fx.1 Fx.2.1 (hl ▸ hd) ht kt kf) hs (hk (av_if1_sm hs))
  · exact av_if2_ok (fun hl H locs LS rest x y tgt ht kt kf => lv_icmp_eq Fx.1 Fx.2.1 (hl ▸ hd) ht kt kf) hs (hk (av_if2_sm hs))
  · exact av_if2_ok (fun hl H locs LS rest x y tgt ht kt kf => lv_icmp_ne Fx.1 Fx.2.1 (hl ▸ hd) ht kt (fun z => kf (not_not_intro z))) hs (hk (av_if2_sm hs))
  · exact av_if2_ok (fun hl H locs LS rest x y tgt ht kt kf => lv_icmp_lt Fx.1 Fx.2.1 (hl ▸ hd) ht kt kf) hs (hk (av_if2_sm hs))
  · exact av_if2_ok (fun hl H locs LS rest x y tgt ht kt kf => lv_icmp_ge Fx.1 Fx.2.1 (hl ▸ hd) ht kt kf) hs (hk (av_if2_sm hs))
  · exact av_if2_ok (fun hl H locs LS rest x y tgt ht kt kf => lv_icmp_gt Fx.1 Fx.2.1 (hl ▸ hd) ht kt kf) hs (hk (av_if2_sm hs))
  · exact av_if2_ok (fun hl H locs LS rest x y tgt ht kt kf => lv_icmp_le Fx.1 Fx.2.1 (hl ▸ hd) ht kt kf) hs (hk (av_if2_sm hs))
  · split at hs
    · rename_i hl
      subst hl
      obtain ⟨tgt, ht, h⟩ := av_tgt_ok hs
      cases h
      intro H locs LS X
      exact lv_goto Fx.1 Fx.2.1 hd ht (hk ⟨rfl, rfl⟩ H locs LS X)
    · cases hs
  · exact av_tab_ok Fx.1 Fx.2.1 hd hs (hk (av_tab_sm hs))
  · exact av_getf_ok Fx hd hs (hk (av_getf_sm hs))
  · exact av_putf_ok Fx hd hs (hk (av_putf_sm hs))
  · split at hs
    · rename_i h99
      exact av_sald_ok Fx hX h99 hd hs (hk (av_sald_sm hs))
    · exact av_iald_ok Fx hd hs (hk (av_xald_sm hs))
  · exact av_cald_ok Fx hd hs (hk (av_xald_sm hs))
  · exact av_iast_ok Fx hd hs (hk (av_xast_sm hs))
  · exact av_cast_ok Fx hd hs (hk (av_xast_sm hs))
  · exact av_rald_ok Fx hd hs (hk (av_rald_sm hs))
  · exact av_rast_ok Fx hd hs (hk (av_rast_sm hs))
  · split at hs
    · rename_i h99
      exact av_slen_ok Fx hX h99 hd hs (hk (av_slen_sm hs))
    · exact av_alen_ok Fx hd hs (hk (av_alen_sm hs))
  · exact av_newi_ok Fx hA hd hs hc k
  · exact av_newc_ok Fx hA hd hs hc k
  · exact av_newr_ok Fx hA hd hs hc k
  · exact av_new_ok Fx hA hd hs hc k
  · exact av_dup_ok Fx hd hs (hk (av_dup_sm hs))
  · exact av_dup2_ok Fx hd hs (hk (av_dup2_sm hs))
  · exact av_pop_ok Fx hd hs (hk (av_pop_sm hs))
  · exact av_ifn_ok Fx hd hs (hk (av_ifn_sm hs))
  · exact av_obj_ok2 Fx hR hd hs (hk (av_obj_sm hs))
  · exact av_mmx_ok Fx ⟨Nat.le_trans (Nat.le_add_right _ _) hc.1, Nat.le_trans (Nat.le_add_right _ _) hc.2⟩ hR hd hs (hk (av_mmx_sm hs))
  · cases hs
theorem av_up_scr {g : Nat → av_E} {k n : Nat} {e : av_E} (hk : k < n) (hn : n ≤ 1000) : av_up g k e av_scr = g av_scr := if_neg (by unfold av_scr; omega)
theorem av_push_sw {n : Nat} {v : Value} (hs : av_push n len pc ls v st w = some (pc2, ls2, st2, w2)) : w2 = w := by
  unfold av_push at hs
  try simp only [av_push, av_ifs] at hs
  (repeat' split at hs) <;> first | (cases hs; done) | (cases hs; rfl) | (rw [Option.map_eq_some_iff] at hs; obtain ⟨_, _, h⟩ := hs; cases h; rfl) | (obtain ⟨_, _, h⟩ := av_tgt_ok hs; cases h; rfl)
theorem av_ild_sw {n i : Nat} (hs : av_ild n i len pc ls st w = some (pc2, ls2, st2, w2)) : w2 = w := by
  unfold av_ild at hs
  try simp only [av_push, av_ifs] at hs
  (repeat' split at hs) <;> first | (cases hs; done) | (cases hs; rfl) | (rw [Option.map_eq_some_iff] at hs; obtain ⟨_, _, h⟩ := hs; cases h; rfl) | (obtain ⟨_, _, h⟩ := av_tgt_ok hs; cases h; rfl)
theorem av_lld_sw {n i : Nat} (hs : av_lld n i len pc ls st w = some (pc2, ls2, st2, w2)) : w2 = w := by
  unfold av_lld at hs
  try simp only [av_push, av_ifs] at hs
  (repeat' split at hs) <;> first | (cases hs; done) | (cases hs; rfl) | (rw [Option.map_eq_some_iff] at hs; obtain ⟨_, _, h⟩ := hs; cases h; rfl) | (obtain ⟨_, _, h⟩ := av_tgt_ok hs; cases h; rfl)
theorem av_ald_sw {n i : Nat} (hs : av_ald n i len pc ls st w = some (pc2, ls2, st2, w2)) : w2 = w := by
  unfold av_ald at hs
  try simp only [av_push, av_ifs] at hs
  (repeat' split at hs) <;> first | (cases hs; done) | (cases hs; rfl) | (rw [Option.map_eq_some_iff] at hs; obtain ⟨_, _, h⟩ := hs; cases h; rfl) | (obtain ⟨_, _, h⟩ := av_tgt_ok hs; cases h; rfl)
theorem av_ist_sw {n i : Nat} (hs : av_ist n i len pc ls st w = some (pc2, ls2, st2, w2)) : w2 = w := by
  unfold av_ist at hs
  try simp only [av_push, av_ifs] at hs
  (repeat' split at hs) <;> first | (cases hs; done) | (cases hs; rfl) | (rw [Option.map_eq_some_iff] at hs; obtain ⟨_, _, h⟩ := hs; cases h; rfl) | (obtain ⟨_, _, h⟩ := av_tgt_ok hs; cases h; rfl)
theorem av_ast_sw {n i : Nat} (hs : av_ast n i len pc ls st w = some (pc2, ls2, st2, w2)) : w2 = w := by
  unfold av_ast at hs
  try simp only [av_push, av_ifs] at hs
  (repeat' split at hs) <;> first | (cases hs; done) | (cases hs; rfl) | (rw [Option.map_eq_some_iff] at hs; obtain ⟨_, _, h⟩ := hs; cases h; rfl) | (obtain ⟨_, _, h⟩ := av_tgt_ok hs; cases h; rfl)
theorem av_iinc_sw {i : Nat} {n : Int} (hs : av_iinc i n len pc ls st w = some (pc2, ls2, st2, w2)) : w2 = w := by
  unfold av_iinc at hs
  try simp only [av_push, av_ifs] at hs
  (repeat' split at hs) <;> first | (cases hs; done) | (cases hs; rfl) | (rw [Option.map_eq_some_iff] at hs; obtain ⟨_, _, h⟩ := hs; cases h; rfl) | (obtain ⟨_, _, h⟩ := av_tgt_ok hs; cases h; rfl)
theorem av_bin_sw {f : Int32 → Int32 → Int32} (hs : av_bin f len pc ls st w = some (pc2, ls2, st2, w2)) : w2 = w := by
  unfold av_bin at hs
  try simp only [av_push, av_ifs] at hs
  (repeat' split at hs) <;> first | (cases hs; done) | (cases hs; rfl) | (rw [Option.map_eq_some_iff] at hs; obtain ⟨_, _, h⟩ := hs; cases h; rfl) | (obtain ⟨_, _, h⟩ := av_tgt_ok hs; cases h; rfl)
theorem av_div_sw {f : Int32 → Int32 → Int32} (hs : av_div f len pc ls st w = some (pc2, ls2, st2, w2)) : w2 = w := by
  unfold av_div at hs
  try simp only [av_push, av_ifs] at hs
  (repeat' split at hs) <;> first | (cases hs; done) | (cases hs; rfl) | (rw [Option.map_eq_some_iff] at hs; obtain ⟨_, _, h⟩ := hs; cases h; rfl) | (obtain ⟨_, _, h⟩ := av_tgt_ok hs; cases h; rfl)
theorem av_lbin_sw {f : Int64 → Int64 → Value} (hs : av_lbin f len pc ls st w = some (pc2, ls2, st2, w2)) : w2 = w := by
  unfold av_lbin at hs
  try simp only [av_push, av_ifs] at hs
  (repeat' split at hs) <;> first | (cases hs; done) | (cases hs; rfl) | (rw [Option.map_eq_some_iff] at hs; obtain ⟨_, _, h⟩ := hs; cases h; rfl) | (obtain ⟨_, _, h⟩ := av_tgt_ok hs; cases h; rfl)
theorem av_un_sw {f : Int32 → Value} (hs : av_un f len pc ls st w = some (pc2, ls2, st2, w2)) : w2 = w := by
  unfold av_un at hs
  try simp only [av_push, av_ifs] at hs
  (repeat' split at hs) <;> first | (cases hs; done) | (cases hs; rfl) | (rw [Option.map_eq_some_iff] at hs; obtain ⟨_, _, h⟩ := hs; cases h; rfl) | (obtain ⟨_, _, h⟩ := av_tgt_ok hs; cases h; rfl)
theorem av_if1_sw {cnd : Int32 → Prop} {dc : ∀ x, Decidable (cnd x)} {off : Int} (hs : av_if1 cnd off len pc ls st w = some (pc2, ls2, st2, w2)) : w2 = w := by
  unfold av_if1 at hs
  try simp only [av_push, av_ifs] at hs
  (repeat' split at hs) <;> first | (cases hs; done) | (cases hs; rfl) | (rw [Option.map_eq_some_iff] at hs; obtain ⟨_, _, h⟩ := hs; cases h; rfl) | (obtain ⟨_, _, h⟩ := av_tgt_ok hs; cases h; rfl)
theorem av_if2_sw {cnd : Int32 → Int32 → Prop} {dc : ∀ x y, Decidable (cnd x y)} {off : Int} (hs : av_if2 cnd off len pc ls st w = some (pc2, ls2, st2, w2)) : w2 = w := by
  unfold av_if2 at hs
  try simp only [av_push, av_ifs] at hs
  (repeat' split at hs) <;> first | (cases hs; done) | (cases hs; rfl) | (rw [Option.map_eq_some_iff] at hs; obtain ⟨_, _, h⟩ := hs; cases h; rfl) | (obtain ⟨_, _, h⟩ := av_tgt_ok hs; cases h; rfl)
theorem av_tab_sw {dflt lo hi : Int} {offs : Array Int} (hs : av_tab dflt lo hi offs pc ls st w = some (pc2, ls2, st2, w2)) : w2 = w := by
  unfold av_tab at hs
  try simp only [av_push, av_ifs] at hs
  (repeat' split at hs) <;> first | (cases hs; done) | (cases hs; rfl) | (rw [Option.map_eq_some_iff] at hs; obtain ⟨_, _, h⟩ := hs; cases h; rfl) | (obtain ⟨_, _, h⟩ := av_tgt_ok hs; cases h; rfl)
theorem av_getf_sw {own i : Nat} (hs : av_getf own i len pc ls st w = some (pc2, ls2, st2, w2)) : w2 = w := by
  unfold av_getf at hs
  try simp only [av_push, av_ifs] at hs
  (repeat' split at hs) <;> first | (cases hs; done) | (cases hs; rfl) | (rw [Option.map_eq_some_iff] at hs; obtain ⟨_, _, h⟩ := hs; cases h; rfl) | (obtain ⟨_, _, h⟩ := av_tgt_ok hs; cases h; rfl)
theorem av_xald_sw {t : Nat} (hs : av_xald t len pc ls st w = some (pc2, ls2, st2, w2)) : w2 = w := by
  unfold av_xald at hs
  try simp only [av_push, av_ifs] at hs
  (repeat' split at hs) <;> first | (cases hs; done) | (cases hs; rfl) | (rw [Option.map_eq_some_iff] at hs; obtain ⟨_, _, h⟩ := hs; cases h; rfl) | (obtain ⟨_, _, h⟩ := av_tgt_ok hs; cases h; rfl)
theorem av_rald_sw  (hs : av_rald len pc ls st w = some (pc2, ls2, st2, w2)) : w2 = w := by
  unfold av_rald at hs
  try simp only [av_push, av_ifs] at hs
  (repeat' split at hs) <;> first | (cases hs; done) | (cases hs; rfl) | (rw [Option.map_eq_some_iff] at hs; obtain ⟨_, _, h⟩ := hs; cases h; rfl) | (obtain ⟨_, _, h⟩ := av_tgt_ok hs; cases h; rfl)
theorem av_sald_sw  (hs : av_sald len pc ls st w = some (pc2, ls2, st2, w2)) : w2 = w := by
  unfold av_sald at hs
  try simp only [av_push, av_ifs] at hs
  (repeat' split at hs) <;> first | (cases hs; done) | (cases hs; rfl) | (rw [Option.map_eq_some_iff] at hs; obtain ⟨_, _, h⟩ := hs; cases h; rfl) | (obtain ⟨_, _, h⟩ := av_tgt_ok hs; cases h; rfl)
theorem av_slen_sw  (hs : av_slen len pc ls st w = some (pc2, ls2, st2, w2)) : w2 = w := by
  unfold av_slen at hs
  try simp only [av_push, av_ifs] at hs
  (repeat' split at hs) <;> first | (cases hs; done) | (cases hs; rfl) | (rw [Option.map_eq_some_iff] at hs; obtain ⟨_, _, h⟩ := hs; cases h; rfl) | (obtain ⟨_, _, h⟩ := av_tgt_ok hs; cases h; rfl)
theorem av_alen_sw  (hs : av_alen len pc ls st w = some (pc2, ls2, st2, w2)) : w2 = w := by
  unfold av_alen at hs
  try simp only [av_push, av_ifs] at hs
  (repeat' split at hs) <;> first | (cases hs; done) | (cases hs; rfl) | (rw [Option.map_eq_some_iff] at hs; obtain ⟨_, _, h⟩ := hs; cases h; rfl) | (obtain ⟨_, _, h⟩ := av_tgt_ok hs; cases h; rfl)
theorem av_dup_sw  (hs : av_dup len pc ls st w = some (pc2, ls2, st2, w2)) : w2 = w := by
  unfold av_dup at hs
  try simp only [av_push, av_ifs] at hs
  (repeat' split at hs) <;> first | (cases hs; done) | (cases hs; rfl) | (rw [Option.map_eq_some_iff] at hs; obtain ⟨_, _, h⟩ := hs; cases h; rfl) | (obtain ⟨_, _, h⟩ := av_tgt_ok hs; cases h; rfl)
theorem av_dup2_sw  (hs : av_dup2 len pc ls st w = some (pc2, ls2, st2, w2)) : w2 = w := by
  unfold av_dup2 at hs
  try simp only [av_push, av_ifs] at hs
  (repeat' split at hs) <;> first | (cases hs; done) | (cases hs; rfl) | (rw [Option.map_eq_some_iff] at hs; obtain ⟨_, _, h⟩ := hs; cases h; rfl) | (obtain ⟨_, _, h⟩ := av_tgt_ok hs; cases h; rfl)
theorem av_pop_sw  (hs : av_pop len pc ls st w = some (pc2, ls2, st2, w2)) : w2 = w := by
  unfold av_pop at hs
  try simp only [av_push, av_ifs] at hs
  (repeat' split at hs) <;> first | (cases hs; done) | (cases hs; rfl) | (rw [Option.map_eq_some_iff] at hs; obtain ⟨_, _, h⟩ := hs; cases h; rfl) | (obtain ⟨_, _, h⟩ := av_tgt_ok hs; cases h; rfl)
theorem av_ifn_sw  (hs : av_ifn len pc ls st w = some (pc2, ls2, st2, w2)) : w2 = w := by
  unfold av_ifn at hs
  try simp only [av_push, av_ifs] at hs
  (repeat' split at hs) <;> first | (cases hs; done) | (cases hs; rfl) | (rw [Option.map_eq_some_iff] at hs; obtain ⟨_, _, h⟩ := hs; cases h; rfl) | (obtain ⟨_, _, h⟩ := av_tgt_ok hs; cases h; rfl)
theorem av_ldc_sw {own i : Nat} (hs : av_ldc own i len pc ls st w = some (pc2, ls2, st2, w2)) : w2 = w := by
  unfold av_ldc at hs
  try simp only [av_push, av_ifs] at hs
  (repeat' split at hs) <;> first | (cases hs; done) | (cases hs; rfl) | (rw [Option.map_eq_some_iff] at hs; obtain ⟨_, _, h⟩ := hs; cases h; rfl) | (obtain ⟨_, _, h⟩ := av_tgt_ok hs; cases h; rfl)
theorem av_ldl_sw {own i : Nat} (hs : av_ldl own i len pc ls st w = some (pc2, ls2, st2, w2)) : w2 = w := by
  unfold av_ldl at hs
  try simp only [av_push, av_ifs] at hs
  (repeat' split at hs) <;> first | (cases hs; done) | (cases hs; rfl) | (rw [Option.map_eq_some_iff] at hs; obtain ⟨_, _, h⟩ := hs; cases h; rfl) | (obtain ⟨_, _, h⟩ := av_tgt_ok hs; cases h; rfl)
theorem av_obj_sw {own i h : Nat} (hs : av_obj own i h len pc ls st w = some (pc2, ls2, st2, w2)) : w2 = w := by
  unfold av_obj at hs
  try simp only [av_push, av_ifs] at hs
  (repeat' split at hs) <;> first | (cases hs; done) | (cases hs; rfl) | (rw [Option.map_eq_some_iff] at hs; obtain ⟨_, _, h⟩ := hs; cases h; rfl) | (obtain ⟨_, _, h⟩ := av_tgt_ok hs; cases h; rfl)
theorem av_mmx_sw {own i h : Nat} (hs : av_mmx own i h len pc ls st w = some (pc2, ls2, st2, w2)) : w2 = w := by
  unfold av_mmx at hs
  try simp only [av_push, av_ifs] at hs
  (repeat' split at hs) <;> first | (cases hs; done) | (cases hs; rfl) | (rw [Option.map_eq_some_iff] at hs; obtain ⟨_, _, h⟩ := hs; cases h; rfl) | (obtain ⟨_, _, h⟩ := av_tgt_ok hs; cases h; rfl)
theorem av_putf_sc {own i : Nat} {b : Bool} (hw : w.1 ≤ 1000) (hs : av_putf own b i len pc ls st w = some (pc2, ls2, st2, w2)) : w2.1 ≤ 1000 ∧ w2.2.2 av_scr = w.2.2 av_scr := by
  unfold av_putf at hs
  split at hs
  case h_2 => cases hs
  case h_1 =>
  split at hs
  case isFalse => cases hs
  case isTrue h0 =>
  (repeat' split at hs) <;> first | (cases hs; done) | (cases hs; exact ⟨hw, av_up_scr h0.1 hw⟩)
theorem av_xast_sc {g : Int32 → Int32} {t : Nat} (hw : w.1 ≤ 1000) (hs : av_xast g t len pc ls st w = some (pc2, ls2, st2, w2)) : w2.1 ≤ 1000 ∧ w2.2.2 av_scr = w.2.2 av_scr := by
  unfold av_xast at hs
  split at hs
  case h_2 => cases hs
  case h_1 =>
  split at hs
  case h_2 => cases hs
  case h_1 =>
  split at hs
  case isFalse => cases hs
  case isTrue h0 =>
  cases hs
  exact ⟨hw, av_up_scr h0.1 hw⟩
theorem av_rast_sc  (hw : w.1 ≤ 1000) (hs : av_rast len pc ls st w = some (pc2, ls2, st2, w2)) : w2.1 ≤ 1000 ∧ w2.2.2 av_scr = w.2.2 av_scr := by
  unfold av_rast at hs
  split at hs
  case h_2 => cases hs
  case h_1 =>
  split at hs
  case h_2 => cases hs
  case h_1 =>
  split at hs
  case isFalse => cases hs
  case isTrue h0 =>
  cases hs
  exact ⟨hw, av_up_scr h0.1.1 hw⟩
theorem av_newa_sc {t : Nat} (hw : w.1 ≤ 1000) (hs : av_newa t len pc ls st w = some (pc2, ls2, st2, w2)) : w2.1 ≤ 1000 ∧ w2.2.2 av_scr = w.2.2 av_scr := by
  unfold av_newa at hs
  simp only [av_wf, Bool.and_eq_true, decide_eq_true_eq] at hs
  split at hs
  case h_2 => cases hs
  case h_1 =>
  split at hs
  case isFalse => cases hs
  case isTrue h0 =>
  cases hs
  have h9 : w.1 < 1000 := h0.2.2.2.1.1.1
  exact ⟨h9, av_up_scr h9 (Nat.le_refl 1000)⟩
theorem av_newr_sc {own i : Nat} (hw : w.1 ≤ 1000) (hs : av_newr own i len pc ls st w = some (pc2, ls2, st2, w2)) : w2.1 ≤ 1000 ∧ w2.2.2 av_scr = w.2.2 av_scr := by
  unfold av_newr at hs
  simp only [av_wf, Bool.and_eq_true, decide_eq_true_eq] at hs
  split at hs
  case h_2 => cases hs
  case h_1 =>
  split at hs
  case isFalse => cases hs
  case isTrue h0 =>
  cases hs
  have h9 : w.1 < 1000 := h0.2.2.2.1.1.1
  exact ⟨h9, av_up_scr h9 (Nat.le_refl 1000)⟩
theorem av_new_sc {own i : Nat} (hw : w.1 ≤ 1000) (hs : av_new own i len pc ls st w = some (pc2, ls2, st2, w2)) : w2.1 ≤ 1000 ∧ w2.2.2 av_scr = w.2.2 av_scr := by
  unfold av_new at hs
  simp only [av_wf, Bool.and_eq_true, decide_eq_true_eq] at hs
  split at hs
  case h_2 => cases hs
  case h_1 =>
  split at hs
  case isFalse => cases hs
  case isTrue h0 =>
  cases hs
  have h9 : w.1 < 1000 := h0.2.1.1.1
  exact ⟨h9, av_up_scr h9 (Nat.le_refl 1000)⟩
set_option maxHeartbeats 4000000 in
theorem av_step_sc {M : av_M} {i : Instr} (hw : w.1 ≤ 1000) (hs : av_step M i len pc ls st w = some (pc2, ls2, st2, w2)) : w2.1 ≤ 1000 ∧ w2.2.2 av_scr = w.2.2 av_scr := by
  have hsm : w2 = w → w2.1 ≤ 1000 ∧ w2.2.2 av_scr = w.2.2 av_scr := fun h => by subst h; exact ⟨hw, rfl⟩
  unfold av_step at hs
  split at hs
  · exact hsm (av_ald_sw hs)
  · exact hsm (av_ild_sw hs)
  · exact hsm (av_ild_sw hs)
  · exact hsm (av_lld_sw hs)
  · exact hsm (av_lld_sw hs)
  · exact hsm (av_ist_sw hs)
  · exact hsm (av_ist_sw hs)
  · exact hsm (av_ast_sw hs)
  · exact hsm (av_iinc_sw hs)
  · exact hsm (av_push_sw hs)
  · exact hsm (av_push_sw hs)
  · exact hsm (av_push_sw hs)
  · exact hsm (av_push_sw hs)
  · exact hsm (av_ldc_sw hs)
  · exact hsm (av_ldl_sw hs)
  · exact hsm (av_bin_sw hs)
  · exact hsm (av_bin_sw hs)
  · exact hsm (av_bin_sw hs)
  · exact hsm (av_bin_sw hs)
  · exact hsm (av_bin_sw hs)
  · exact hsm (av_bin_sw hs)
  · exact hsm (av_bin_sw hs)
  · exact hsm (av_bin_sw hs)
  · exact hsm (av_div_sw hs)
  · exact hsm (av_div_sw hs)
  · exact hsm (av_un_sw hs)
  · exact hsm (av_un_sw hs)
  · exact hsm (av_un_sw hs)
  · exact hsm (av_lbin_sw hs)
  · exact hsm (av_lbin_sw hs)
  · exact hsm (av_lbin_sw hs)
  · exact hsm (av_if1_sw hs)
  · exact hsm (av_if1_sw hs)
  · exact hsm (av_if1_sw hs)
  · exact hsm (av_if1_sw hs)
  · exact hsm (av_if1_sw hs)
  · exact hsm (av_if1_sw hs)
  · exact hsm (av_if2_sw hs)
  · exact hsm (av_if2_sw hs)
  · exact hsm (av_if2_sw hs)
  · exact hsm (av_if2_sw hs)
  · exact hsm (av_if2_sw hs)
  · exact hsm (av_if2_sw hs)
  · split at hs
    · obtain ⟨_, _, h⟩ := av_tgt_ok hs
      cases h
      exact ⟨hw, rfl⟩
    · cases hs
  · exact hsm (av_tab_sw hs)
  · exact hsm (av_getf_sw hs)
  · exact av_putf_sc hw hs
  · split at hs
    · exact hsm (av_sald_sw hs)
    · exact hsm (av_xald_sw hs)
  · exact hsm (av_xald_sw hs)
  · exact av_xast_sc hw hs
  · exact av_xast_sc hw hs
  · exact hsm (av_rald_sw hs)
  · exact av_rast_sc hw hs
  · split at hs
    · exact hsm (av_slen_sw hs)
    · exact hsm (av_alen_sw hs)
  · exact av_newa_sc hw hs
  · exact av_newa_sc hw hs
  · exact av_newr_sc hw hs
  · exact av_new_sc hw hs
  · exact hsm (av_dup_sw hs)
  · exact hsm (av_dup2_sw hs)
  · exact hsm (av_pop_sw hs)
  · exact hsm (av_ifn_sw hs)
  · exact hsm (av_obj_sw hs)
  · exact hsm (av_mmx_sw hs)
  · cases hs
end AVS2
end
section
/-! ===== the machine is sound, 3: returns, calls, whole runs ===== -/
def av_Pc (D : va_G) (kk : Nat → ClassId) (ad : Nat → Nat) (w : av_W) (sz : Nat) (U : State) : Prop := U.heap.size = sz ∧ va_P D vwCl (av_cW ad kk w) U.heap ∧ av_K D kk U ∧ va_D (fun _ => True) (av_cW ad kk w)
def av_Qc (D : va_G) (kk : Nat → ClassId) (ad : Nat → Nat) (w w2 : av_W) (r : Option Value) (A : Nat → Prop) : Array Value → State → Outcome → State → Prop := fun _ st oc t =>
  (∃ ad2 : Nat → Nat, av_agr w.1 ad ad2 ∧ (w2.1 = w.1 → ad2 = ad) ∧ oc = .returned (r.map (av_cv ad2)) ∧ va_P D vwCl (av_cW ad2 kk w2) t.heap ∧ va_D A (av_cW ad2 kk w2)) ∧ va_F A st t
def av_rm (M : av_M) (mc ms : Nat) : Room := { frames := M.2.2.2.2.2.1, cells := mc, slots := ms, locals := 35 * M.2.2.2.2.2.1 }
theorem av_mo : ∀ (f : Nat) (M : av_M) (pc : Nat) (ls : av_L) (st : List Value) (w : av_W) (r : Option Value) (w2 : av_W), arun f M pc ls st w = some (r, w2) → w.1 ≤ w2.1 ∧ w.2.1 ≤ w2.2.1 := by
  intro f
  induction f with
  | zero =>
    intro M pc ls st w r w2 h
    cases h
  | succ f ih =>
    intro M pc ls st w r w2 h
    unfold arun at h
    split at h
    case h_2 => cases h
    case h_1 =>
    split at h
    case h_1 =>
      cases h
      exact ⟨Nat.le_refl _, Nat.le_refl _⟩
    case h_2 =>
    split at h
    case h_1 =>
      split at h
      case isFalse => cases h
      case isTrue =>
      split at h
      case h_2 => cases h
      case h_1 =>
      rename_i r2 w3 h3
      split at h
      case isFalse => cases h
      case isTrue =>
      have q1 := ih _ _ _ _ _ _ _ h3
      have q2 := ih _ _ _ _ _ _ _ h
      exact ⟨Nat.le_trans q1.1 q2.1, Nat.le_trans q1.2 q2.2⟩
    case h_2 =>
      split at h
      case h_2 => cases h
      case h_1 =>
      rename_i hs
      have q1 := av_step_mo hs
      have q2 := ih _ _ _ _ _ _ _ h
      exact ⟨Nat.le_trans q1.1 q2.1, Nat.le_trans q1.2 q2.2⟩
theorem av_sc : ∀ (f : Nat) (M : av_M) (pc : Nat) (ls : av_L) (st : List Value) (w : av_W) (r : Option Value) (w2 : av_W), w.1 ≤ 1000 → arun f M pc ls st w = some (r, w2) → w2.1 ≤ 1000 ∧ w2.2.2 av_scr = w.2.2 av_scr := by
  intro f
  induction f with
  | zero =>
    intro M pc ls st w r w2 hw h
    cases h
  | succ f ih =>
    intro M pc ls st w r w2 hw h
    unfold arun at h
    split at h
    case h_2 => cases h
    case h_1 =>
    split at h
    case h_1 =>
      cases h
      exact ⟨hw, rfl⟩
    case h_2 =>
    split at h
    case h_1 =>
      split at h
      case isFalse => cases h
      case isTrue =>
      split at h
      case h_2 => cases h
      case h_1 =>
      rename_i r2 w3 h3
      split at h
      case isFalse => cases h
      case isTrue =>
      have q1 := ih _ _ _ _ _ _ _ hw h3
      have q2 := ih _ _ _ _ _ _ _ q1.1 h
      exact ⟨q2.1, q2.2.trans q1.2⟩
    case h_2 =>
      split at h
      case h_2 => cases h
      case h_1 =>
      rename_i hs
      have q1 := av_step_sc hw hs
      have q2 := ih _ _ _ _ _ _ _ q1.1 h
      exact ⟨q2.1, q2.2.trans q1.2⟩
/-- the arguments as locals -/
theorem av_ents_at (ad : Nat → Nat) : ∀ (vs : List Value) (o i : Nat) (v : Value), (av_ents vs)[i]? = some (some v) → (o + i, av_cv ad v) ∈ lv_args o (vs.map (av_cv ad)) := by
  intro vs
  induction vs with
  | nil =>
    intro o i v h
    simp [av_ents] at h
  | cons u vs ih =>
    intro o i v h
    simp only [List.map_cons, lv_args, av_cat]
    unfold av_ents at h
    by_cases hu : u.category = 2
    · rw [if_pos hu] at h
      rw [if_pos hu]
      match i, h with
      | 0, h =>
        cases h
        exact List.mem_cons_self
      | 1, h => cases h
      | i + 2, h =>
        have h1 := ih (o + 2) i v h
        rw [show o + 2 + i = o + (i + 2) by omega] at h1
        exact List.mem_cons_of_mem _ h1
    · rw [if_neg hu] at h
      rw [if_neg hu]
      match i, h with
      | 0, h =>
        cases h
        exact List.mem_cons_self
      | i + 1, h =>
        have h1 := ih (o + 1) i v h
        rw [show o + 1 + i = o + (i + 1) by omega] at h1
        exact List.mem_cons_of_mem _ h1
theorem av_ents_sl (ad : Nat → Nat) : ∀ vs : List Value, (lg_sl (vs.map (av_cv ad))).length = (av_ents vs).length := by
  intro vs
  induction vs with
  | nil => rfl
  | cons u vs ih =>
    unfold lg_sl at ih ⊢
    rw [List.map_cons, List.flatMap_cons, List.length_append, ih]
    simp only [av_cat]
    by_cases hu : u.category = 2
    · simp [hu, av_ents]
      omega
    · simp [hu, av_ents]
      omega
theorem av_ent_LH (ad : Nat → Nat) (vs : List Value) (n : Nat) (h : (av_ents vs).length ≤ n) : av_LH ad ((lg_sl (vs.map (av_cv ad)) ++ List.replicate (n - (lg_sl (vs.map (av_cv ad))).length) Slot.unset).toArray) n (av_ent vs n) := by
  have h1 := lv_entry (vs.map (av_cv ad)) (n := n) (by rw [av_ents_sl]; exact h)
  refine ⟨by simp [av_ent]; omega, h1.1, h1.2.1, ?_⟩
  rintro ⟨i, x⟩ hq
  obtain ⟨v, hv, rfl⟩ := av_as_mem.mp hq
  have hv2 : (av_ents vs)[i]? = some (some v) := by
    unfold av_ent at hv
    by_cases hi : i < (av_ents vs).length
    · rwa [List.getElem?_append_left hi] at hv
    · rw [List.getElem?_append_right (by omega)] at hv
      have := List.mem_of_getElem? hv
      rw [List.mem_replicate] at this
      cases this.2
  have h2 := av_ents_at ad vs 0 i v hv2
  rw [Nat.zero_add] at h2
  exact h1.2.2 _ h2
section AVS3
variable {p : Program} {l : Launch} {e : Env} {R : Room} {s : State} {m : MethodId} {args : Array Value} {below : List Frame} {meth : Method} {c : Code} {cells slots : Nat} {Q : State → Prop}
variable {D : va_G} {kk : Nat → ClassId} {A : Nat → Prop} {ad : Nat → Nat} {len pc pc2 : Nat} {ls ls2 : av_L} {st st2 : List Value} {w w2 wF : av_W}
theorem av_ret_ok {M : av_M} (Fx : av_Fx p m c s args D kk meth M) (hlocks : meth.locks = false) (hret : meth.sig.returnType = M.2.2.2.1) {i : Instr} (hd : decode M.2.1 pc = .ok (i, len)) {r : Option Value} (hs : av_ret M i len st = some r) {Qc : Array Value → State → Outcome → State → Prop} {free : Addr → Prop} {mc ms : Nat} (hmc : cells ≤ mc ∧ slots ≤ ms)
    (hq : ∀ (H : Heap) (locs : List Loc) (t : State), va_P D vwCl (av_cW ad kk w) H → va_D A (av_cW ad kk w) → va_S A s.heap H locs → t.heap = H → s.WarmedH t.vm → Qc args s (.returned (r.map (av_cv ad))) t) (hf : ∀ q, A q → free q) :
    av_go p l e R s m args below meth c D kk A ad M.2.2.1 cells slots (MQ below Qc args s mc ms free) pc ls st w := by
  obtain ⟨hx, hb, hml, hown, hts, hK, hnm⟩ := Fx
  intro H locs LS X
  refine W.widen (k := mc) (n := ms) hmc.1 hmc.2 ?_
  have hq2 : ∀ t : State, t.heap = H → s.WarmedH t.vm → Qc args s (.returned (r.map (av_cv ad))) t := fun t h1 h2 => hq H locs t X.1 X.2.1 X.2.2.1 h1 h2
  have hf2 : ∀ q ∈ locs, free q.base := fun q h => hf _ (X.2.2.1.2.2 q h)
  unfold av_ret at hs
  split at hs
  · split at hs
    case h_2 => cases hs
    case h_1 =>
    rename_i v
    split at hs
    case h_2 => cases hs
    case h_1 =>
    rename_i ty hty
    split at hs
    case isFalse => cases hs
    case isTrue h0 =>
    obtain ⟨rfl, hfit⟩ := h0
    cases hs
    exact W.zret hx hb (ty := ty) (by rw [hret, hty]) (av_fit_ok ad hfit).1 hq2 hf2 hd hlocks
  · split at hs
    case h_2 => cases hs
    case h_1 =>
    split at hs
    case isFalse => cases hs
    case isTrue h0 =>
    obtain ⟨rfl, hty⟩ := h0
    cases hs
    exact W.vret hx hb (by rw [hret, hty]) hq2 hf2 hd hlocks
  · split at hs
    case h_2 => cases hs
    case h_1 =>
    rename_i a
    split at hs
    case h_2 => cases hs
    case h_1 =>
    rename_i ty hty
    split at hs
    case isFalse => cases hs
    case isTrue h0 =>
    obtain ⟨rfl, hfit⟩ := h0
    cases hs
    refine W.aret hx hb (rt := ty) (by rw [hret, hty]) ?_ (Or.inr ⟨_, rfl⟩) hq2 hf2 hd hlocks
    unfold av_fit at hfit
    split at hfit
    · rename_i hz
      cases hz
    · rename_i hz
      cases hz
    · rename_i hz
      cases hz
    · exact Or.inl ⟨_, rfl⟩
    · exact Or.inr ⟨_, rfl⟩
    · cases hfit
  · cases hs
/-- behind a call -/
theorem av_after {H : Heap} {locs : List Loc} {LS : Array Slot} {nL mc ms : Nat} {st0 rest : List Value} {aargs : Array Value} {r : Option Value}
    (hr : va_Run p l e R s m args below meth c H locs cells slots mc ms (F0 m pc LS st0) (rest.map (av_cv ad)) (av_Qc D kk ad w w2 r (va_A (av_cW ad kk w) H.size) aargs) (va_A (av_cW ad kk w) H.size)) (X : av_St D kk A s ad w H locs LS nL ls) (hA : ∀ q, s.heap.size ≤ q → A q) (hback : av_back ls rest w w2 = true)
    (k : ∀ ad2 : Nat → Nat, av_agr w.1 ad ad2 → (w2.1 = w.1 → ad2 = ad) → av_go p l e R s m args below meth c D kk A ad2 nL (cells + mc) (slots + ms) Q (pc + 3) ls (r.toList ++ rest) w2) : W p l e R s m args below meth c H locs cells slots Q (F0 m pc LS st0) := by
  have hfree := va_free (wc := av_cW ad kk w) X.2.1 X.2.2.1 hA (List.range (av_cW ad kk w).length) (by
    apply List.ext_getElem?
    intro i
    by_cases hi : i < (av_cW ad kk w).length
    · simp [hi]
    · simp [hi])
  intro T hT XX
  obtain ⟨v, st₀, t, T', L, h0, X', hL, e1, e2, ⟨⟨ad2, ha, hb, hv, hP, hD⟩, hz, hk⟩, st⟩ := hr T hT XX
  cases hv
  rw [h0] at hz hk
  have hLH : av_LH ad2 LS nL ls ∧ rest.map (av_cv ad2) = rest.map (av_cv ad) := by
    unfold av_back at hback
    simp only [Bool.or_eq_true, beq_iff_eq, Bool.and_eq_true] at hback
    rcases hback with h | h
    · rw [hb h]
      exact ⟨X.2.2.2, rfl⟩
    · exact ⟨X.2.2.2.ext ha h.1, av_cvs_ext ha h.2⟩
  have hS2 : va_S A s.heap T'.heap (locs ++ L) := by
    refine ⟨Nat.le_trans X.2.2.1.1 (by rw [e1]; exact hz), fun q h1 h2 => ?_, fun q hq => ?_⟩
    · rw [e1, hk q (Nat.lt_of_lt_of_le h1 X.2.2.1.1) (fun z => h2 (hfree q z))]
      exact X.2.2.1.2.1 q h1 h2
    · rcases List.mem_append.mp hq with h | h
      · exact X.2.2.1.2.2 q h
      · exact hfree _ (hL q h)
  have hD2 : va_D A (av_cW ad2 kk w2) := ⟨hD.1, fun k q h => hfree _ (hD.2 k q h)⟩
  obtain ⟨t2, a1, b1⟩ := k ad2 ha hb T'.heap (locs ++ L) LS ⟨by rw [e1]; exact hP, hD2, hS2, hLH.1⟩ T' rfl X'
  refine ⟨t2, st t2 ?_, b1⟩
  rw [List.map_append, hLH.2] at a1
  have e3 : (Option.map (av_cv ad2) r).toList = List.map (av_cv ad2) r.toList := by cases r <;> rfl
  rw [e3]
  exact a1
end AVS3
end
section
/-! ===== the machine is sound, 4: whole runs ===== -/
theorem av_ns_shape {w : Cond} (h : w ∈ av_ns) : (∃ a i x h, w = .methodLinkNest a i x h) ∨ (∃ a i b n d h, w = .fieldLinkNest a i b n d h) ∨ ∃ C, w = .arrayOver (.object C) := by
  have h1 := (List.mem_filter.mp h).2
  split at h1
  · exact Or.inl ⟨_, _, _, _, rfl⟩
  · exact Or.inr (Or.inl ⟨_, _, _, _, _, _, rfl⟩)
  · exact Or.inr (Or.inr ⟨_, rfl⟩)
  · cases h1
theorem av_K.warm {D : va_G} {kk : Nat → ClassId} {s U : State} (hW : s.WarmedH U.vm) (h : av_K D kk s) : av_K D kk U := by
  refine ⟨va_K.moved hW.alike h.1, fun w hw => ?_⟩
  have h1 := h.2 w hw
  rcases av_ns_shape hw with ⟨a, i, x, h, rfl⟩ | ⟨a, i, b, n, d, h, rfl⟩ | ⟨C, rfl⟩
  · exact va_Nw.warmM hW h1
  · exact va_Nw.warmF hW h1
  · exact va_AO.moved hW.alike h1
theorem av_K.call {D : va_G} {kk : Nat → ClassId} {U : State} {g : JFrame} {mk : MethodId} {a : Array Value} (h : av_K D kk U) : av_K D kk (U.calling g mk a) := by
  refine ⟨va_K.moved (u := U) (U := U.calling g mk a) (Vm.Alike.refl U.vm) h.1, fun w hw => ?_⟩
  have h1 := h.2 w hw
  rcases av_ns_shape hw with ⟨a, i, x, h, rfl⟩ | ⟨a, i, b, n, d, h, rfl⟩ | ⟨C, rfl⟩
  · exact va_Nw.same (u := U) rfl rfl h1
  · exact va_Nw.same (u := U) rfl rfl h1
  · exact va_AO.moved (u := U) (U := U.calling g mk a) (Vm.Alike.refl U.vm) h1
theorem av_ws_good : GoodIn av_ws av_ws := fun w hw => ⟨hw, good_of_word (List.mem_filter.mp hw).2⟩
theorem av_code_in {M : av_M} (hM : M ∈ av_MT) : GoodIn av_ws (Cond.code M.1 M.2.1 M.2.2.1 M.2.2.2.1 :: av_ws) := by
  intro w hw
  rcases List.mem_cons.mp hw with rfl | h
  · exact av_ws_good _ (av_code_ws M hM)
  · exact av_ws_good _ h
theorem av_okM_at {M : av_M} (hM : M ∈ av_MT) : plainName M.1.cls = true ∧ M.1.cls = av_R M.2.2.2.2.1 ∧ Cond.initialized M.1.cls ∈ av_ws ∧ (M.1.cls ≠ "java/lang/invoke/MethodHandle" ∧ M.1.cls ≠ "java/lang/invoke/VarHandle") ∧ (parseMethodDescriptor M.1.desc).map (fun d => d.parameters.length) = some M.2.2.2.2.2.2 ∧ M.2.2.1 ≤ 16 ∧ M.2.2.2.2.1 < 6 := by
  obtain ⟨i, hi⟩ := List.getElem?_of_mem hM
  have hlt : i < av_MT.length := (List.getElem?_eq_some_iff.mp hi).1
  have hlt2 : i < av_inip.length := by rw [← av_MT_len]; exact hlt
  have hz : (av_MT.zip av_inip)[i]? = some (M, av_inip[i]) := by
    rw [List.getElem?_zip_eq_some]
    exact ⟨hi, List.getElem?_eq_getElem hlt2⟩
  have h := List.all_eq_true.mp av_MT_ok _ (List.mem_of_getElem? hz)
  simp only [av_okM, Bool.and_eq_true, decide_eq_true_eq, beq_iff_eq] at h
  obtain ⟨⟨⟨⟨⟨⟨⟨h1, h2⟩, h3⟩, h4⟩, h5⟩, h6⟩, h7⟩, h8⟩ := h
  exact ⟨h1, h2, av_inT_ws h3, ⟨h4, h5⟩, h6, h7, h8⟩
theorem av_res_ok {own i k : Nat} {M : av_M} (hf : av_res own i = some (k, M)) : M ∈ av_MT ∧ ∃ (host : String), (match k with
    | 0 => Cond.methodLink (av_R own) i M.1 ∈ av_ws ∧ Cond.instanceMethod M.1 ∈ av_ws ∧ Cond.selects M.1.cls M.1 M.1 ∈ av_ws
    | 1 => Cond.methodLinkNest (av_R own) i M.1 host ∈ av_ns ∧ Cond.instanceMethod M.1 ∈ av_ws ∧ Cond.selects M.1.cls M.1 M.1 ∈ av_ws
    | 2 => Cond.methodLink (av_R own) i M.1 ∈ av_ws ∧ Cond.static M.1 ∈ av_ws ∧ True
    | 3 => Cond.methodLinkNest (av_R own) i M.1 host ∈ av_ns ∧ Cond.static M.1 ∈ av_ws ∧ True
    | 4 => Cond.methodLink (av_R own) i M.1 ∈ av_ws ∧ Cond.instanceMethod M.1 ∈ av_ws ∧ (M.1.name = "<init>" ∧ M.2.2.2.1 = none)
    | 5 => Cond.methodLinkNest (av_R own) i M.1 host ∈ av_ns ∧ Cond.instanceMethod M.1 ∈ av_ws ∧ (M.1.name = "<init>" ∧ M.2.2.2.1 = none)
    | _ => False) := by
  unfold av_res at hf
  rw [Option.bind_eq_some_iff] at hf
  obtain ⟨q, h1, h2⟩ := hf
  rw [Option.map_eq_some_iff] at h2
  obtain ⟨M2, h5, h6⟩ := h2
  have h3 := List.find?_some h1
  have h4 := List.all_eq_true.mp av_resL_ok q (List.mem_of_find?_eq_some h1)
  obtain ⟨o, j, c2, mid, host, p1, p2, p3⟩ := q
  cases h6
  simp only [Bool.and_eq_true, beq_iff_eq] at h3
  obtain ⟨rfl, rfl⟩ := h3
  refine ⟨List.mem_of_getElem? h5, host, ?_⟩
  unfold av_okR at h4
  rw [h5] at h4
  match c2, h4 with
  | 0, h4 =>
    simp only [Bool.and_eq_true] at h4
    exact ⟨av_inT_ws h4.1.1, av_inT_ws h4.1.2, av_inT_ws h4.2⟩
  | 1, h4 =>
    simp only [Bool.and_eq_true] at h4
    exact ⟨av_inN_ns h4.1.1, av_inT_ws h4.1.2, av_inT_ws h4.2⟩
  | 2, h4 =>
    simp only [Bool.and_eq_true] at h4
    exact ⟨av_inT_ws h4.1, av_inT_ws h4.2, trivial⟩
  | 3, h4 =>
    simp only [Bool.and_eq_true] at h4
    exact ⟨av_inN_ns h4.1, av_inT_ws h4.2, trivial⟩
  | 4, h4 =>
    simp only [Bool.and_eq_true, beq_iff_eq, decide_eq_true_eq] at h4
    exact ⟨av_inT_ws h4.1.1.1, av_inT_ws h4.1.1.2, h4.1.2, h4.2⟩
  | 5, h4 =>
    simp only [Bool.and_eq_true, beq_iff_eq, decide_eq_true_eq] at h4
    exact ⟨av_inN_ns h4.1.1.1, av_inT_ws h4.1.1.2, h4.1.2, h4.2⟩
  | k + 6, h4 => cases h4
theorem av_cut_ok {M M2 : av_M} {len idx k : Nat} {ks : List Nat} {stat : Bool} {st as rest : List Value} (h : av_cut M len idx ks stat st = some (k, M2, as, rest)) :
    len = 3 ∧ k ∈ ks ∧ av_res M.2.2.2.2.1 idx = some (k, M2) ∧ M2.2.2.2.2.2.1 < M.2.2.2.2.2.1 ∧ as.length = M2.2.2.2.2.2.2 + (if stat then 0 else 1) ∧ (rest.map (fun v => v.category)).sum ≤ 8 ∧ st = as.reverse ++ rest := by
  unfold av_cut at h
  split at h
  case h_2 => cases h
  case h_1 =>
  rename_i k0 M0 hres
  dsimp only at h
  obtain ⟨⟨h1, h2, h3, h4, h5⟩, h6⟩ := Option.ite_none_right_eq_some.mp h
  cases h6
  refine ⟨h1, h2, hres, h3, ?_, h5, ?_⟩
  · rw [List.length_reverse, List.length_take]
    omega
  · rw [List.reverse_reverse, List.take_append_drop]
def av_snd (l : Launch) (f : Nat) : Prop := ∀ (M : av_M) (pc : Nat) (ls : av_L) (st : List Value) (w : av_W) (r : Option Value) (wF : av_W), arun f M pc ls st w = some (r, wF) →
  ∀ (p : Program) (e : Env) (R : Room) (s : State) (m : MethodId) (args : Array Value) (below : List Frame) (meth : Method) (c : Code) (D : va_G) (kk : Nat → ClassId) (A : Nat → Prop) (ad : Nat → Nat) (cells slots mc ms : Nat) (Q : State → Prop),
    w.1 ≤ 1000 → av_Fx p m c s args D kk meth M → av_SX s A ad w M → (∀ q, s.heap.size ≤ q → A q) → (M.2.2.2.2.2.1 ≤ R.frames ∧ 35 * M.2.2.2.2.2.1 ≤ R.locals) → (cells + (wF.1 - w.1) ≤ mc ∧ slots + (wF.2.1 - w.2.1) ≤ ms) → (mc ≤ R.cells ∧ ms ≤ R.slots) →
    (∀ (ad2 : Nat → Nat) (pc2 len : Nat) (i : Instr) (st2 : List Value) (ls2 : av_L) (cells2 slots2 : Nat), av_agr w.1 ad ad2 → (wF.1 = w.1 → ad2 = ad) → decode M.2.1 pc2 = .ok (i, len) → av_ret M i len st2 = some r → (cells2 ≤ mc ∧ slots2 ≤ ms) → av_go p l e R s m args below meth c D kk A ad2 M.2.2.1 cells2 slots2 Q pc2 ls2 st2 wF) →
    av_go p l e R s m args below meth c D kk A ad M.2.2.1 cells slots Q pc ls st w
/-- the contract of a method out of a run of the machine -/
theorem av_met {l : Launch} {f : Nat} (IH : av_snd l f) {M : av_M} (hM : M ∈ av_MT) {as : List Value} {w w2 : av_W} (hw : w.1 ≤ 1000) {r : Option Value} (h : arun f M 0 (av_ent as M.2.2.1) [] w = some (r, w2)) (hents : (av_ents as).length ≤ M.2.2.1) (D : va_G) (kk : Nat → ClassId) (ad : Nat → Nat) (sz : Nat) :
    Met l M.1 (Cond.code M.1 M.2.1 M.2.2.1 M.2.2.2.1 :: av_ws) (av_rm M (w2.1 - w.1) (w2.2.1 - w.2.1)) (va_Pc (as.map (av_cv ad)) (av_Pc D kk ad w sz)) (av_Qc D kk ad w w2 r (va_A (av_cW ad kk w) sz)) (w2.1 - w.1) (w2.2.1 - w.2.1) (va_A (av_cW ad kk w) sz) := by
  obtain ⟨o1, o2, o3, o4, o5, o6, o7⟩ := av_okM_at hM
  refine Met.ofW (cc := M.2.1) (maxL := M.2.2.1) (ret := M.2.2.2.1) o1 rfl ?_
  intro p e s m args below meth c s₁ B hml hv
  obtain ⟨rfl, hsz, hP, hK, hD0⟩ := hv
  have hts := atoms_spec (ws := Cond.code M.1 M.2.1 M.2.2.1 M.2.2.2.1 :: av_ws) B.pre
  have hown : s.vm.findClass (av_R M.2.2.2.2.1) = some m.cls := o2 ▸ findClass_of_methodNamed B.named
  have hnm : av_isInit M = true → meth.name = "<init>" := fun h => by
    rw [(name_of_methodNamed B.named B.method).1]
    simpa [av_isInit] using h
  subst hsz
  have hD := hD0.self (sz := s.heap.size)
  rw [lg_entry_eq]
  have hgo := IH M 0 (av_ent as M.2.2.1) [] w r w2 h p e (headSpec (Cond.code M.1 M.2.1 M.2.2.1 M.2.2.2.1 :: av_ws) (av_rm M (w2.1 - w.1) (w2.2.1 - w.2.1))).room s m (as.map (av_cv ad)).toArray below meth c D kk (va_A (av_cW ad kk w) s.heap.size) ad 0 0 (w2.1 - w.1) (w2.2.1 - w.2.1)
    (MQ below (av_Qc D kk ad w w2 r (va_A (av_cW ad kk w) s.heap.size)) (as.map (av_cv ad)).toArray s (w2.1 - w.1) (w2.2.1 - w.2.1) (va_A (av_cW ad kk w) s.heap.size))
    hw ⟨B.exec, B.bytes, hml, hown, fun w h => hts w (List.mem_cons_of_mem _ h), hK, hnm⟩ (fun h99 => by omega) (fun q h => Or.inr h) ⟨Nat.le_refl _, Nat.le_refl _⟩ ⟨by omega, by omega⟩ ⟨Nat.le_refl _, Nat.le_refl _⟩
    (fun ad2 pc2 len i st2 ls2 cells2 slots2 h1 h2 h3 h4 h5 => av_ret_ok ⟨B.exec, B.bytes, hml, hown, fun w h => hts w (List.mem_cons_of_mem _ h), hK, hnm⟩ B.notSynchronized B.returns h3 h4 h5 (fun H locs t g1 g2 g3 g4 g5 => ⟨⟨ad2, h1, h2, rfl, by rw [g4]; exact g1, g2⟩, by rw [g4]; exact g3.1, by rw [g4]; exact g3.2.1⟩) (fun q h => h))
  exact hgo s.heap [] _ ⟨hP, hD, va_S.rf, av_ent_LH ad as M.2.2.1 hents⟩
theorem av_call_ok {l : Launch} {f : Nat} (IH : av_snd l f) {p : Program} {e : Env} {R : Room} {s : State} {m : MethodId} {args : Array Value} {below : List Frame} {meth : Method} {c : Code} {cells slots : Nat} {Q : State → Prop} {D : va_G} {kk : Nat → ClassId} {A : Nat → Prop} {ad : Nat → Nat} {len pc k : Nat} {ls : av_L} {st as rest : List Value} {w w2 : av_W} {M M2 : av_M} {i : Instr} {r : Option Value}
    (hw : w.1 ≤ 1000) (Fx : av_Fx p m c s args D kk meth M) (hA : ∀ q, s.heap.size ≤ q → A q) (hR : M.2.2.2.2.2.1 ≤ R.frames ∧ 35 * M.2.2.2.2.2.1 ≤ R.locals) (hd : decode M.2.1 pc = .ok (i, len)) (hi : av_inv M i len st = some (k, M2, as, rest)) (hrc : av_rcv k M2 as w = true) (hents : (av_ents as).length ≤ M2.2.2.1) (h3 : arun f M2 0 (av_ent as M2.2.2.1) [] w = some (r, w2)) (hback : av_back ls rest w w2 = true)
    (hc : cells + (w2.1 - w.1) ≤ R.cells ∧ slots + (w2.2.1 - w.2.1) ≤ R.slots)
    (kx : ∀ ad2 : Nat → Nat, av_agr w.1 ad ad2 → (w2.1 = w.1 → ad2 = ad) → av_go p l e R s m args below meth c D kk A ad2 M.2.2.1 (cells + (w2.1 - w.1)) (slots + (w2.2.1 - w.2.1)) Q (pc + 3) ls (r.toList ++ rest) w2) :
    av_go p l e R s m args below meth c D kk A ad M.2.2.1 cells slots Q pc ls st w := by
  obtain ⟨hx, hb, hml, hown, hts, hK, hnm⟩ := Fx
  intro H locs LS X
  have hblind : ∀ (v : List Value), FrameBlind (va_Pc v (av_Pc D kk ad w H.size)) := fun v a U g mk q => ⟨q.1, q.2.1, q.2.2.1, q.2.2.2.1.call, q.2.2.2.2⟩
  have hpre : ∀ U : State, U.heap = H → s.WarmedH U.vm → va_Pc (as.map (av_cv ad)) (av_Pc D kk ad w H.size) (as.map (av_cv ad)).toArray U := fun U hU hW => ⟨rfl, by rw [hU], by rw [hU]; exact X.1, hK.warm hW, X.2.1.weaken (fun _ _ _ _ => trivial)⟩
  have S : CallFix p m c M.2.1 M.2.2.1 s args av_ws (av_R M.2.2.2.2.1) := ⟨hx, hb, hml, hown, hts⟩
  have hsz : LS.size = M.2.2.1 := X.2.2.2.2.1
  have room : ∀ M3 : av_M, M3 ∈ av_MT → M3.2.2.2.2.2.1 < M.2.2.2.2.2.1 → (av_rm M3 (w2.1 - w.1) (w2.2.1 - w.2.1)).frames + 1 ≤ R.frames ∧ 8 + (M3.2.2.1 + 11) + (av_rm M3 (w2.1 - w.1) (w2.2.1 - w.2.1)).locals ≤ R.locals := fun M3 h4 h5 => by
    have := (av_okM_at h4).2.2.2.2.2.1
    unfold av_rm
    dsimp only
    omega
  have fin := fun (hr : va_Run p l e R s m args below meth c H locs cells slots (w2.1 - w.1) (w2.2.1 - w.2.1) (F0 m pc LS (st.map (av_cv ad))) (rest.map (av_cv ad)) (av_Qc D kk ad w w2 r (va_A (av_cW ad kk w) H.size) (as.map (av_cv ad)).toArray) (va_A (av_cW ad kk w) H.size)) => av_after hr X hA hback kx
  have base : ∀ idx : Nat, av_res M.2.2.2.2.1 idx = some (k, M2) → M2 ∈ av_MT → (∀ sig, parseMethodDescriptor M2.1.desc = some sig → M2.2.2.2.2.2.2 = sig.parameters.length) ∧ (Cond.code M2.1 M2.2.1 M2.2.2.1 M2.2.2.2.1).before args s = true ∧ (Cond.initialized M2.1.cls).before args s = true := fun idx h1 h2 => by
    obtain ⟨o1, o2, o3, o4, o5, o6, o7⟩ := av_okM_at h2
    exact ⟨fun sig hs => by rw [hs] at o5; exact (Option.some.inj o5).symm, hts _ (av_code_ws M2 h2), hts _ o3⟩
  have hres0 : ∃ (idx : Nat) (ks : List Nat) (stat : Bool), av_cut M len idx ks stat st = some (k, M2, as, rest) ∧ ((i = .invokevirtual idx ∧ ks = [0, 1] ∧ stat = false) ∨ (i = .invokestatic idx ∧ ks = [2, 3] ∧ stat = true) ∨ (i = .invokespecial idx ∧ ks = [4, 5] ∧ stat = false)) := by
    unfold av_inv at hi
    split at hi
    · exact ⟨_, _, _, hi, Or.inl ⟨rfl, rfl, rfl⟩⟩
    · exact ⟨_, _, _, hi, Or.inr (Or.inl ⟨rfl, rfl, rfl⟩)⟩
    · exact ⟨_, _, _, hi, Or.inr (Or.inr ⟨rfl, rfl, rfl⟩)⟩
    · cases hi
  obtain ⟨idx, ks, stat, hcut, hcase⟩ := hres0
  obtain ⟨rfl, hk, hres, hlt, hlen, hsum, hst⟩ := av_cut_ok hcut
  obtain ⟨hM2, host, hwords⟩ := av_res_ok hres
  obtain ⟨o1, o2, o3, o4, o5, o6, o7⟩ := av_okM_at hM2
  obtain ⟨b1, b2, b3⟩ := base idx hres hM2
  have hmet := av_met IH hM2 hw h3 hents D kk ad H.size
  have hrm := room M2 hM2 hlt
  have hsum2 : 2 * (F0 m pc LS (st.map (av_cv ad))).monitorRoom + ((rest.map (av_cv ad)).map fun v => v.category).sum ≤ 8 := lv_room (by rw [av_cats]; exact hsum)
  have hCB : ∀ link : Cond, link.before args s = true → ((av_rm M2 (w2.1 - w.1) (w2.2.1 - w.2.1)).cells = w2.1 - w.1 ∧ (av_rm M2 (w2.1 - w.1) (w2.2.1 - w.2.1)).slots = w2.2.1 - w.2.1 ∧ (av_rm M2 (w2.1 - w.1) (w2.2.1 - w.2.1)).frames + 1 ≤ R.frames ∧ 8 + (M2.2.2.1 + 11) + (av_rm M2 (w2.1 - w.1) (w2.2.1 - w.2.1)).locals ≤ R.locals ∧ (∀ w ∈ (Cond.code M2.1 M2.2.1 M2.2.2.1 M2.2.2.2.1 :: av_ws), ∀ (a' : Array Value) (U : State), s.WarmedH U.vm → w.before a' U = true) ∧ Cond.code M2.1 M2.2.1 M2.2.2.1 M2.2.2.2.1 ∈ (Cond.code M2.1 M2.2.1 M2.2.2.1 M2.2.2.2.1 :: av_ws)) ∧ link.before args s = true := fun link h => ⟨⟨rfl, rfl, hrm.1, hrm.2, pay_in hts (av_code_in hM2), List.mem_cons_self⟩, h⟩
  rcases hcase with ⟨rfl, rfl, rfl⟩ | ⟨rfl, rfl, rfl⟩ | ⟨rfl, rfl, rfl⟩
  · have hrcv : ∃ (b : Nat) (As : List Value), as = .ref b :: As ∧ b < w.1 ∧ ∃ fs, w.2.2 b = .inr (M2.2.2.2.2.1, fs) := by
      unfold av_rcv at hrc
      split at hrc
      · simp at hk
      · simp at hk
      · simp at hk
      · simp at hk
      · rename_i b As h4 h5 h6 h7
        simp only [Bool.and_eq_true, decide_eq_true_eq] at hrc
        obtain ⟨g1, g2⟩ := hrc
        split at g2
        · rename_i q hq
          refine ⟨_, _, rfl, g1, q.2, ?_⟩
          rw [hq]
          have : q.1 = M2.2.2.2.2.1 := by simpa using g2
          rw [← this]
        · cases g2
      · cases hrc
    obtain ⟨b, As, rfl, hbw, fs, hfs⟩ := hrcv
    have he := av_cW_get (ad := ad) (kk := kk) hbw
    rw [hfs] at he
    have hrecv := va_recv (ws := av_cW ad kk w) hK.1 X.1 (av_cl _ o7) he
    have hn : (As.map (av_cv ad)).length = M2.2.2.2.2.2.2 := by
      rw [List.length_map]
      simp at hlen
      omega
    have hstk : (F0 m pc LS (st.map (av_cv ad))).stack = (As.map (av_cv ad)).reverse ++ .ref (ad b) :: rest.map (av_cv ad) := by
      show st.map (av_cv ad) = _
      rw [hst, List.map_append, List.map_reverse, List.map_cons, List.reverse_cons, List.append_assoc]
      rfl
    rcases (show k = 0 ∨ k = 1 by simpa using hk) with rfl | rfl
    · obtain ⟨w1, w2x, w3⟩ := hwords
      obtain ⟨c1, c2, c3, c4, c5, c6⟩ := (hCB _ (hts _ w1)).1
      exact fin (va_runV (C := av_R M2.2.2.2.2.1) S hmet ⟨⟨c1, c2, c3, c4, c5, c6, b2, b3, o4, b1, hts _ w1⟩, hts _ w2x, o2 ▸ hts _ w3⟩ ⟨hblind _, hrecv, hpre⟩ rfl hn hsz hstk hsum2 hd hc)
    · obtain ⟨w1, w2x, w3⟩ := hwords
      obtain ⟨c1, c2, c3, c4, c5, c6⟩ := (hCB _ (va_Nw.use (A := args) rfl (hK.2 _ w1))).1
      exact fin (va_runVN (C := av_R M2.2.2.2.2.1) (host := host) S hmet ⟨⟨⟨c1, c2, c3, c4, c5, c6⟩, b2, b3, o4, b1, va_Nw.use rfl (hK.2 _ w1)⟩, hts _ w2x, o2 ▸ hts _ w3⟩ ⟨hblind _, hrecv, hpre⟩ rfl hn hsz hstk hsum2 hd hc)
  · have hn : (as.map (av_cv ad)).length = M2.2.2.2.2.2.2 := by
      rw [List.length_map]
      simpa using hlen
    have hstk : (F0 m pc LS (st.map (av_cv ad))).stack = (as.map (av_cv ad)).reverse ++ rest.map (av_cv ad) := by
      show st.map (av_cv ad) = _
      rw [hst, List.map_append, List.map_reverse]
    rcases (show k = 2 ∨ k = 3 by simpa using hk) with rfl | rfl
    · obtain ⟨w1, w2x, w3⟩ := hwords
      obtain ⟨c1, c2, c3, c4, c5, c6⟩ := (hCB _ (hts _ w1)).1
      exact fin (va_runS S hmet ⟨⟨c1, c2, c3, c4, c5, c6, b2, b3, o4, b1, hts _ w1⟩, hts _ w2x⟩ ⟨hblind _, hpre⟩ rfl hn hsz hstk hsum2 hd hc)
    · obtain ⟨w1, w2x, w3⟩ := hwords
      obtain ⟨c1, c2, c3, c4, c5, c6⟩ := (hCB _ (va_Nw.use (A := args) rfl (hK.2 _ w1))).1
      exact fin (va_runSN (host := host) S hmet ⟨⟨⟨c1, c2, c3, c4, c5, c6⟩, b2, b3, o4, b1, va_Nw.use rfl (hK.2 _ w1)⟩, hts _ w2x, trivial⟩ ⟨hblind _, hpre⟩ rfl hn hsz hstk hsum2 hd hc)
  · have hrcv : ∃ (b : Nat) (As : List Value), as = .ref b :: As := by
      rcases (show k = 4 ∨ k = 5 by simpa using hk) with rfl | rfl
      · cases as with
        | nil => simp [av_rcv] at hrc
        | cons v vs => cases v <;> simp [av_rcv] at hrc ⊢
      · cases as with
        | nil => simp [av_rcv] at hrc
        | cons v vs => cases v <;> simp [av_rcv] at hrc ⊢
    obtain ⟨b, As, rfl⟩ := hrcv
    have hn : (As.map (av_cv ad)).length = M2.2.2.2.2.2.2 := by
      rw [List.length_map]
      simp at hlen
      omega
    have hstk : (F0 m pc LS (st.map (av_cv ad))).stack = (As.map (av_cv ad)).reverse ++ .ref (ad b) :: rest.map (av_cv ad) := by
      show st.map (av_cv ad) = _
      rw [hst, List.map_append, List.map_reverse, List.map_cons, List.reverse_cons, List.append_assoc]
      rfl
    rcases (show k = 4 ∨ k = 5 by simpa using hk) with rfl | rfl
    · obtain ⟨w1, w2x, w3, w4⟩ := hwords
      obtain ⟨c1, c2, c3, c4, c5, c6⟩ := (hCB _ (hts _ w1)).1
      rw [w4] at hmet c5 c6 b2
      exact fin (va_runI S hmet ⟨⟨c1, c2, c3, c4, c5, c6, b2, b3, o4, b1, hts _ w1⟩, w3, hts _ w2x⟩ ⟨hblind _, hpre⟩ rfl hn hsz hstk hsum2 hd hc)
    · obtain ⟨w1, w2x, w3, w4⟩ := hwords
      obtain ⟨c1, c2, c3, c4, c5, c6⟩ := (hCB _ (va_Nw.use (A := args) rfl (hK.2 _ w1))).1
      rw [w4] at hmet c5 c6 b2
      exact fin (va_runIN (host := host) S hmet ⟨⟨⟨c1, c2, c3, c4, c5, c6⟩, b2, b3, o4, b1, va_Nw.use rfl (hK.2 _ w1)⟩, w3, hts _ w2x⟩ ⟨hblind _, hpre⟩ rfl hn hsz hstk hsum2 hd hc)
set_option maxHeartbeats 4000000 in
theorem av_sound (l : Launch) : ∀ f : Nat, av_snd l f := by
  intro f
  induction f with
  | zero =>
    intro M pc ls st w r wF h
    cases h
  | succ f ih =>
    intro M pc ls st w r wF h p e R s m args below meth c D kk A ad cells slots mc ms Q hw Fx hX hA hR hc hm hend
    have hmo := av_mo _ _ _ _ _ _ _ _ h
    unfold arun at h
    split at h
    case h_2 => cases h
    case h_1 =>
    rename_i i len hd
    split at h
    case h_1 =>
      rename_i hr
      cases h
      exact hend ad pc len i st ls cells slots (fun _ _ => rfl) (fun _ => rfl) hd hr ⟨by omega, by omega⟩
    case h_2 =>
    split at h
    case h_2 =>
      split at h
      case h_2 => cases h
      case h_1 =>
      rename_i pc2 ls2 st2 w2 hs
      have q1 := av_step_mo hs
      have q2 := av_mo _ _ _ _ _ _ _ _ h
      refine av_step_ok Fx hX hA hR hd hs ⟨by omega, by omega⟩ (fun ad2 ha hb => ?_)
      have hX2 : av_SX s A ad2 w2 M := by
        intro h99
        obtain ⟨t, L, xs, e1, e2, e3, e4⟩ := hX h99
        have hs2 := ha av_scr (Or.inr rfl)
        exact ⟨t, L, xs, (av_step_sc hw hs).2.trans e1, hs2 ▸ e2, hs2 ▸ e3, hs2 ▸ e4⟩
      exact ih M pc2 ls2 st2 w2 r wF h p e R s m args below meth c D kk A ad2 _ _ mc ms Q (av_step_sc hw hs).1 Fx hX2 hA hR ⟨by omega, by omega⟩ hm (fun ad3 pc3 len3 i3 st3 ls3 c3 s3 h1 h2 h3 h4 h5 => hend ad3 pc3 len3 i3 st3 ls3 c3 s3 (fun k hk => (h1 k (by omega)).trans (ha k hk)) (fun hz => by rw [h2 (by omega), hb (by omega)]) h3 h4 h5)
    case h_1 =>
      rename_i k M2 as rest hi
      split at h
      case isFalse => cases h
      case isTrue hrc =>
      split at h
      case h_2 => cases h
      case h_1 =>
      rename_i r2 w2 h3
      split at h
      case isFalse => cases h
      case isTrue hback =>
      have q1 := av_mo _ _ _ _ _ _ _ _ h3
      have q2 := av_mo _ _ _ _ _ _ _ _ h
      have q3 := av_sc _ _ _ _ _ _ _ _ hw h3
      refine av_call_ok ih hw Fx hA hR hd hi hrc.1 hrc.2 h3 hback ⟨by omega, by omega⟩ (fun ad2 ha hb => ?_)
      have hX2 : av_SX s A ad2 w2 M := by
        intro h99
        obtain ⟨t, L, xs, e1, e2, e3, e4⟩ := hX h99
        have hs2 := ha av_scr (Or.inr rfl)
        exact ⟨t, L, xs, q3.2.trans e1, hs2 ▸ e2, hs2 ▸ e3, hs2 ▸ e4⟩
      exact ih M (pc + 3) ls _ w2 r wF h p e R s m args below meth c D kk A ad2 _ _ mc ms Q q3.1 Fx hX2 hA hR ⟨by omega, by omega⟩ hm (fun ad3 pc3 len3 i3 st3 ls3 c3 s3 h1 h2 h3 h4 h5 => hend ad3 pc3 len3 i3 st3 ls3 c3 s3 (fun k hk => (h1 k (by omega)).trans (ha k hk)) (fun hz => by rw [h2 (by omega), hb (by omega)]) h3 h4 h5)
end
section
/-! THE CLAIM OUT OF ONE WALK OF THE LAW'S BODY. Your part is whole_start (and what it stands on); all else here is the same for every law, but numbers. -/
def lw_P (b : Addr) (xs : List Int32) (args : Array Value) (s : State) : Prop := args = #[.ref b] ∧ s.IntsAt b xs ∧ xs.length ≤ 2048 ∧ (Jvm.Cond.and given_1 narrow_1).before args s = true
def lw_Q (_ : Array Value) (s : State) (o : Outcome) (t : State) : Prop := o = .returned (some (.int 1)) ∧ Framed s o t [] 600000 7302249
def lw_Z (below : List Frame) (a : Array Value) (s : State) : State → Prop := fun t => ∃ o, t.status = .running ∧ Ended t below o ∧ lw_Q a s o t
/-- the law's own end, with 1 on the stack, nothing written that was there before, its room as the claim has it -/
theorem lw_ret {p : Program} {l : Launch} {e : Env} {s : State} {m : MethodId} {below : List Frame} {meth : Method} {c : Code} {b : Nat} (hx : p.tables.exec = Jvm.exec) (hb : c.code = code) (hr : meth.sig.returnType = ret) (hlocks : meth.locks = false) {pc : Nat} {H : Heap} {ls : Array Slot} (hdg : decode code pc = .ok (.ireturn, 1)) : W p l e room_1 s m #[Value.ref b] below meth c H [] 600000 7302249 (lw_Z below #[Value.ref b] s) (F0 m pc ls [.int 1]) := by
  intro T hT X
  obtain ⟨fs, hret, hrun, hended, hW, hframe⟩ := X.leave (v := some (.int 1)) (hlocks := hlocks) (fun h => by rw [hr] at h; cases h)
  have hmeth' : T.vm.method? m = some meth := X.method'
  refine ⟨T.setFrames fs, ?_, .returned (some (.int 1)), hrun, hended, rfl, ⟨_, rfl⟩, hW, hframe⟩
  jvm_step X.here [X.here.top, hx, hb, hdg, hmeth', hr, ret, narrow_b1]
  (try refine ⟨rfl, ?_⟩); (try refine ⟨rfl, ?_⟩)
  first | (intro acts; rw [hret _ acts rfl rfl rfl]) | rw [hret _ _ rfl rfl rfl]
  exact Steps.refl _
/-- what holds at the law's entry: the machine, the code, the tables' words (any of lw_tbl by 'hts w (by decide +kernel)'), the script of L ints xs at the cell b, what the Statement gives of the start (any of its parts by flat_of_before) -/
def lw_At (p : Program) (s : State) (m : MethodId) (meth : Method) (c : Code) (b L : Nat) (xs : Nat → Int32) : Prop :=
  p.tables.exec = Jvm.exec ∧ c.code = code ∧ meth.sig.returnType = ret ∧ c.maxLocals = 4 ∧ s.vm.findClass R_law = some m.cls ∧ (∀ w ∈ lw_tbl, w.before #[Value.ref b] s = true) ∧ va_X b L xs s s.heap ∧ b < s.heap.size ∧ meth.locks = false ∧ (Jvm.Cond.and given_1 narrow_1).before #[Value.ref b] s = true
/-! ===== from the law's entry: a run of the machine is a walk of the law ===== -/
theorem av_inst : ∀ ci, ci < 6 → av_inA (Cond.instantiable (av_R ci) (av_N ci)) = true := by decide +kernel
theorem av_ns_tbl {w : Cond} (h : w ∈ av_ns) : w ∈ lw_tbl := (List.mem_filter.mp h).1
theorem av_ws_tbl {w : Cond} (h : w ∈ av_ws) : w ∈ lw_tbl := (List.mem_filter.mp h).1
theorem av_ns_tabs {w : Cond} (h : w ∈ av_ns) {a : Array Value} {s : State} (hb : w.before a s = true) : va_Nw w s := by
  rcases av_ns_shape h with ⟨a, i, x, h, rfl⟩ | ⟨a, i, b, n, d, h, rfl⟩ | ⟨C, rfl⟩
  · exact va_Nw.of rfl hb
  · exact va_Nw.of rfl hb
  · exact va_AO.of hb
/-- the machine's start: no cell, the script -/
def av_w0 (L : Nat) (xs : Nat → Int32) : av_W := (0, 0, fun k => if k = av_scr then .inl (3, L, .inl xs) else .inr (0, []))
theorem av_w0_scr (L : Nat) (xs : Nat → Int32) : (av_w0 L xs).2.2 av_scr = .inl (3, L, .inl xs) := by simp [av_w0]
def av_l0 : av_L := [some (.ref av_scr), none, none, none]
theorem av_arrT {s : State} {ty : FieldType} (hc : ∀ C, ty ≠ .object C) {a : Array Value} (h : (Cond.arrayClass ty).before a s = true) : ∃ k : ClassId, ArrOfT s k ty ∧ va_RA s k ty := by
  obtain ⟨cA, kA, comp, h1, h2, h3⟩ := Cond.arrayClass_spec h
  refine ⟨cA, fun n z => ⟨fun k h => (by cases h), kA, h2, comp, h3⟩, ?_⟩
  cases ty with
  | object C => exact absurd rfl (hc C)
  | _ => exact h1
theorem av_arrR {s : State} {C : String} (h : va_AO C s) : ∃ k : ClassId, ArrOfT s k (.object C) ∧ va_RA s k (.object C) := by
  obtain ⟨comp, cA, kA, h1, h2, h3, h4, h5⟩ := Cond.arrayOver_spec (va_AO.use (A := #[]) h)
  exact ⟨cA, fun n z => ⟨fun k h => (by cases h), kA, h3, comp, h4⟩, kA, comp, h3, h4, h1, h5⟩
theorem av_start (hpure : ∀ (L : Nat) (xs : Nat → Int32), L ≤ 2048 → ∃ (f : Nat) (wF : av_W), arun f ML_law 0 av_l0 [] (av_w0 L xs) = some (some (.int 1), wF) ∧ wF.1 ≤ 600000 ∧ wF.2.1 ≤ 7302249)
    {p : Program} {e : Env} {s : State} {m : MethodId} {below : List Frame} {meth : Method} {c : Code} (l : Launch) (hflags : l.flags = flags0) {b L : Nat} {xs : Nat → Int32} (hL : L ≤ 2048) (C0 : lw_At p s m meth c b L xs) : W p l e room_1 s m #[Value.ref b] below meth c s.heap [] 0 0 (lw_Z below #[Value.ref b] s) (entryFrame m ([Value.ref b] : List Value).toArray 4) := by
  obtain ⟨hx, hb, hr, hml, hown, hts, hX, hbl, hlocks, hgv⟩ := id C0
  obtain ⟨f, wF, hrun, hF1, hF2⟩ := hpure L xs hL
  have htw : ∀ w ∈ av_ws, w.before #[Value.ref b] s = true := fun w h => hts w (av_ws_tbl h)
  have hns : ∀ w ∈ av_ns, va_Nw w s := fun w h => av_ns_tabs h (hts w (av_ns_tbl h))
  have hkn : ∀ ci, ∃ (cC : ClassId) (iS : Nat → Nat), ci < 6 → u_Kn s (av_R ci) (av_T ci) (av_N ci) cC iS := by
    intro ci
    by_cases h : ci < 6
    · obtain ⟨cC, iS, hk⟩ := u_known (n := av_N ci) htw (av_lays ci h) (htw _ (av_inA_ws (av_inst ci h)))
      exact ⟨cC, iS, fun _ => hk⟩
    · exact ⟨0, fun _ => 0, fun q => absurd q h⟩
  obtain ⟨k0, hk0⟩ := av_arrT (ty := .int) (fun C h => by cases h) (htw _ (av_inA_ws av_arr_ok.1))
  obtain ⟨k1, hk1⟩ := av_arrT (ty := .char) (fun C h => by cases h) (htw _ (av_inA_ws av_arr_ok.2.1))
  obtain ⟨k2, hk2⟩ := av_arrR (C := av_R 0) (hns _ av_arr_ok.2.2)
  have hK : av_K (fun ci => Classical.choose (hkn ci), fun ci => Classical.choose (Classical.choose_spec (hkn ci))) (fun t => match t with | 0 => k0 | 1 => k1 | _ => k2) s := by
    refine ⟨⟨fun ci q hq => ?_, fun t q hq => ?_⟩, hns⟩
    · by_cases h : ci < 6
      · rw [av_cl ci h] at hq
        cases hq
        exact Classical.choose_spec (Classical.choose_spec (hkn ci)) h
      · have : vwCl[ci]? = none := List.getElem?_eq_none (Nat.le_of_not_lt h)
        rw [this] at hq
        cases hq
    · match t, hq with
      | 0, hq => cases hq; exact hk0
      | 1, hq => cases hq; exact hk1
      | 2, hq => cases hq; exact hk2
  have hl := av_ent_LH (fun _ => b) [.ref av_scr] 4 (by decide)
  rw [lg_entry_eq]
  have hgo := av_sound l f ML_law 0 av_l0 [] (av_w0 L xs) _ wF hrun p e room_1 s m #[Value.ref b] below meth c
    (fun ci => Classical.choose (hkn ci), fun ci => Classical.choose (Classical.choose_spec (hkn ci))) (fun t => match t with | 0 => k0 | 1 => k1 | _ => k2) (fun q => s.heap.size ≤ q) (fun _ => b) 0 0 600000 7302249 (lw_Z below #[Value.ref b] s)
    (Nat.zero_le _) ⟨hx, hb, hml, hown, htw, hK, fun h => absurd h (by decide +kernel)⟩ (fun _ => ⟨3, L, xs, av_w0_scr L xs, hX, hbl, Nat.not_le.mpr hbl⟩) (fun q h => h) ⟨by decide, by decide⟩ ⟨by show 0 + (wF.1 - 0) ≤ _; omega, by show 0 + (wF.2.1 - 0) ≤ _; omega⟩ ⟨Nat.le_refl _, Nat.le_refl _⟩
    (fun ad2 pc2 len i st2 ls2 cells2 slots2 h1 h2 h3 h4 h5 => by
      intro H locs LS X
      refine va_forget (fun q hq => X.2.2.1.2.2 q hq) ?_
      refine W.widen (k := 600000) (n := 7302249) h5.1 h5.2 ?_
      unfold av_ret at h4
      split at h4
      · split at h4
        case h_2 => cases h4
        case h_1 =>
        rename_i v
        split at h4
        case h_2 => cases h4
        case h_1 =>
        split at h4
        case isFalse => cases h4
        case isTrue h0 =>
        obtain ⟨rfl, -⟩ := h0
        cases h4
        exact lw_ret hx hb hr hlocks h3
      · split at h4
        case h_2 => cases h4
        case h_1 =>
        split at h4 <;> cases h4
      · split at h4
        case h_2 => cases h4
        case h_1 =>
        split at h4
        case h_2 => cases h4
        case h_1 =>
        split at h4 <;> cases h4
      · cases h4)
  refine hgo s.heap [] _ ⟨?_, ?_, va_S.rf, hl⟩
  · exact fun k q h => by simp [av_cW, av_w0] at h
  · exact ⟨fun i j p q h => by simp [av_cW, av_w0] at h, fun k q h => by simp [av_cW, av_w0] at h⟩
end
section
/-! ===== the logic of the machine: runs, and a row for each instruction, over whole numbers ===== -/
def iN (z : Int) : Int32 := Int32.ofInt z
def lZ (z : Int) : Int64 := Int64.ofInt z
def bz (c : Prop) [Decidable c] : Int := if c then 1 else 0
theorem iN_toInt {z : Int} (h : -2147483648 ≤ z ∧ z < 2147483648) : (iN z).toInt = z := Int32.toInt_ofInt_of_le (by omega) (by omega)
theorem lZ_toInt {z : Int} (h : -9223372036854775808 ≤ z ∧ z < 9223372036854775808) : (lZ z).toInt = z := Int64.toInt_ofInt_of_le (by omega) (by omega)
theorem iN_of (x : Int32) : x = iN x.toInt := (Int32.ofInt_toInt x).symm
theorem iN_rg (x : Int32) : -2147483648 ≤ x.toInt ∧ x.toInt < 2147483648 := ⟨Int32.le_toInt x, Int32.toInt_lt x⟩
theorem iN_add (x y : Int) : iN x + iN y = iN (x + y) := (Int32.ofInt_add x y).symm
theorem iN_sub (x y : Int) : iN x - iN y = iN (x - y) := (Int32.ofInt_sub x y).symm
theorem iN_mul (x y : Int) : iN x * iN y = iN (x * y) := (Int32.ofInt_mul x y).symm
theorem iN_neg (x : Int) : -iN x = iN (-x) := (Int32.ofInt_neg x).symm
theorem lZ_sub (x y : Int) : lZ x - lZ y = lZ (x - y) := (Int64.ofInt_sub x y).symm
theorem lZ_mul (x y : Int) : lZ x * lZ y = lZ (x * y) := (Int64.ofInt_mul x y).symm
theorem iN_inj {x y : Int} (hx : -2147483648 ≤ x ∧ x < 2147483648) (hy : -2147483648 ≤ y ∧ y < 2147483648) : iN x = iN y ↔ x = y := by
  constructor
  · intro h
    rw [← iN_toInt hx, ← iN_toInt hy, h]
  · intro h
    rw [h]
theorem iN_lt {x y : Int} (hx : -2147483648 ≤ x ∧ x < 2147483648) (hy : -2147483648 ≤ y ∧ y < 2147483648) : iN x < iN y ↔ x < y := by
  rw [Int32.lt_iff_toInt_lt, iN_toInt hx, iN_toInt hy]
theorem iN_le {x y : Int} (hx : -2147483648 ≤ x ∧ x < 2147483648) (hy : -2147483648 ≤ y ∧ y < 2147483648) : iN x ≤ iN y ↔ x ≤ y := by
  rw [Int32.le_iff_toInt_le, iN_toInt hx, iN_toInt hy]
theorem iN_0 : (0 : Int32) = iN 0 := rfl
theorem iN_div {x y : Int} (hx : -2147483648 ≤ x ∧ x < 2147483648) (hy : -2147483648 ≤ y ∧ y < 2147483648) (h : ¬ (x = -2147483648 ∧ y = -1)) : iN x / iN y = iN (x.tdiv y) := by
  apply Int32.toInt_inj.mp
  rw [Int32.toInt_div, iN_toInt hx, iN_toInt hy]
  exact (Int32.toInt_ofInt).symm
theorem iN_rem {x y : Int} (hx : -2147483648 ≤ x ∧ x < 2147483648) (hy : -2147483648 ≤ y ∧ y < 2147483648) (h : ¬ (x = -2147483648 ∧ y = -1)) : iN x - iN x / iN y * iN y = iN (x.tmod y) := by
  rw [iN_div hx hy h, iN_mul, iN_sub, Int.tmod_def, Int.mul_comm]
theorem iN_clamp {z : Int} (h : -2147483648 ≤ z ∧ z < 2147483648) : (iN z).toNatClampNeg = z.toNat := by
  rw [← Int32.toNat_toInt, iN_toInt h]
theorem iN_i2l {x : Int} (h : -2147483648 ≤ x ∧ x < 2147483648) : (iN x).toInt64 = lZ x := by
  apply Int64.toInt_inj.mp
  rw [Int32.toInt_toInt64, iN_toInt h, lZ_toInt (by omega)]
def cz (x y : Int) : Int := if y < x then 1 else if x = y then 0 else -1
theorem lZ_cmp {x y : Int} (hx : -9223372036854775808 ≤ x ∧ x < 9223372036854775808) (hy : -9223372036854775808 ≤ y ∧ y < 9223372036854775808) : lg_cmp (lZ x) (lZ y) = iN (cz x y) := by
  have h1 : lZ x > lZ y ↔ y < x := by
    show lZ y < lZ x ↔ _
    rw [Int64.lt_iff_toInt_lt, lZ_toInt hx, lZ_toInt hy]
  have h2 : lZ x = lZ y ↔ x = y := by
    rw [← Int64.toInt_inj, lZ_toInt hx, lZ_toInt hy]
  unfold lg_cmp cz
  by_cases a : y < x
  · rw [if_pos (h1.mpr a), if_pos a]; rfl
  · rw [if_neg (fun q => a (h1.mp q)), if_neg a]
    by_cases b : x = y
    · rw [if_pos (h2.mpr b), if_pos b]; rfl
    · rw [if_neg (fun q => b (h2.mp q)), if_neg b]; rfl
theorem bip : ∀ n : Int, -128 ≤ n → n ≤ 127 → (Int8.ofInt n).toInt32 = iN n := by
  intro n h1 h2
  apply Int32.toInt_inj.mp
  rw [iN_toInt (by omega), Int8.toInt_toInt32, Int8.toInt_ofInt_of_le (by omega) (by omega)]
theorem sip : ∀ n : Int, -32768 ≤ n → n ≤ 32767 → (Int16.ofInt n).toInt32 = iN n := by
  intro n h1 h2
  apply Int32.toInt_inj.mp
  rw [iN_toInt (by omega), Int16.toInt_toInt32, Int16.toInt_ofInt_of_le (by omega) (by omega)]
/-- a row of numbers, as an array holds it -/
def iF (c : Nat → Int) : Nat → Int32 := fun j => iN (c j)
def updZ (c : Nat → Int) (k : Nat) (x : Int) : Nat → Int := fun j => if j = k then x else c j
theorem upd_iF (c : Nat → Int) (k : Nat) (x : Int) : upd (iF c) k (iN x) = iF (updZ c k x) := by
  funext j
  unfold upd iF updZ
  by_cases h : j = k
  · rw [if_pos h, if_pos h]
  · rw [if_neg h, if_neg h]
def arO (n : Nat) (c : Nat → Int) : av_E := .inl (0, n, .inl (iF c))
/-- a cell of the world is set -/
def wst (w : av_W) (a : Nat) (e : av_E) : av_W := (w.1, w.2.1, av_up w.2.2 a e)
theorem wst_n (w : av_W) (a : Nat) (e : av_E) : (wst w a e).1 = w.1 := rfl
theorem wst_eq {w : av_W} {a b : Nat} {e : av_E} (h : b = a) : (wst w a e).2.2 b = e := if_pos h
theorem wst_self {w : av_W} {a : Nat} {e : av_E} : (wst w a e).2.2 a = e := if_pos rfl
theorem wst_ne {w : av_W} {a b : Nat} {e : av_E} (h : b ≠ a) : (wst w a e).2.2 b = w.2.2 b := if_neg h
theorem wst_wst (w : av_W) (a : Nat) (e e2 : av_E) : wst (wst w a e) a e2 = wst w a e2 := by
  unfold wst
  congr 2
  funext j
  unfold av_up
  by_cases h : j = a
  · simp [h]
  · simp [h]
theorem wst_comm (w : av_W) {a b : Nat} (e e2 : av_E) (h : a ≠ b) : wst (wst w a e) b e2 = wst (wst w b e2) a e := by
  unfold wst
  congr 2
  funext j
  unfold av_up
  by_cases h1 : j = a
  · subst h1
    simp [h]
  · by_cases h2 : j = b
    · subst h2
      simp [h1]
    · simp [h1, h2]
theorem wst_id {w : av_W} {a : Nat} {e : av_E} (h : w.2.2 a = e) : wst w a e = w := by
  unfold wst
  have : av_up w.2.2 a e = w.2.2 := by
    funext j
    unfold av_up
    by_cases h1 : j = a
    · subst h1
      rw [if_pos rfl, h]
    · rw [if_neg h1]
  rw [this]
-- runs
def rn (M : av_M) (pc : Nat) (ls : av_L) (st : List Value) (w : av_W) (P : Option Value → av_W → Prop) : Prop := ∃ (f : Nat) (r : Option Value) (w2 : av_W), arun f M pc ls st w = some (r, w2) ∧ P r w2
def cl (M : av_M) (args : List Value) (w : av_W) (P : Option Value → av_W → Prop) : Prop := rn M 0 (av_ent args M.2.2.1) [] w P
/-- a call with one answer, and one world behind it -/
def fn (M : av_M) (args : List Value) (w : av_W) (r : Option Value) (w2 : av_W) : Prop := cl M args w (fun r' w' => r' = r ∧ w' = w2)
theorem arun_mono : ∀ (f : Nat) (M : av_M) (pc : Nat) (ls : av_L) (st : List Value) (w : av_W) (x : Option Value × av_W), arun f M pc ls st w = some x → arun (f + 1) M pc ls st w = some x := by
  intro f
  induction f with
  | zero =>
    intro M pc ls st w x h
    cases h
  | succ f ih =>
    intro M pc ls st w x h
    unfold arun at h ⊢
    split at h
    case h_2 => cases h
    case h_1 =>
    rename_i i len hd
    split at h
    case h_1 => exact h
    case h_2 =>
    split at h
    case h_1 =>
      split at h
      case isFalse => cases h
      case isTrue hc =>
      rw [if_pos hc]
      split at h
      case h_2 => cases h
      case h_1 =>
      rename_i r2 w3 h3
      rw [ih _ _ _ _ _ _ h3]
      split at h
      case isFalse => cases h
      case isTrue hb =>
      simp only [hb]
      exact ih _ _ _ _ _ _ h
    case h_2 =>
      split at h
      case h_2 => cases h
      case h_1 =>
      exact ih _ _ _ _ _ _ h
theorem arun_le {f g : Nat} (hfg : f ≤ g) {M : av_M} {pc : Nat} {ls : av_L} {st : List Value} {w : av_W} {x : Option Value × av_W} (h : arun f M pc ls st w = some x) : arun g M pc ls st w = some x := by
  induction hfg with
  | refl => exact h
  | step _ ih => exact arun_mono _ _ _ _ _ _ _ ih
theorem rn.imp {M : av_M} {pc : Nat} {ls : av_L} {st : List Value} {w : av_W} {P P2 : Option Value → av_W → Prop} (h : rn M pc ls st w P) (hp : ∀ r w2, P r w2 → P2 r w2) : rn M pc ls st w P2 := by
  obtain ⟨f, r, w2, h1, h2⟩ := h
  exact ⟨f, r, w2, h1, hp r w2 h2⟩
def av_pv (o : Option Value) : Bool := match o with
  | some v => v.category == 2
  | none => false
theorem av_inr_z {x : Int} {n : Nat} (h0 : 0 ≤ x) (hx : x < n) (hn : n ≤ 1000) : av_inr (iN x) n = true := by
  unfold av_inr
  simp only [Bool.and_eq_true, decide_eq_true_eq]
  refine ⟨fun q => ?_, ?_⟩
  · have := (iN_lt (y := 0) (by omega) (by omega)).mp q
    omega
  · rw [iN_clamp (by omega)]
    omega
theorem av_sto_0 { b : Option Value} {l : av_L} {v : Value} : av_sto (b :: l) 0 v = some (some v :: l) := by
  unfold av_sto
  rw [if_pos ⟨by simp, rfl⟩]
  rfl
theorem av_sto_1 {a0 b : Option Value} {l : av_L} {v : Value} (hp : av_pv a0 = false) : av_sto (a0 :: b :: l) 1 v = some (a0 :: some v :: l) := by
  unfold av_sto
  rw [if_pos ⟨by simp, by cases a0 with | none => rfl | some v => exact hp⟩]
  rfl
theorem av_sto_2 {a0 a1 b : Option Value} {l : av_L} {v : Value} (hp : av_pv a1 = false) : av_sto (a0 :: a1 :: b :: l) 2 v = some (a0 :: a1 :: some v :: l) := by
  unfold av_sto
  rw [if_pos ⟨by simp, by cases a1 with | none => rfl | some v => exact hp⟩]
  rfl
theorem av_sto_3 {a0 a1 a2 b : Option Value} {l : av_L} {v : Value} (hp : av_pv a2 = false) : av_sto (a0 :: a1 :: a2 :: b :: l) 3 v = some (a0 :: a1 :: a2 :: some v :: l) := by
  unfold av_sto
  rw [if_pos ⟨by simp, by cases a2 with | none => rfl | some v => exact hp⟩]
  rfl
theorem av_sto_4 {a0 a1 a2 a3 b : Option Value} {l : av_L} {v : Value} (hp : av_pv a3 = false) : av_sto (a0 :: a1 :: a2 :: a3 :: b :: l) 4 v = some (a0 :: a1 :: a2 :: a3 :: some v :: l) := by
  unfold av_sto
  rw [if_pos ⟨by simp, by cases a3 with | none => rfl | some v => exact hp⟩]
  rfl
theorem av_sto_5 {a0 a1 a2 a3 a4 b : Option Value} {l : av_L} {v : Value} (hp : av_pv a4 = false) : av_sto (a0 :: a1 :: a2 :: a3 :: a4 :: b :: l) 5 v = some (a0 :: a1 :: a2 :: a3 :: a4 :: some v :: l) := by
  unfold av_sto
  rw [if_pos ⟨by simp, by cases a4 with | none => rfl | some v => exact hp⟩]
  rfl
theorem av_sto_6 {a0 a1 a2 a3 a4 a5 b : Option Value} {l : av_L} {v : Value} (hp : av_pv a5 = false) : av_sto (a0 :: a1 :: a2 :: a3 :: a4 :: a5 :: b :: l) 6 v = some (a0 :: a1 :: a2 :: a3 :: a4 :: a5 :: some v :: l) := by
  unfold av_sto
  rw [if_pos ⟨by simp, by cases a5 with | none => rfl | some v => exact hp⟩]
  rfl
theorem av_sto_7 {a0 a1 a2 a3 a4 a5 a6 b : Option Value} {l : av_L} {v : Value} (hp : av_pv a6 = false) : av_sto (a0 :: a1 :: a2 :: a3 :: a4 :: a5 :: a6 :: b :: l) 7 v = some (a0 :: a1 :: a2 :: a3 :: a4 :: a5 :: a6 :: some v :: l) := by
  unfold av_sto
  rw [if_pos ⟨by simp, by cases a6 with | none => rfl | some v => exact hp⟩]
  rfl
theorem av_sto_8 {a0 a1 a2 a3 a4 a5 a6 a7 b : Option Value} {l : av_L} {v : Value} (hp : av_pv a7 = false) : av_sto (a0 :: a1 :: a2 :: a3 :: a4 :: a5 :: a6 :: a7 :: b :: l) 8 v = some (a0 :: a1 :: a2 :: a3 :: a4 :: a5 :: a6 :: a7 :: some v :: l) := by
  unfold av_sto
  rw [if_pos ⟨by simp, by cases a7 with | none => rfl | some v => exact hp⟩]
  rfl
theorem av_sto_9 {a0 a1 a2 a3 a4 a5 a6 a7 a8 b : Option Value} {l : av_L} {v : Value} (hp : av_pv a8 = false) : av_sto (a0 :: a1 :: a2 :: a3 :: a4 :: a5 :: a6 :: a7 :: a8 :: b :: l) 9 v = some (a0 :: a1 :: a2 :: a3 :: a4 :: a5 :: a6 :: a7 :: a8 :: some v :: l) := by
  unfold av_sto
  rw [if_pos ⟨by simp, by cases a8 with | none => rfl | some v => exact hp⟩]
  rfl
section RN
variable {M M2 : av_M} {pc pc2 len : Nat} {ls ls2 : av_L} {st st2 rest args : List Value} {w w2 : av_W} {P : Option Value → av_W → Prop} {i : Instr}
theorem rn_step (d : decode M.2.1 pc = .ok (i, len)) (h1 : av_ret M i len st = none) (h2 : av_inv M i len st = none) (h3 : av_step M i len pc ls st w = some (pc2, ls2, st2, w2)) (n : rn M pc2 ls2 st2 w2 P) : rn M pc ls st w P := by
  obtain ⟨f, r, w3, h, hp⟩ := n
  refine ⟨f + 1, r, w3, ?_, hp⟩
  unfold arun
  simp only [d, h1, h2, h3]
  exact h
theorem rn_ret {r : Option Value} (d : decode M.2.1 pc = .ok (i, len)) (h1 : av_ret M i len st = some r) (n : P r w) : rn M pc ls st w P := by
  refine ⟨1, r, w, ?_, n⟩
  unfold arun
  simp only [d, h1]
theorem rn_call {k : Nat} {P2 : Option Value → av_W → Prop} (d : decode M.2.1 pc = .ok (i, len)) (h1 : av_ret M i len st = none) (h2 : av_inv M i len st = some (k, M2, args, rest)) (h3 : av_rcv k M2 args w = true ∧ (av_ents args).length ≤ M2.2.2.1) (c : cl M2 args w P2)
    (n : ∀ r w2, P2 r w2 → av_back ls rest w w2 = true ∧ rn M (pc + 3) ls (r.toList ++ rest) w2 P) : rn M pc ls st w P := by
  obtain ⟨f1, r1, w1, c1, c2⟩ := c
  obtain ⟨hb, f2, r2, w3, n1, n2⟩ := n r1 w1 c2
  refine ⟨max f1 f2 + 1, r2, w3, ?_, n2⟩
  unfold arun
  simp only [d, h1, h2]
  rw [if_pos h3, arun_le (Nat.le_max_left f1 f2) c1]
  simp only [hb]
  exact arun_le (Nat.le_max_right f1 f2) n1
theorem r_aload_n {k : Fin 4} {x : Nat} (d : decode M.2.1 pc = .ok (.aload_n k, 1)) (e : pc + 1 = pc2) (h : ls[k.val]? = some (some (.ref x))) (n : rn M pc2 ls (.ref x :: st) w P) : rn M pc ls st w P := by
  subst e
  refine rn_step d rfl rfl ?_ n
  show av_ald 1 k.val 1 pc ls st w = _
  unfold av_ald
  rw [h]
  rfl
theorem r_iload_n {k : Fin 4} {x : Int32} (d : decode M.2.1 pc = .ok (.iload_n k, 1)) (e : pc + 1 = pc2) (h : ls[k.val]? = some (some (.int x))) (n : rn M pc2 ls (.int x :: st) w P) : rn M pc ls st w P := by
  subst e
  refine rn_step d rfl rfl ?_ n
  show av_ild 1 k.val 1 pc ls st w = _
  unfold av_ild
  rw [h]
  rfl
theorem r_lload_n {k : Fin 4} {x : Int64} (d : decode M.2.1 pc = .ok (.lload_n k, 1)) (e : pc + 1 = pc2) (h : ls[k.val]? = some (some (.long x))) (n : rn M pc2 ls (.long x :: st) w P) : rn M pc ls st w P := by
  subst e
  refine rn_step d rfl rfl ?_ n
  show av_lld 1 k.val 1 pc ls st w = _
  unfold av_lld
  rw [h]
  rfl
theorem r_iload {k : Nat} {x : Int32} (d : decode M.2.1 pc = .ok (.iload k, 2)) (e : pc + 2 = pc2) (h : ls[k]? = some (some (.int x))) (n : rn M pc2 ls (.int x :: st) w P) : rn M pc ls st w P := by
  subst e
  refine rn_step d rfl rfl ?_ n
  show av_ild 2 k 2 pc ls st w = _
  unfold av_ild
  rw [h]
  rfl
theorem r_lload {k : Nat} {x : Int64} (d : decode M.2.1 pc = .ok (.lload k, 2)) (e : pc + 2 = pc2) (h : ls[k]? = some (some (.long x))) (n : rn M pc2 ls (.long x :: st) w P) : rn M pc ls st w P := by
  subst e
  refine rn_step d rfl rfl ?_ n
  show av_lld 2 k 2 pc ls st w = _
  unfold av_lld
  rw [h]
  rfl
theorem r_ist_0 {x : Int32} { b : Option Value} {l : av_L} (d : decode M.2.1 pc = .ok (.istore_n 0, 1)) (e : pc + 1 = pc2) (n : rn M pc2 (some (.int x) :: l) st w P) : rn M pc (b :: l) (.int x :: st) w P := by
  subst e
  refine rn_step d rfl rfl ?_ n
  show av_ist 1 0 1 pc (b :: l) (.int x :: st) w = _
  unfold av_ist
  dsimp only
  rw [if_pos rfl, av_sto_0]
  rfl
theorem r_ist_1 {x : Int32} {a0 b : Option Value} {l : av_L} (d : decode M.2.1 pc = .ok (.istore_n 1, 1)) (e : pc + 1 = pc2) (hp : av_pv a0 = false) (n : rn M pc2 (a0 :: some (.int x) :: l) st w P) : rn M pc (a0 :: b :: l) (.int x :: st) w P := by
  subst e
  refine rn_step d rfl rfl ?_ n
  show av_ist 1 1 1 pc (a0 :: b :: l) (.int x :: st) w = _
  unfold av_ist
  dsimp only
  rw [if_pos rfl, av_sto_1 hp]
  rfl
theorem r_ist_2 {x : Int32} {a0 a1 b : Option Value} {l : av_L} (d : decode M.2.1 pc = .ok (.istore_n 2, 1)) (e : pc + 1 = pc2) (hp : av_pv a1 = false) (n : rn M pc2 (a0 :: a1 :: some (.int x) :: l) st w P) : rn M pc (a0 :: a1 :: b :: l) (.int x :: st) w P := by
  subst e
  refine rn_step d rfl rfl ?_ n
  show av_ist 1 2 1 pc (a0 :: a1 :: b :: l) (.int x :: st) w = _
  unfold av_ist
  dsimp only
  rw [if_pos rfl, av_sto_2 hp]
  rfl
theorem r_ist_3 {x : Int32} {a0 a1 a2 b : Option Value} {l : av_L} (d : decode M.2.1 pc = .ok (.istore_n 3, 1)) (e : pc + 1 = pc2) (hp : av_pv a2 = false) (n : rn M pc2 (a0 :: a1 :: a2 :: some (.int x) :: l) st w P) : rn M pc (a0 :: a1 :: a2 :: b :: l) (.int x :: st) w P := by
  subst e
  refine rn_step d rfl rfl ?_ n
  show av_ist 1 3 1 pc (a0 :: a1 :: a2 :: b :: l) (.int x :: st) w = _
  unfold av_ist
  dsimp only
  rw [if_pos rfl, av_sto_3 hp]
  rfl
theorem r_ist_4 {x : Int32} {a0 a1 a2 a3 b : Option Value} {l : av_L} (d : decode M.2.1 pc = .ok (.istore 4, 2)) (e : pc + 2 = pc2) (hp : av_pv a3 = false) (n : rn M pc2 (a0 :: a1 :: a2 :: a3 :: some (.int x) :: l) st w P) : rn M pc (a0 :: a1 :: a2 :: a3 :: b :: l) (.int x :: st) w P := by
  subst e
  refine rn_step d rfl rfl ?_ n
  show av_ist 2 4 2 pc (a0 :: a1 :: a2 :: a3 :: b :: l) (.int x :: st) w = _
  unfold av_ist
  dsimp only
  rw [if_pos rfl, av_sto_4 hp]
  rfl
theorem r_ist_5 {x : Int32} {a0 a1 a2 a3 a4 b : Option Value} {l : av_L} (d : decode M.2.1 pc = .ok (.istore 5, 2)) (e : pc + 2 = pc2) (hp : av_pv a4 = false) (n : rn M pc2 (a0 :: a1 :: a2 :: a3 :: a4 :: some (.int x) :: l) st w P) : rn M pc (a0 :: a1 :: a2 :: a3 :: a4 :: b :: l) (.int x :: st) w P := by
  subst e
  refine rn_step d rfl rfl ?_ n
  show av_ist 2 5 2 pc (a0 :: a1 :: a2 :: a3 :: a4 :: b :: l) (.int x :: st) w = _
  unfold av_ist
  dsimp only
  rw [if_pos rfl, av_sto_5 hp]
  rfl
theorem r_ist_6 {x : Int32} {a0 a1 a2 a3 a4 a5 b : Option Value} {l : av_L} (d : decode M.2.1 pc = .ok (.istore 6, 2)) (e : pc + 2 = pc2) (hp : av_pv a5 = false) (n : rn M pc2 (a0 :: a1 :: a2 :: a3 :: a4 :: a5 :: some (.int x) :: l) st w P) : rn M pc (a0 :: a1 :: a2 :: a3 :: a4 :: a5 :: b :: l) (.int x :: st) w P := by
  subst e
  refine rn_step d rfl rfl ?_ n
  show av_ist 2 6 2 pc (a0 :: a1 :: a2 :: a3 :: a4 :: a5 :: b :: l) (.int x :: st) w = _
  unfold av_ist
  dsimp only
  rw [if_pos rfl, av_sto_6 hp]
  rfl
theorem r_ist_7 {x : Int32} {a0 a1 a2 a3 a4 a5 a6 b : Option Value} {l : av_L} (d : decode M.2.1 pc = .ok (.istore 7, 2)) (e : pc + 2 = pc2) (hp : av_pv a6 = false) (n : rn M pc2 (a0 :: a1 :: a2 :: a3 :: a4 :: a5 :: a6 :: some (.int x) :: l) st w P) : rn M pc (a0 :: a1 :: a2 :: a3 :: a4 :: a5 :: a6 :: b :: l) (.int x :: st) w P := by
  subst e
  refine rn_step d rfl rfl ?_ n
  show av_ist 2 7 2 pc (a0 :: a1 :: a2 :: a3 :: a4 :: a5 :: a6 :: b :: l) (.int x :: st) w = _
  unfold av_ist
  dsimp only
  rw [if_pos rfl, av_sto_7 hp]
  rfl
theorem r_ist_8 {x : Int32} {a0 a1 a2 a3 a4 a5 a6 a7 b : Option Value} {l : av_L} (d : decode M.2.1 pc = .ok (.istore 8, 2)) (e : pc + 2 = pc2) (hp : av_pv a7 = false) (n : rn M pc2 (a0 :: a1 :: a2 :: a3 :: a4 :: a5 :: a6 :: a7 :: some (.int x) :: l) st w P) : rn M pc (a0 :: a1 :: a2 :: a3 :: a4 :: a5 :: a6 :: a7 :: b :: l) (.int x :: st) w P := by
  subst e
  refine rn_step d rfl rfl ?_ n
  show av_ist 2 8 2 pc (a0 :: a1 :: a2 :: a3 :: a4 :: a5 :: a6 :: a7 :: b :: l) (.int x :: st) w = _
  unfold av_ist
  dsimp only
  rw [if_pos rfl, av_sto_8 hp]
  rfl
theorem r_ist_9 {x : Int32} {a0 a1 a2 a3 a4 a5 a6 a7 a8 b : Option Value} {l : av_L} (d : decode M.2.1 pc = .ok (.istore 9, 2)) (e : pc + 2 = pc2) (hp : av_pv a8 = false) (n : rn M pc2 (a0 :: a1 :: a2 :: a3 :: a4 :: a5 :: a6 :: a7 :: a8 :: some (.int x) :: l) st w P) : rn M pc (a0 :: a1 :: a2 :: a3 :: a4 :: a5 :: a6 :: a7 :: a8 :: b :: l) (.int x :: st) w P := by
  subst e
  refine rn_step d rfl rfl ?_ n
  show av_ist 2 9 2 pc (a0 :: a1 :: a2 :: a3 :: a4 :: a5 :: a6 :: a7 :: a8 :: b :: l) (.int x :: st) w = _
  unfold av_ist
  dsimp only
  rw [if_pos rfl, av_sto_9 hp]
  rfl
theorem r_ast_0 {x : Nat} { b : Option Value} {l : av_L} (d : decode M.2.1 pc = .ok (.astore_n 0, 1)) (e : pc + 1 = pc2) (n : rn M pc2 (some (.ref x) :: l) st w P) : rn M pc (b :: l) (.ref x :: st) w P := by
  subst e
  refine rn_step d rfl rfl ?_ n
  show av_ast 1 0 1 pc (b :: l) (.ref x :: st) w = _
  unfold av_ast
  dsimp only
  rw [if_pos rfl, av_sto_0]
  rfl
theorem r_ast_1 {x : Nat} {a0 b : Option Value} {l : av_L} (d : decode M.2.1 pc = .ok (.astore_n 1, 1)) (e : pc + 1 = pc2) (hp : av_pv a0 = false) (n : rn M pc2 (a0 :: some (.ref x) :: l) st w P) : rn M pc (a0 :: b :: l) (.ref x :: st) w P := by
  subst e
  refine rn_step d rfl rfl ?_ n
  show av_ast 1 1 1 pc (a0 :: b :: l) (.ref x :: st) w = _
  unfold av_ast
  dsimp only
  rw [if_pos rfl, av_sto_1 hp]
  rfl
theorem r_ast_2 {x : Nat} {a0 a1 b : Option Value} {l : av_L} (d : decode M.2.1 pc = .ok (.astore_n 2, 1)) (e : pc + 1 = pc2) (hp : av_pv a1 = false) (n : rn M pc2 (a0 :: a1 :: some (.ref x) :: l) st w P) : rn M pc (a0 :: a1 :: b :: l) (.ref x :: st) w P := by
  subst e
  refine rn_step d rfl rfl ?_ n
  show av_ast 1 2 1 pc (a0 :: a1 :: b :: l) (.ref x :: st) w = _
  unfold av_ast
  dsimp only
  rw [if_pos rfl, av_sto_2 hp]
  rfl
theorem r_ast_3 {x : Nat} {a0 a1 a2 b : Option Value} {l : av_L} (d : decode M.2.1 pc = .ok (.astore_n 3, 1)) (e : pc + 1 = pc2) (hp : av_pv a2 = false) (n : rn M pc2 (a0 :: a1 :: a2 :: some (.ref x) :: l) st w P) : rn M pc (a0 :: a1 :: a2 :: b :: l) (.ref x :: st) w P := by
  subst e
  refine rn_step d rfl rfl ?_ n
  show av_ast 1 3 1 pc (a0 :: a1 :: a2 :: b :: l) (.ref x :: st) w = _
  unfold av_ast
  dsimp only
  rw [if_pos rfl, av_sto_3 hp]
  rfl
theorem r_iinc_0 {n0 x : Int} {l : av_L} (d : decode M.2.1 pc = .ok (.iinc 0 n0, 3)) (e : pc + 3 = pc2) (n : rn M pc2 (some (.int (iN (x + n0))) :: l) st w P) : rn M pc (some (.int (iN x)) :: l) st w P := by
  subst e
  refine rn_step d rfl rfl ?_ n
  have h9 : ∀ l ls2 : av_L, l[0]? = some (some (.int (iN x))) → av_sto l 0 (.int (iN (x + n0))) = some ls2 → av_iinc 0 n0 3 pc l st w = some (pc + 3, ls2, st, w) := fun l ls2 q1 q2 => by
    unfold av_iinc
    rw [q1]
    dsimp only
    rw [if_pos rfl, show iN x + Int32.ofInt n0 = iN (x + n0) from iN_add x n0, q2]
    rfl
  exact h9 _ _ rfl (av_sto_0)
theorem r_iinc_1 {n0 x : Int} {a0 : Option Value} {l : av_L} (d : decode M.2.1 pc = .ok (.iinc 1 n0, 3)) (e : pc + 3 = pc2) (hp : av_pv a0 = false) (n : rn M pc2 (a0 :: some (.int (iN (x + n0))) :: l) st w P) : rn M pc (a0 :: some (.int (iN x)) :: l) st w P := by
  subst e
  refine rn_step d rfl rfl ?_ n
  have h9 : ∀ l ls2 : av_L, l[1]? = some (some (.int (iN x))) → av_sto l 1 (.int (iN (x + n0))) = some ls2 → av_iinc 1 n0 3 pc l st w = some (pc + 3, ls2, st, w) := fun l ls2 q1 q2 => by
    unfold av_iinc
    rw [q1]
    dsimp only
    rw [if_pos rfl, show iN x + Int32.ofInt n0 = iN (x + n0) from iN_add x n0, q2]
    rfl
  exact h9 _ _ rfl (av_sto_1 hp)
theorem r_iinc_2 {n0 x : Int} {a0 a1 : Option Value} {l : av_L} (d : decode M.2.1 pc = .ok (.iinc 2 n0, 3)) (e : pc + 3 = pc2) (hp : av_pv a1 = false) (n : rn M pc2 (a0 :: a1 :: some (.int (iN (x + n0))) :: l) st w P) : rn M pc (a0 :: a1 :: some (.int (iN x)) :: l) st w P := by
  subst e
  refine rn_step d rfl rfl ?_ n
  have h9 : ∀ l ls2 : av_L, l[2]? = some (some (.int (iN x))) → av_sto l 2 (.int (iN (x + n0))) = some ls2 → av_iinc 2 n0 3 pc l st w = some (pc + 3, ls2, st, w) := fun l ls2 q1 q2 => by
    unfold av_iinc
    rw [q1]
    dsimp only
    rw [if_pos rfl, show iN x + Int32.ofInt n0 = iN (x + n0) from iN_add x n0, q2]
    rfl
  exact h9 _ _ rfl (av_sto_2 hp)
theorem r_iinc_3 {n0 x : Int} {a0 a1 a2 : Option Value} {l : av_L} (d : decode M.2.1 pc = .ok (.iinc 3 n0, 3)) (e : pc + 3 = pc2) (hp : av_pv a2 = false) (n : rn M pc2 (a0 :: a1 :: a2 :: some (.int (iN (x + n0))) :: l) st w P) : rn M pc (a0 :: a1 :: a2 :: some (.int (iN x)) :: l) st w P := by
  subst e
  refine rn_step d rfl rfl ?_ n
  have h9 : ∀ l ls2 : av_L, l[3]? = some (some (.int (iN x))) → av_sto l 3 (.int (iN (x + n0))) = some ls2 → av_iinc 3 n0 3 pc l st w = some (pc + 3, ls2, st, w) := fun l ls2 q1 q2 => by
    unfold av_iinc
    rw [q1]
    dsimp only
    rw [if_pos rfl, show iN x + Int32.ofInt n0 = iN (x + n0) from iN_add x n0, q2]
    rfl
  exact h9 _ _ rfl (av_sto_3 hp)
theorem r_iinc_4 {n0 x : Int} {a0 a1 a2 a3 : Option Value} {l : av_L} (d : decode M.2.1 pc = .ok (.iinc 4 n0, 3)) (e : pc + 3 = pc2) (hp : av_pv a3 = false) (n : rn M pc2 (a0 :: a1 :: a2 :: a3 :: some (.int (iN (x + n0))) :: l) st w P) : rn M pc (a0 :: a1 :: a2 :: a3 :: some (.int (iN x)) :: l) st w P := by
  subst e
  refine rn_step d rfl rfl ?_ n
  have h9 : ∀ l ls2 : av_L, l[4]? = some (some (.int (iN x))) → av_sto l 4 (.int (iN (x + n0))) = some ls2 → av_iinc 4 n0 3 pc l st w = some (pc + 3, ls2, st, w) := fun l ls2 q1 q2 => by
    unfold av_iinc
    rw [q1]
    dsimp only
    rw [if_pos rfl, show iN x + Int32.ofInt n0 = iN (x + n0) from iN_add x n0, q2]
    rfl
  exact h9 _ _ rfl (av_sto_4 hp)
theorem r_iinc_5 {n0 x : Int} {a0 a1 a2 a3 a4 : Option Value} {l : av_L} (d : decode M.2.1 pc = .ok (.iinc 5 n0, 3)) (e : pc + 3 = pc2) (hp : av_pv a4 = false) (n : rn M pc2 (a0 :: a1 :: a2 :: a3 :: a4 :: some (.int (iN (x + n0))) :: l) st w P) : rn M pc (a0 :: a1 :: a2 :: a3 :: a4 :: some (.int (iN x)) :: l) st w P := by
  subst e
  refine rn_step d rfl rfl ?_ n
  have h9 : ∀ l ls2 : av_L, l[5]? = some (some (.int (iN x))) → av_sto l 5 (.int (iN (x + n0))) = some ls2 → av_iinc 5 n0 3 pc l st w = some (pc + 3, ls2, st, w) := fun l ls2 q1 q2 => by
    unfold av_iinc
    rw [q1]
    dsimp only
    rw [if_pos rfl, show iN x + Int32.ofInt n0 = iN (x + n0) from iN_add x n0, q2]
    rfl
  exact h9 _ _ rfl (av_sto_5 hp)
theorem r_iinc_6 {n0 x : Int} {a0 a1 a2 a3 a4 a5 : Option Value} {l : av_L} (d : decode M.2.1 pc = .ok (.iinc 6 n0, 3)) (e : pc + 3 = pc2) (hp : av_pv a5 = false) (n : rn M pc2 (a0 :: a1 :: a2 :: a3 :: a4 :: a5 :: some (.int (iN (x + n0))) :: l) st w P) : rn M pc (a0 :: a1 :: a2 :: a3 :: a4 :: a5 :: some (.int (iN x)) :: l) st w P := by
  subst e
  refine rn_step d rfl rfl ?_ n
  have h9 : ∀ l ls2 : av_L, l[6]? = some (some (.int (iN x))) → av_sto l 6 (.int (iN (x + n0))) = some ls2 → av_iinc 6 n0 3 pc l st w = some (pc + 3, ls2, st, w) := fun l ls2 q1 q2 => by
    unfold av_iinc
    rw [q1]
    dsimp only
    rw [if_pos rfl, show iN x + Int32.ofInt n0 = iN (x + n0) from iN_add x n0, q2]
    rfl
  exact h9 _ _ rfl (av_sto_6 hp)
theorem r_iinc_7 {n0 x : Int} {a0 a1 a2 a3 a4 a5 a6 : Option Value} {l : av_L} (d : decode M.2.1 pc = .ok (.iinc 7 n0, 3)) (e : pc + 3 = pc2) (hp : av_pv a6 = false) (n : rn M pc2 (a0 :: a1 :: a2 :: a3 :: a4 :: a5 :: a6 :: some (.int (iN (x + n0))) :: l) st w P) : rn M pc (a0 :: a1 :: a2 :: a3 :: a4 :: a5 :: a6 :: some (.int (iN x)) :: l) st w P := by
  subst e
  refine rn_step d rfl rfl ?_ n
  have h9 : ∀ l ls2 : av_L, l[7]? = some (some (.int (iN x))) → av_sto l 7 (.int (iN (x + n0))) = some ls2 → av_iinc 7 n0 3 pc l st w = some (pc + 3, ls2, st, w) := fun l ls2 q1 q2 => by
    unfold av_iinc
    rw [q1]
    dsimp only
    rw [if_pos rfl, show iN x + Int32.ofInt n0 = iN (x + n0) from iN_add x n0, q2]
    rfl
  exact h9 _ _ rfl (av_sto_7 hp)
theorem r_iinc_8 {n0 x : Int} {a0 a1 a2 a3 a4 a5 a6 a7 : Option Value} {l : av_L} (d : decode M.2.1 pc = .ok (.iinc 8 n0, 3)) (e : pc + 3 = pc2) (hp : av_pv a7 = false) (n : rn M pc2 (a0 :: a1 :: a2 :: a3 :: a4 :: a5 :: a6 :: a7 :: some (.int (iN (x + n0))) :: l) st w P) : rn M pc (a0 :: a1 :: a2 :: a3 :: a4 :: a5 :: a6 :: a7 :: some (.int (iN x)) :: l) st w P := by
  subst e
  refine rn_step d rfl rfl ?_ n
  have h9 : ∀ l ls2 : av_L, l[8]? = some (some (.int (iN x))) → av_sto l 8 (.int (iN (x + n0))) = some ls2 → av_iinc 8 n0 3 pc l st w = some (pc + 3, ls2, st, w) := fun l ls2 q1 q2 => by
    unfold av_iinc
    rw [q1]
    dsimp only
    rw [if_pos rfl, show iN x + Int32.ofInt n0 = iN (x + n0) from iN_add x n0, q2]
    rfl
  exact h9 _ _ rfl (av_sto_8 hp)
theorem r_iinc_9 {n0 x : Int} {a0 a1 a2 a3 a4 a5 a6 a7 a8 : Option Value} {l : av_L} (d : decode M.2.1 pc = .ok (.iinc 9 n0, 3)) (e : pc + 3 = pc2) (hp : av_pv a8 = false) (n : rn M pc2 (a0 :: a1 :: a2 :: a3 :: a4 :: a5 :: a6 :: a7 :: a8 :: some (.int (iN (x + n0))) :: l) st w P) : rn M pc (a0 :: a1 :: a2 :: a3 :: a4 :: a5 :: a6 :: a7 :: a8 :: some (.int (iN x)) :: l) st w P := by
  subst e
  refine rn_step d rfl rfl ?_ n
  have h9 : ∀ l ls2 : av_L, l[9]? = some (some (.int (iN x))) → av_sto l 9 (.int (iN (x + n0))) = some ls2 → av_iinc 9 n0 3 pc l st w = some (pc + 3, ls2, st, w) := fun l ls2 q1 q2 => by
    unfold av_iinc
    rw [q1]
    dsimp only
    rw [if_pos rfl, show iN x + Int32.ofInt n0 = iN (x + n0) from iN_add x n0, q2]
    rfl
  exact h9 _ _ rfl (av_sto_9 hp)
theorem r_iconst {n0 : Int} (d : decode M.2.1 pc = .ok (.iconst n0, 1)) (e : pc + 1 = pc2) (n : rn M pc2 ls (.int (iN n0) :: st) w P) : rn M pc ls st w P := by
  subst e
  exact rn_step d rfl rfl rfl n
theorem r_bipush {n0 : Int} (d : decode M.2.1 pc = .ok (.bipush n0, 2)) (e : pc + 2 = pc2) (hr : -128 ≤ n0 ∧ n0 ≤ 127) (n : rn M pc2 ls (.int (iN n0) :: st) w P) : rn M pc ls st w P := by
  subst e
  refine rn_step d rfl rfl ?_ n
  show some (pc + 2, ls, Value.int (Int8.ofInt n0).toInt32 :: st, w) = _
  rw [bip n0 hr.1 hr.2]
theorem r_sipush {n0 : Int} (d : decode M.2.1 pc = .ok (.sipush n0, 3)) (e : pc + 3 = pc2) (hr : -32768 ≤ n0 ∧ n0 ≤ 32767) (n : rn M pc2 ls (.int (iN n0) :: st) w P) : rn M pc ls st w P := by
  subst e
  refine rn_step d rfl rfl ?_ n
  show some (pc + 3, ls, Value.int (Int16.ofInt n0).toInt32 :: st, w) = _
  rw [sip n0 hr.1 hr.2]
theorem r_lconst {n0 : Fin 2} {z : Int} (d : decode M.2.1 pc = .ok (.lconst n0, 1)) (e : pc + 1 = pc2) (hz : Int64.ofNat n0.val = lZ z) (n : rn M pc2 ls (.long (lZ z) :: st) w P) : rn M pc ls st w P := by
  subst e
  rw [← hz] at n
  exact rn_step d rfl rfl rfl n
theorem r_ldc {k : Nat} {v : Int32} (d : decode M.2.1 pc = .ok (.ldc k, 2)) (e : pc + 2 = pc2) (h : av_ki M.2.2.2.2.1 k = some v) (n : rn M pc2 ls (.int v :: st) w P) : rn M pc ls st w P := by
  subst e
  refine rn_step d rfl rfl ?_ n
  show av_ldc M.2.2.2.2.1 k 2 pc ls st w = _
  unfold av_ldc
  rw [h]
  rfl
theorem r_ldl {k : Nat} {v : Int64} (d : decode M.2.1 pc = .ok (.ldc2_w k, 3)) (e : pc + 3 = pc2) (h : av_kl M.2.2.2.2.1 k = some v) (n : rn M pc2 ls (.long v :: st) w P) : rn M pc ls st w P := by
  subst e
  refine rn_step d rfl rfl ?_ n
  show av_ldl M.2.2.2.2.1 k 3 pc ls st w = _
  unfold av_ldl
  rw [h]
  rfl
theorem r_iadd {x y : Int} (d : decode M.2.1 pc = .ok (.iadd, 1)) (e : pc + 1 = pc2) (n : rn M pc2 ls (.int (iN (x + y)) :: st) w P) : rn M pc ls (.int (iN y) :: .int (iN x) :: st) w P := by
  subst e
  rw [← iN_add] at n
  exact rn_step d rfl rfl rfl n
theorem r_isub {x y : Int} (d : decode M.2.1 pc = .ok (.isub, 1)) (e : pc + 1 = pc2) (n : rn M pc2 ls (.int (iN (x - y)) :: st) w P) : rn M pc ls (.int (iN y) :: .int (iN x) :: st) w P := by
  subst e
  rw [← iN_sub] at n
  exact rn_step d rfl rfl rfl n
theorem r_imul {x y : Int} (d : decode M.2.1 pc = .ok (.imul, 1)) (e : pc + 1 = pc2) (n : rn M pc2 ls (.int (iN (x * y)) :: st) w P) : rn M pc ls (.int (iN y) :: .int (iN x) :: st) w P := by
  subst e
  rw [← iN_mul] at n
  exact rn_step d rfl rfl rfl n
theorem r_iand {x y z : Int32} (d : decode M.2.1 pc = .ok (.iand, 1)) (e : pc + 1 = pc2) (hz : x &&& y = z) (n : rn M pc2 ls (.int z :: st) w P) : rn M pc ls (.int y :: .int x :: st) w P := by
  subst e
  subst hz
  exact rn_step d rfl rfl rfl n
theorem r_ior {x y z : Int32} (d : decode M.2.1 pc = .ok (.ior, 1)) (e : pc + 1 = pc2) (hz : x ||| y = z) (n : rn M pc2 ls (.int z :: st) w P) : rn M pc ls (.int y :: .int x :: st) w P := by
  subst e
  subst hz
  exact rn_step d rfl rfl rfl n
theorem r_ixor {x y z : Int32} (d : decode M.2.1 pc = .ok (.ixor, 1)) (e : pc + 1 = pc2) (hz : x ^^^ y = z) (n : rn M pc2 ls (.int z :: st) w P) : rn M pc ls (.int y :: .int x :: st) w P := by
  subst e
  subst hz
  exact rn_step d rfl rfl rfl n
theorem r_ishl {x y z : Int32} (d : decode M.2.1 pc = .ok (.ishl, 1)) (e : pc + 1 = pc2) (hz : x <<< (y &&& 31) = z) (n : rn M pc2 ls (.int z :: st) w P) : rn M pc ls (.int y :: .int x :: st) w P := by
  subst e
  subst hz
  exact rn_step d rfl rfl rfl n
theorem r_ishr {x y z : Int32} (d : decode M.2.1 pc = .ok (.ishr, 1)) (e : pc + 1 = pc2) (hz : x >>> (y &&& 31) = z) (n : rn M pc2 ls (.int z :: st) w P) : rn M pc ls (.int y :: .int x :: st) w P := by
  subst e
  subst hz
  exact rn_step d rfl rfl rfl n
theorem r_idiv {x y : Int} (d : decode M.2.1 pc = .ok (.idiv, 1)) (e : pc + 1 = pc2) (hx : -2147483648 ≤ x ∧ x < 2147483648) (hy : -2147483648 ≤ y ∧ y < 2147483648) (h0 : y ≠ 0) (h1 : ¬ (x = -2147483648 ∧ y = -1)) (n : rn M pc2 ls (.int (iN (x.tdiv y)) :: st) w P) : rn M pc ls (.int (iN y) :: .int (iN x) :: st) w P := by
  subst e
  rw [← iN_div hx hy h1] at n
  refine rn_step d rfl rfl ?_ n
  show (if iN y = 0 then none else _) = _
  rw [if_neg (fun q => h0 ((iN_inj hy (by omega)).mp (q.trans iN_0)))]
  rfl
theorem r_irem {x y : Int} (d : decode M.2.1 pc = .ok (.irem, 1)) (e : pc + 1 = pc2) (hx : -2147483648 ≤ x ∧ x < 2147483648) (hy : -2147483648 ≤ y ∧ y < 2147483648) (h0 : y ≠ 0) (h1 : ¬ (x = -2147483648 ∧ y = -1)) (n : rn M pc2 ls (.int (iN (x.tmod y)) :: st) w P) : rn M pc ls (.int (iN y) :: .int (iN x) :: st) w P := by
  subst e
  rw [← iN_rem hx hy h1] at n
  refine rn_step d rfl rfl ?_ n
  show (if iN y = 0 then none else _) = _
  rw [if_neg (fun q => h0 ((iN_inj hy (by omega)).mp (q.trans iN_0)))]
  rfl
theorem r_ineg {x : Int} (d : decode M.2.1 pc = .ok (.ineg, 1)) (e : pc + 1 = pc2) (n : rn M pc2 ls (.int (iN (-x)) :: st) w P) : rn M pc ls (.int (iN x) :: st) w P := by
  subst e
  rw [← iN_neg] at n
  exact rn_step d rfl rfl rfl n
theorem r_i2l {x : Int} (d : decode M.2.1 pc = .ok (.i2l, 1)) (e : pc + 1 = pc2) (hx : -2147483648 ≤ x ∧ x < 2147483648) (n : rn M pc2 ls (.long (lZ x) :: st) w P) : rn M pc ls (.int (iN x) :: st) w P := by
  subst e
  rw [← iN_i2l hx] at n
  exact rn_step d rfl rfl rfl n
theorem r_i2c {x z : Int32} (d : decode M.2.1 pc = .ok (.i2c, 1)) (e : pc + 1 = pc2) (hz : (x.toUInt32 % 65536).toInt32 = z) (n : rn M pc2 ls (.int z :: st) w P) : rn M pc ls (.int x :: st) w P := by
  subst e
  subst hz
  exact rn_step d rfl rfl rfl n
theorem r_lsub {x y : Int} (d : decode M.2.1 pc = .ok (.lsub, 1)) (e : pc + 1 = pc2) (n : rn M pc2 ls (.long (lZ (x - y)) :: st) w P) : rn M pc ls (.long (lZ y) :: .long (lZ x) :: st) w P := by
  subst e
  rw [← lZ_sub] at n
  exact rn_step d rfl rfl rfl n
theorem r_lmul {x y : Int} (d : decode M.2.1 pc = .ok (.lmul, 1)) (e : pc + 1 = pc2) (n : rn M pc2 ls (.long (lZ (x * y)) :: st) w P) : rn M pc ls (.long (lZ y) :: .long (lZ x) :: st) w P := by
  subst e
  rw [← lZ_mul] at n
  exact rn_step d rfl rfl rfl n
theorem r_lcmp {x y : Int} (d : decode M.2.1 pc = .ok (.lcmp, 1)) (e : pc + 1 = pc2) (hx : -9223372036854775808 ≤ x ∧ x < 9223372036854775808) (hy : -9223372036854775808 ≤ y ∧ y < 9223372036854775808) (n : rn M pc2 ls (.int (iN (cz x y)) :: st) w P) : rn M pc ls (.long (lZ y) :: .long (lZ x) :: st) w P := by
  subst e
  rw [← lZ_cmp hx hy] at n
  exact rn_step d rfl rfl rfl n
theorem r_icmp_eq {x y off : Int} {tgt : Nat} (d : decode M.2.1 pc = .ok (.if_icmp .eq off, 3)) (e : pc + 3 = pc2) (et : (pc : Int) + off = (tgt : Int)) (hx : -2147483648 ≤ x ∧ x < 2147483648) (hy : -2147483648 ≤ y ∧ y < 2147483648) (kt : x = y → rn M tgt ls st w P) (kf : ¬ (x = y) → rn M pc2 ls st w P) : rn M pc ls (.int (iN y) :: .int (iN x) :: st) w P := by
  subst e
  have h0 : av_step M (.if_icmp .eq off) 3 pc ls (.int (iN y) :: .int (iN x) :: st) w = some (if iN x = iN y then tgt else pc + 3, ls, st, w) := by
    show av_if2 (fun x y => x = y) off 3 pc ls (.int (iN y) :: .int (iN x) :: st) w = _
    unfold av_if2 av_ifs
    dsimp only
    rw [if_pos rfl]
    unfold av_tgt
    rw [if_pos (by omega), et]
    rfl
  by_cases h : x = y
  · rw [if_pos ((iN_inj hx hy).mpr h)] at h0
    exact rn_step d rfl rfl h0 (kt h)
  · rw [if_neg (fun q => h ((iN_inj hx hy).mp q))] at h0
    exact rn_step d rfl rfl h0 (kf h)
theorem r_icmp_ne {x y off : Int} {tgt : Nat} (d : decode M.2.1 pc = .ok (.if_icmp .ne off, 3)) (e : pc + 3 = pc2) (et : (pc : Int) + off = (tgt : Int)) (hx : -2147483648 ≤ x ∧ x < 2147483648) (hy : -2147483648 ≤ y ∧ y < 2147483648) (kt : ¬ x = y → rn M tgt ls st w P) (kf : x = y → rn M pc2 ls st w P) : rn M pc ls (.int (iN y) :: .int (iN x) :: st) w P := by
  subst e
  have h0 : av_step M (.if_icmp .ne off) 3 pc ls (.int (iN y) :: .int (iN x) :: st) w = some (if ¬ iN x = iN y then tgt else pc + 3, ls, st, w) := by
    show av_if2 (fun x y => ¬ x = y) off 3 pc ls (.int (iN y) :: .int (iN x) :: st) w = _
    unfold av_if2 av_ifs
    dsimp only
    rw [if_pos rfl]
    unfold av_tgt
    rw [if_pos (by omega), et]
    rfl
  by_cases h : ¬ x = y
  · rw [if_pos (fun q => h ((iN_inj hx hy).mp q))] at h0
    exact rn_step d rfl rfl h0 (kt h)
  · rw [if_neg (fun q => q ((iN_inj hx hy).mpr (Decidable.not_not.mp h)))] at h0
    exact rn_step d rfl rfl h0 (kf (Decidable.not_not.mp h))
theorem r_icmp_lt {x y off : Int} {tgt : Nat} (d : decode M.2.1 pc = .ok (.if_icmp .lt off, 3)) (e : pc + 3 = pc2) (et : (pc : Int) + off = (tgt : Int)) (hx : -2147483648 ≤ x ∧ x < 2147483648) (hy : -2147483648 ≤ y ∧ y < 2147483648) (kt : x < y → rn M tgt ls st w P) (kf : ¬ (x < y) → rn M pc2 ls st w P) : rn M pc ls (.int (iN y) :: .int (iN x) :: st) w P := by
  subst e
  have h0 : av_step M (.if_icmp .lt off) 3 pc ls (.int (iN y) :: .int (iN x) :: st) w = some (if iN x < iN y then tgt else pc + 3, ls, st, w) := by
    show av_if2 (fun x y => x < y) off 3 pc ls (.int (iN y) :: .int (iN x) :: st) w = _
    unfold av_if2 av_ifs
    dsimp only
    rw [if_pos rfl]
    unfold av_tgt
    rw [if_pos (by omega), et]
    rfl
  by_cases h : x < y
  · rw [if_pos ((iN_lt hx hy).mpr h)] at h0
    exact rn_step d rfl rfl h0 (kt h)
  · rw [if_neg (fun q => h ((iN_lt hx hy).mp q))] at h0
    exact rn_step d rfl rfl h0 (kf h)
theorem r_icmp_ge {x y off : Int} {tgt : Nat} (d : decode M.2.1 pc = .ok (.if_icmp .ge off, 3)) (e : pc + 3 = pc2) (et : (pc : Int) + off = (tgt : Int)) (hx : -2147483648 ≤ x ∧ x < 2147483648) (hy : -2147483648 ≤ y ∧ y < 2147483648) (kt : y ≤ x → rn M tgt ls st w P) (kf : ¬ (y ≤ x) → rn M pc2 ls st w P) : rn M pc ls (.int (iN y) :: .int (iN x) :: st) w P := by
  subst e
  have h0 : av_step M (.if_icmp .ge off) 3 pc ls (.int (iN y) :: .int (iN x) :: st) w = some (if iN y ≤ iN x then tgt else pc + 3, ls, st, w) := by
    show av_if2 (fun x y => y ≤ x) off 3 pc ls (.int (iN y) :: .int (iN x) :: st) w = _
    unfold av_if2 av_ifs
    dsimp only
    rw [if_pos rfl]
    unfold av_tgt
    rw [if_pos (by omega), et]
    rfl
  by_cases h : y ≤ x
  · rw [if_pos ((iN_le hy hx).mpr h)] at h0
    exact rn_step d rfl rfl h0 (kt h)
  · rw [if_neg (fun q => h ((iN_le hy hx).mp q))] at h0
    exact rn_step d rfl rfl h0 (kf h)
theorem r_icmp_gt {x y off : Int} {tgt : Nat} (d : decode M.2.1 pc = .ok (.if_icmp .gt off, 3)) (e : pc + 3 = pc2) (et : (pc : Int) + off = (tgt : Int)) (hx : -2147483648 ≤ x ∧ x < 2147483648) (hy : -2147483648 ≤ y ∧ y < 2147483648) (kt : y < x → rn M tgt ls st w P) (kf : ¬ (y < x) → rn M pc2 ls st w P) : rn M pc ls (.int (iN y) :: .int (iN x) :: st) w P := by
  subst e
  have h0 : av_step M (.if_icmp .gt off) 3 pc ls (.int (iN y) :: .int (iN x) :: st) w = some (if iN y < iN x then tgt else pc + 3, ls, st, w) := by
    show av_if2 (fun x y => y < x) off 3 pc ls (.int (iN y) :: .int (iN x) :: st) w = _
    unfold av_if2 av_ifs
    dsimp only
    rw [if_pos rfl]
    unfold av_tgt
    rw [if_pos (by omega), et]
    rfl
  by_cases h : y < x
  · rw [if_pos ((iN_lt hy hx).mpr h)] at h0
    exact rn_step d rfl rfl h0 (kt h)
  · rw [if_neg (fun q => h ((iN_lt hy hx).mp q))] at h0
    exact rn_step d rfl rfl h0 (kf h)
theorem r_icmp_le {x y off : Int} {tgt : Nat} (d : decode M.2.1 pc = .ok (.if_icmp .le off, 3)) (e : pc + 3 = pc2) (et : (pc : Int) + off = (tgt : Int)) (hx : -2147483648 ≤ x ∧ x < 2147483648) (hy : -2147483648 ≤ y ∧ y < 2147483648) (kt : x ≤ y → rn M tgt ls st w P) (kf : ¬ (x ≤ y) → rn M pc2 ls st w P) : rn M pc ls (.int (iN y) :: .int (iN x) :: st) w P := by
  subst e
  have h0 : av_step M (.if_icmp .le off) 3 pc ls (.int (iN y) :: .int (iN x) :: st) w = some (if iN x ≤ iN y then tgt else pc + 3, ls, st, w) := by
    show av_if2 (fun x y => x ≤ y) off 3 pc ls (.int (iN y) :: .int (iN x) :: st) w = _
    unfold av_if2 av_ifs
    dsimp only
    rw [if_pos rfl]
    unfold av_tgt
    rw [if_pos (by omega), et]
    rfl
  by_cases h : x ≤ y
  · rw [if_pos ((iN_le hx hy).mpr h)] at h0
    exact rn_step d rfl rfl h0 (kt h)
  · rw [if_neg (fun q => h ((iN_le hx hy).mp q))] at h0
    exact rn_step d rfl rfl h0 (kf h)
theorem r_if_eq {x off : Int} {tgt : Nat} (d : decode M.2.1 pc = .ok (.ifCond .eq off, 3)) (e : pc + 3 = pc2) (et : (pc : Int) + off = (tgt : Int)) (hx : -2147483648 ≤ x ∧ x < 2147483648) (kt : x = 0 → rn M tgt ls st w P) (kf : ¬ (x = 0) → rn M pc2 ls st w P) : rn M pc ls (.int (iN x) :: st) w P := by
  subst e
  have h0 : av_step M (.ifCond .eq off) 3 pc ls (.int (iN x) :: st) w = some (if iN x = 0 then tgt else pc + 3, ls, st, w) := by
    show av_if1 (fun x => x = 0) off 3 pc ls (.int (iN x) :: st) w = _
    unfold av_if1 av_ifs
    dsimp only
    rw [if_pos rfl]
    unfold av_tgt
    rw [if_pos (by omega), et]
    rfl
  by_cases h : x = 0
  · rw [if_pos (show iN x = 0 from ((iN_inj hx (by omega)).mpr h : iN x = iN 0))] at h0
    exact rn_step d rfl rfl h0 (kt h)
  · rw [if_neg (show ¬ (iN x = 0) from (fun q => h ((iN_inj hx (by omega)).mp (q.trans iN_0))))] at h0
    exact rn_step d rfl rfl h0 (kf h)
theorem r_if_ne {x off : Int} {tgt : Nat} (d : decode M.2.1 pc = .ok (.ifCond .ne off, 3)) (e : pc + 3 = pc2) (et : (pc : Int) + off = (tgt : Int)) (hx : -2147483648 ≤ x ∧ x < 2147483648) (kt : ¬ x = 0 → rn M tgt ls st w P) (kf : x = 0 → rn M pc2 ls st w P) : rn M pc ls (.int (iN x) :: st) w P := by
  subst e
  have h0 : av_step M (.ifCond .ne off) 3 pc ls (.int (iN x) :: st) w = some (if ¬ iN x = 0 then tgt else pc + 3, ls, st, w) := by
    show av_if1 (fun x => ¬ x = 0) off 3 pc ls (.int (iN x) :: st) w = _
    unfold av_if1 av_ifs
    dsimp only
    rw [if_pos rfl]
    unfold av_tgt
    rw [if_pos (by omega), et]
    rfl
  by_cases h : ¬ x = 0
  · rw [if_pos (show ¬ iN x = 0 from (fun q => h ((iN_inj hx (by omega)).mp (q.trans iN_0))))] at h0
    exact rn_step d rfl rfl h0 (kt h)
  · rw [if_neg (show ¬ (¬ iN x = 0) from (fun q => q ((iN_inj hx (by omega)).mpr (Decidable.not_not.mp h) : iN x = iN 0)))] at h0
    exact rn_step d rfl rfl h0 (kf (Decidable.not_not.mp h))
theorem r_if_lt {x off : Int} {tgt : Nat} (d : decode M.2.1 pc = .ok (.ifCond .lt off, 3)) (e : pc + 3 = pc2) (et : (pc : Int) + off = (tgt : Int)) (hx : -2147483648 ≤ x ∧ x < 2147483648) (kt : x < 0 → rn M tgt ls st w P) (kf : ¬ (x < 0) → rn M pc2 ls st w P) : rn M pc ls (.int (iN x) :: st) w P := by
  subst e
  have h0 : av_step M (.ifCond .lt off) 3 pc ls (.int (iN x) :: st) w = some (if iN x < 0 then tgt else pc + 3, ls, st, w) := by
    show av_if1 (fun x => x < 0) off 3 pc ls (.int (iN x) :: st) w = _
    unfold av_if1 av_ifs
    dsimp only
    rw [if_pos rfl]
    unfold av_tgt
    rw [if_pos (by omega), et]
    rfl
  by_cases h : x < 0
  · rw [if_pos (show iN x < 0 from ((iN_lt hx (by omega)).mpr h : iN x < iN 0))] at h0
    exact rn_step d rfl rfl h0 (kt h)
  · rw [if_neg (show ¬ (iN x < 0) from (fun q => h ((iN_lt (y := 0) hx (by omega)).mp q)))] at h0
    exact rn_step d rfl rfl h0 (kf h)
theorem r_if_ge {x off : Int} {tgt : Nat} (d : decode M.2.1 pc = .ok (.ifCond .ge off, 3)) (e : pc + 3 = pc2) (et : (pc : Int) + off = (tgt : Int)) (hx : -2147483648 ≤ x ∧ x < 2147483648) (kt : 0 ≤ x → rn M tgt ls st w P) (kf : ¬ (0 ≤ x) → rn M pc2 ls st w P) : rn M pc ls (.int (iN x) :: st) w P := by
  subst e
  have h0 : av_step M (.ifCond .ge off) 3 pc ls (.int (iN x) :: st) w = some (if 0 ≤ iN x then tgt else pc + 3, ls, st, w) := by
    show av_if1 (fun x => 0 ≤ x) off 3 pc ls (.int (iN x) :: st) w = _
    unfold av_if1 av_ifs
    dsimp only
    rw [if_pos rfl]
    unfold av_tgt
    rw [if_pos (by omega), et]
    rfl
  by_cases h : 0 ≤ x
  · rw [if_pos (show 0 ≤ iN x from ((iN_le (by omega) hx).mpr h : iN 0 ≤ iN x))] at h0
    exact rn_step d rfl rfl h0 (kt h)
  · rw [if_neg (show ¬ (0 ≤ iN x) from (fun q => h ((iN_le (x := 0) (by omega) hx).mp q)))] at h0
    exact rn_step d rfl rfl h0 (kf h)
theorem r_if_gt {x off : Int} {tgt : Nat} (d : decode M.2.1 pc = .ok (.ifCond .gt off, 3)) (e : pc + 3 = pc2) (et : (pc : Int) + off = (tgt : Int)) (hx : -2147483648 ≤ x ∧ x < 2147483648) (kt : 0 < x → rn M tgt ls st w P) (kf : ¬ (0 < x) → rn M pc2 ls st w P) : rn M pc ls (.int (iN x) :: st) w P := by
  subst e
  have h0 : av_step M (.ifCond .gt off) 3 pc ls (.int (iN x) :: st) w = some (if 0 < iN x then tgt else pc + 3, ls, st, w) := by
    show av_if1 (fun x => 0 < x) off 3 pc ls (.int (iN x) :: st) w = _
    unfold av_if1 av_ifs
    dsimp only
    rw [if_pos rfl]
    unfold av_tgt
    rw [if_pos (by omega), et]
    rfl
  by_cases h : 0 < x
  · rw [if_pos (show 0 < iN x from ((iN_lt (by omega) hx).mpr h : iN 0 < iN x))] at h0
    exact rn_step d rfl rfl h0 (kt h)
  · rw [if_neg (show ¬ (0 < iN x) from (fun q => h ((iN_lt (x := 0) (by omega) hx).mp q)))] at h0
    exact rn_step d rfl rfl h0 (kf h)
theorem r_if_le {x off : Int} {tgt : Nat} (d : decode M.2.1 pc = .ok (.ifCond .le off, 3)) (e : pc + 3 = pc2) (et : (pc : Int) + off = (tgt : Int)) (hx : -2147483648 ≤ x ∧ x < 2147483648) (kt : x ≤ 0 → rn M tgt ls st w P) (kf : ¬ (x ≤ 0) → rn M pc2 ls st w P) : rn M pc ls (.int (iN x) :: st) w P := by
  subst e
  have h0 : av_step M (.ifCond .le off) 3 pc ls (.int (iN x) :: st) w = some (if iN x ≤ 0 then tgt else pc + 3, ls, st, w) := by
    show av_if1 (fun x => x ≤ 0) off 3 pc ls (.int (iN x) :: st) w = _
    unfold av_if1 av_ifs
    dsimp only
    rw [if_pos rfl]
    unfold av_tgt
    rw [if_pos (by omega), et]
    rfl
  by_cases h : x ≤ 0
  · rw [if_pos (show iN x ≤ 0 from ((iN_le hx (by omega)).mpr h : iN x ≤ iN 0))] at h0
    exact rn_step d rfl rfl h0 (kt h)
  · rw [if_neg (show ¬ (iN x ≤ 0) from (fun q => h ((iN_le (y := 0) hx (by omega)).mp q)))] at h0
    exact rn_step d rfl rfl h0 (kf h)
theorem r_ifb_eq {c : Prop} [Decidable c] {off : Int} {tgt : Nat} (d : decode M.2.1 pc = .ok (.ifCond .eq off, 3)) (e : pc + 3 = pc2) (et : (pc : Int) + off = (tgt : Int)) (kt : ¬ c → rn M tgt ls st w P) (kf : c → rn M pc2 ls st w P) : rn M pc ls (.int (iN (bz c)) :: st) w P := by
  have hb : -2147483648 ≤ bz c ∧ bz c < 2147483648 := by unfold bz; split <;> omega
  refine r_if_eq d e et hb (fun h => kt ?_) (fun h => kf ?_)
  · unfold bz at h
    split at h <;> simp_all
  · unfold bz at h
    split at h <;> simp_all
theorem r_ifb_ne {c : Prop} [Decidable c] {off : Int} {tgt : Nat} (d : decode M.2.1 pc = .ok (.ifCond .ne off, 3)) (e : pc + 3 = pc2) (et : (pc : Int) + off = (tgt : Int)) (kt : c → rn M tgt ls st w P) (kf : ¬ c → rn M pc2 ls st w P) : rn M pc ls (.int (iN (bz c)) :: st) w P := by
  have hb : -2147483648 ≤ bz c ∧ bz c < 2147483648 := by unfold bz; split <;> omega
  refine r_if_ne d e et hb (fun h => kt ?_) (fun h => kf ?_)
  · unfold bz at h
    split at h <;> simp_all
  · unfold bz at h
    split at h <;> simp_all
theorem r_goto {off : Int} {tgt : Nat} (d : decode M.2.1 pc = .ok (.goto off, 3)) (et : (pc : Int) + off = (tgt : Int)) (n : rn M tgt ls st w P) : rn M pc ls st w P := by
  refine rn_step d rfl rfl ?_ n
  show (if 3 = 3 then av_tgt pc off (fun t => some (t, ls, st, w)) else none) = _
  rw [if_pos rfl]
  unfold av_tgt
  rw [if_pos (by omega), et]
  rfl
theorem r_tab {dflt lo hi : Int} {offs : Array Int} {x : Int} (d : decode M.2.1 pc = .ok (.tableswitch dflt lo hi offs, len)) (hx : -2147483648 ≤ x ∧ x < 2147483648)
    (kd : x < lo ∨ hi < x → ∃ tgt : Nat, (pc : Int) + dflt = (tgt : Int) ∧ rn M tgt ls st w P) (kk : ¬ (x < lo ∨ hi < x) → ∃ (off : Int) (tgt : Nat), offs[(x - lo).toNat]? = some off ∧ (pc : Int) + off = (tgt : Int) ∧ rn M tgt ls st w P) : rn M pc ls (.int (iN x) :: st) w P := by
  by_cases h : x < lo ∨ hi < x
  · obtain ⟨tgt, et, n⟩ := kd h
    refine rn_step d rfl rfl ?_ n
    show (if (iN x).toInt < lo ∨ hi < (iN x).toInt then av_tgt pc dflt _ else _) = _
    rw [iN_toInt hx, if_pos h]
    unfold av_tgt
    rw [if_pos (by omega), et]
    rfl
  · obtain ⟨off, tgt, ho, et, n⟩ := kk h
    refine rn_step d rfl rfl ?_ n
    show (if (iN x).toInt < lo ∨ hi < (iN x).toInt then av_tgt pc dflt _ else _) = _
    rw [iN_toInt hx, if_neg h, ho]
    show av_tgt pc off _ = _
    unfold av_tgt
    rw [if_pos (by omega), et]
    rfl
theorem r_getf {k ci kf a : Nat} {hh : String} {fs : List Value} {v : Value} (d : decode M.2.1 pc = .ok (.getfield k, 3)) (e : pc + 3 = pc2) (hf : av_fld M.2.2.2.2.1 k = some (ci, kf, hh)) (ha : a < w.1) (hw : w.2.2 a = .inr (ci, fs)) (hv : fs[kf]? = some v) (n : rn M pc2 ls (v :: st) w P) : rn M pc ls (.ref a :: st) w P := by
  subst e
  refine rn_step d rfl rfl ?_ n
  show av_getf M.2.2.2.2.1 k 3 pc ls (.ref a :: st) w = _
  unfold av_getf
  dsimp only
  rw [if_pos ⟨ha, rfl⟩, hf]
  dsimp only
  rw [hw]
  dsimp only
  rw [if_pos rfl, hv]
theorem r_putf {k ci kf a : Nat} {hh : String} {fs fs2 : List Value} {v : Value} (d : decode M.2.1 pc = .ok (.putfield k, 3)) (e : pc + 3 = pc2) (hf : av_fld M.2.2.2.2.1 k = some (ci, kf, hh)) (ha : a < w.1) (hw : w.2.2 a = .inr (ci, fs)) (hl : kf < fs.length) (hfit : av_fit (av_ty ci kf) v = true) (hfin : (av_T ci kf).2.2.2 = false) (hs : fs.set kf v = fs2) (n : rn M pc2 ls st (wst w a (.inr (ci, fs2))) P) : rn M pc ls (v :: .ref a :: st) w P := by
  subst e
  subst hs
  refine rn_step d rfl rfl ?_ n
  show av_putf M.2.2.2.2.1 (av_isInit M) k 3 pc ls (v :: .ref a :: st) w = _
  unfold av_putf
  dsimp only
  rw [if_pos ⟨ha, rfl⟩, hf]
  dsimp only
  rw [hw]
  dsimp only
  rw [if_pos ⟨rfl, hl, hfit, Or.inl hfin⟩]
  rfl
theorem r_iald {a n0 : Nat} {c : Nat → Int} {x : Int} (d : decode M.2.1 pc = .ok (.iaload, 1)) (e : pc + 1 = pc2) (h99 : M.2.2.2.2.1 ≠ 99) (ha : a < w.1) (hw : w.2.2 a = arO n0 c) (h0 : 0 ≤ x) (hx : x < n0) (hn : n0 ≤ 1000) (n : rn M pc2 ls (.int (iN (c x.toNat)) :: st) w P) : rn M pc ls (.int (iN x) :: .ref a :: st) w P := by
  subst e
  refine rn_step d rfl rfl ?_ n
  show (if M.2.2.2.2.1 = 99 then av_sald 1 pc ls (.int (iN x) :: .ref a :: st) w else av_xald 0 1 pc ls (.int (iN x) :: .ref a :: st) w) = _
  rw [if_neg h99]
  unfold av_xald
  dsimp only
  rw [hw]
  unfold arO
  dsimp only
  rw [if_pos ⟨ha, rfl, rfl, av_inr_z h0 hx hn⟩, iN_clamp (by omega)]
  rfl
theorem r_iast {a n0 : Nat} {c : Nat → Int} {x y : Int} (d : decode M.2.1 pc = .ok (.iastore, 1)) (e : pc + 1 = pc2) (ha : a < w.1) (hw : w.2.2 a = arO n0 c) (h0 : 0 ≤ x) (hx : x < n0) (hn : n0 ≤ 1000) (n : rn M pc2 ls st (wst w a (arO n0 (updZ c x.toNat y))) P) : rn M pc ls (.int (iN y) :: .int (iN x) :: .ref a :: st) w P := by
  subst e
  refine rn_step d rfl rfl ?_ n
  show av_xast (fun x => x) 0 1 pc ls (.int (iN y) :: .int (iN x) :: .ref a :: st) w = _
  unfold av_xast
  dsimp only
  rw [hw]
  unfold arO
  dsimp only
  rw [if_pos ⟨ha, rfl, rfl, av_inr_z h0 hx hn⟩, iN_clamp (by omega), upd_iF]
  rfl
theorem r_alen {a n0 : Nat} {c : Nat → Int} (d : decode M.2.1 pc = .ok (.arraylength, 1)) (e : pc + 1 = pc2) (h99 : M.2.2.2.2.1 ≠ 99) (ha : a < w.1) (hw : w.2.2 a = arO n0 c) (n : rn M pc2 ls (.int (iN n0) :: st) w P) : rn M pc ls (.ref a :: st) w P := by
  subst e
  refine rn_step d rfl rfl ?_ n
  show (if M.2.2.2.2.1 = 99 then av_slen 1 pc ls (.ref a :: st) w else av_alen 1 pc ls (.ref a :: st) w) = _
  rw [if_neg h99]
  unfold av_alen
  dsimp only
  rw [hw]
  unfold arO
  dsimp only
  rw [if_pos ⟨ha, rfl, by decide⟩, show Int32.ofNat n0 = iN (n0 : Int) from (Int32.ofInt_eq_ofNat).symm]
def chO (n : Nat) (c : Nat → Int) : av_E := .inl (1, n, .inl (iF c))
theorem r_cald {a n0 : Nat} {c : Nat → Int} {x : Int} (d : decode M.2.1 pc = .ok (.caload, 1)) (e : pc + 1 = pc2) (ha : a < w.1) (hw : w.2.2 a = chO n0 c) (h0 : 0 ≤ x) (hx : x < n0) (hn : n0 ≤ 1000) (n : rn M pc2 ls (.int (iN (c x.toNat)) :: st) w P) : rn M pc ls (.int (iN x) :: .ref a :: st) w P := by
  subst e
  refine rn_step d rfl rfl ?_ n
  show av_xald 1 1 pc ls (.int (iN x) :: .ref a :: st) w = _
  unfold av_xald
  dsimp only
  rw [hw]
  unfold chO
  dsimp only
  rw [if_pos ⟨ha, rfl, rfl, av_inr_z h0 hx hn⟩, iN_clamp (by omega)]
  rfl
theorem r_cast {a n0 : Nat} {c : Nat → Int} {x y : Int} (d : decode M.2.1 pc = .ok (.castore, 1)) (e : pc + 1 = pc2) (ha : a < w.1) (hw : w.2.2 a = chO n0 c) (h0 : 0 ≤ x) (hx : x < n0) (hn : n0 ≤ 1000) (hy : vp_nar .char (iN y) = iN y) (n : rn M pc2 ls st (wst w a (chO n0 (updZ c x.toNat y))) P) : rn M pc ls (.int (iN y) :: .int (iN x) :: .ref a :: st) w P := by
  subst e
  refine rn_step d rfl rfl ?_ n
  show av_xast (vp_nar .char) 1 1 pc ls (.int (iN y) :: .int (iN x) :: .ref a :: st) w = _
  unfold av_xast
  dsimp only
  rw [hw]
  unfold chO
  dsimp only
  rw [if_pos ⟨ha, rfl, rfl, av_inr_z h0 hx hn⟩, iN_clamp (by omega), hy, upd_iF]
  rfl
def rfO (n : Nat) (f : Nat → Option Nat) : av_E := .inl (2, n, .inr (.inr (.inr (.inr f))))
theorem r_aald {a n0 r : Nat} {f : Nat → Option Nat} {x : Int} (d : decode M.2.1 pc = .ok (.aaload, 1)) (e : pc + 1 = pc2) (ha : a < w.1) (hw : w.2.2 a = rfO n0 f) (h0 : 0 ≤ x) (hx : x < n0) (hn : n0 ≤ 1000) (hr : f x.toNat = some r) (n : rn M pc2 ls (.ref r :: st) w P) : rn M pc ls (.int (iN x) :: .ref a :: st) w P := by
  subst e
  refine rn_step d rfl rfl ?_ n
  show av_rald 1 pc ls (.int (iN x) :: .ref a :: st) w = _
  unfold av_rald
  dsimp only
  rw [hw]
  unfold rfO
  dsimp only
  rw [if_pos ⟨ha, rfl, rfl, av_inr_z h0 hx hn⟩, iN_clamp (by omega), hr]
theorem r_aast {a n0 r : Nat} {f : Nat → Option Nat} {x : Int} {fs : List Value} (d : decode M.2.1 pc = .ok (.aastore, 1)) (e : pc + 1 = pc2) (ha : a < w.1) (hw : w.2.2 a = rfO n0 f) (h0 : 0 ≤ x) (hx : x < n0) (hn : n0 ≤ 1000) (hr : r < w.1) (hr2 : w.2.2 r = .inr (0, fs)) (n : rn M pc2 ls st (wst w a (rfO n0 (va_up f x.toNat (some r)))) P) : rn M pc ls (.ref r :: .int (iN x) :: .ref a :: st) w P := by
  subst e
  refine rn_step d rfl rfl ?_ n
  show av_rast 1 pc ls (.ref r :: .int (iN x) :: .ref a :: st) w = _
  unfold av_rast
  dsimp only
  rw [hw, hr2]
  unfold rfO
  dsimp only
  rw [if_pos ⟨⟨ha, hr⟩, rfl, rfl, rfl, av_inr_z h0 hx hn⟩, iN_clamp (by omega)]
  rfl
theorem r_dup {v : Value} (d : decode M.2.1 pc = .ok (.dup, 1)) (e : pc + 1 = pc2) (hv : v.category = 1) (n : rn M pc2 ls (v :: v :: st) w P) : rn M pc ls (v :: st) w P := by
  subst e
  refine rn_step d rfl rfl ?_ n
  show (if 1 = 1 ∧ v.category = 1 then _ else none) = _
  rw [if_pos ⟨rfl, hv⟩]
theorem r_pop {v : Value} (d : decode M.2.1 pc = .ok (.pop, 1)) (e : pc + 1 = pc2) (hv : v.category = 1) (n : rn M pc2 ls st w P) : rn M pc ls (v :: st) w P := by
  subst e
  refine rn_step d rfl rfl ?_ n
  show (if 1 = 1 ∧ v.category = 1 then _ else none) = _
  rw [if_pos ⟨rfl, hv⟩]
theorem r_dup2 {v u : Value} (d : decode M.2.1 pc = .ok (.dup2, 1)) (e : pc + 1 = pc2) (hv : v.category = 1) (hu : u.category = 1) (n : rn M pc2 ls (v :: u :: v :: u :: st) w P) : rn M pc ls (v :: u :: st) w P := by
  subst e
  refine rn_step d rfl rfl ?_ n
  show (if 1 = 1 ∧ v.category = 1 ∧ u.category = 1 then _ else none) = _
  rw [if_pos ⟨rfl, hv, hu⟩]
theorem r_ifnull {r : Nat} {off : Int} (d : decode M.2.1 pc = .ok (.ifnull off, 3)) (e : pc + 3 = pc2) (n : rn M pc2 ls st w P) : rn M pc ls (.ref r :: st) w P := by
  subst e
  exact rn_step d rfl rfl rfl n
theorem r_mm {k : Nat} {b : Bool} {x y : Int} (d : decode M.2.1 pc = .ok (.invokestatic k, 3)) (e : pc + 3 = pc2) (hres : av_res M.2.2.2.2.1 k = none) (hm : av_mm M.2.2.2.2.1 k = some b) (h1 : 1 ≤ M.2.2.2.2.2.1) (hs : (st.map (fun v => v.category)).sum ≤ 8) (hx : -2147483648 ≤ x ∧ x < 2147483648) (hy : -2147483648 ≤ y ∧ y < 2147483648) (n : rn M pc2 ls (.int (iN (if b then max x y else min x y)) :: st) w P) : rn M pc ls (.int (iN y) :: .int (iN x) :: st) w P := by
  subst e
  have h2 : av_inv M (.invokestatic k) 3 (.int (iN y) :: .int (iN x) :: st) = none := by
    show av_cut M 3 k [2, 3] true _ = none
    unfold av_cut
    rw [hres]
  refine rn_step d rfl h2 ?_ n
  show av_mmx M.2.2.2.2.1 k M.2.2.2.2.2.1 3 pc ls (.int (iN y) :: .int (iN x) :: st) w = _
  unfold av_mmx
  dsimp only
  rw [hm]
  dsimp only
  rw [if_pos ⟨rfl, h1, hs⟩]
  have q1 : (if iN x < iN y then iN y else iN x) = iN (max x y) := by
    by_cases h : x < y
    · rw [if_pos ((iN_lt hx hy).mpr h), Int.max_eq_right (by omega)]
    · rw [if_neg (fun q => h ((iN_lt hx hy).mp q)), Int.max_eq_left (by omega)]
  have q2 : (if iN y < iN x then iN y else iN x) = iN (min x y) := by
    by_cases h : y < x
    · rw [if_pos ((iN_lt hy hx).mpr h), Int.min_eq_right (by omega)]
    · rw [if_neg (fun q => h ((iN_lt hy hx).mp q)), Int.min_eq_left (by omega)]
  cases b
  · simp only [q2]
    rfl
  · simp only [q1]
    rfl
theorem r_ret {v : Int32} (d : decode M.2.1 pc = .ok (.ireturn, 1)) (hr : M.2.2.2.1 = some .int) (n : P (some (.int v)) w) : rn M pc ls [.int v] w P := by
  refine rn_ret d ?_ n
  show (match M.2.2.2.1 with | some ty => _ | none => none) = _
  rw [hr]
  rfl
theorem r_retb {z : Int} (d : decode M.2.1 pc = .ok (.ireturn, 1)) (hr : M.2.2.2.1 = some .boolean) (hz : z = 0 ∨ z = 1) (n : P (some (.int (iN z))) w) : rn M pc ls [.int (iN z)] w P := by
  have hf : av_fit .boolean (.int (iN z)) = true := by
    rcases hz with rfl | rfl
    · decide +kernel
    · decide +kernel
  refine rn_ret d ?_ n
  show (match M.2.2.2.1 with | some ty => (if 1 = 1 ∧ av_fit ty (.int (iN z)) = true then some (some (Value.int (iN z))) else none) | none => none) = _
  rw [hr]
  exact if_pos ⟨rfl, hf⟩
theorem r_retc {z : Int} (d : decode M.2.1 pc = .ok (.ireturn, 1)) (hr : M.2.2.2.1 = some .char) (hz : 0 ≤ z ∧ z ≤ 65535) (n : P (some (.int (iN z))) w) : rn M pc ls [.int (iN z)] w P := by
  have hf : av_fit .char (.int (iN z)) = true := by
    have h1 : ¬ iN z < 0 := fun q => by have := (iN_lt (y := 0) (by omega) (by omega)).mp q; omega
    have h2 : iN z ≤ 65535 := (iN_le (y := 65535) (by omega) (by omega)).mpr hz.2
    show (decide (¬ iN z < 0) && decide (iN z ≤ 65535)) = true
    rw [decide_eq_true h1, decide_eq_true h2]
    rfl
  refine rn_ret d ?_ n
  show (match M.2.2.2.1 with | some ty => (if 1 = 1 ∧ av_fit ty (.int (iN z)) = true then some (some (Value.int (iN z))) else none) | none => none) = _
  rw [hr]
  exact if_pos ⟨rfl, hf⟩
theorem r_retv (d : decode M.2.1 pc = .ok (.return_, 1)) (hr : M.2.2.2.1 = none) (n : P none w) : rn M pc ls [] w P := by
  refine rn_ret d ?_ n
  show (if 1 = 1 ∧ M.2.2.2.1 = none then _ else none) = _
  rw [if_pos ⟨rfl, hr⟩]
theorem r_reta {a : Nat} {C : String} (d : decode M.2.1 pc = .ok (.areturn, 1)) (hr : M.2.2.2.1 = some (.object C)) (n : P (some (.ref a)) w) : rn M pc ls [.ref a] w P := by
  refine rn_ret d ?_ n
  show (match M.2.2.2.1 with | some ty => _ | none => none) = _
  rw [hr]
  rfl
theorem r_calls_0  {idx k : Nat} {P2 : Option Value → av_W → Prop} (d : decode M.2.1 pc = .ok (.invokestatic idx, 3)) (e : pc + 3 = pc2) (hr : av_res M.2.2.2.2.1 idx = some (k, M2)) (hk : (k == 2 || k == 3) = true) (hh : M2.2.2.2.2.2.1 < M.2.2.2.2.2.1) (hn : M2.2.2.2.2.2.2 = 0) (hs : (rest.map (fun v => v.category)).sum ≤ 8) (hl : (av_ents []).length ≤ M2.2.2.1) (c : cl M2 [] w P2)
    (n : ∀ r w2, P2 r w2 → w2.1 = w.1 ∧ rn M pc2 ls (r.toList ++ rest) w2 P) : rn M pc ls (rest) w P := by
  subst e
  have hk2 : k = 2 ∨ k = 3 := by simpa using hk
  refine rn_call (k := k) (M2 := M2) (args := []) (rest := rest) d rfl ?_ ?_ c (fun r w2 h => ⟨?_, (n r w2 h).2⟩)
  · show av_cut M 3 idx [2, 3] true _ = _
    unfold av_cut
    rw [hr]
    dsimp only
    rw [hn]
    rw [if_pos ⟨rfl, by simpa using hk, hh, by simp, by simpa using hs⟩]
    rfl
  · refine ⟨?_, hl⟩
    rcases hk2 with rfl | rfl <;> rfl
  · simp [av_back, (n r w2 h).1]
theorem r_callv_0  {idx k a : Nat} {fs : List Value} {P2 : Option Value → av_W → Prop} (d : decode M.2.1 pc = .ok (.invokevirtual idx, 3)) (e : pc + 3 = pc2) (hr : av_res M.2.2.2.2.1 idx = some (k, M2)) (hk : (k == 0 || k == 1) = true) (hh : M2.2.2.2.2.2.1 < M.2.2.2.2.2.1) (hn : M2.2.2.2.2.2.2 = 0) (hs : (rest.map (fun v => v.category)).sum ≤ 8) (hl : (av_ents [.ref a]).length ≤ M2.2.2.1) (ha : a < w.1) (hw : w.2.2 a = .inr (M2.2.2.2.2.1, fs)) (c : cl M2 [.ref a] w P2)
    (n : ∀ r w2, P2 r w2 → w2.1 = w.1 ∧ rn M pc2 ls (r.toList ++ rest) w2 P) : rn M pc ls (.ref a :: rest) w P := by
  subst e
  have hk2 : k = 0 ∨ k = 1 := by simpa using hk
  refine rn_call (k := k) (M2 := M2) (args := [.ref a]) (rest := rest) d rfl ?_ ?_ c (fun r w2 h => ⟨?_, (n r w2 h).2⟩)
  · show av_cut M 3 idx [0, 1] false _ = _
    unfold av_cut
    rw [hr]
    dsimp only
    rw [hn]
    rw [if_pos ⟨rfl, by simpa using hk, hh, by simp, by simpa using hs⟩]
    rfl
  · refine ⟨?_, hl⟩
    have h9 : (decide (a < w.1) && (match w.2.2 a with | .inr q => q.1 == M2.2.2.2.2.1 | _ => false)) = true := by rw [hw]; simp [ha]
    rcases hk2 with rfl | rfl <;> exact h9
  · simp [av_back, (n r w2 h).1]
theorem r_calls_1 {x0 : Value} {idx k : Nat} {P2 : Option Value → av_W → Prop} (d : decode M.2.1 pc = .ok (.invokestatic idx, 3)) (e : pc + 3 = pc2) (hr : av_res M.2.2.2.2.1 idx = some (k, M2)) (hk : (k == 2 || k == 3) = true) (hh : M2.2.2.2.2.2.1 < M.2.2.2.2.2.1) (hn : M2.2.2.2.2.2.2 = 1) (hs : (rest.map (fun v => v.category)).sum ≤ 8) (hl : (av_ents [x0]).length ≤ M2.2.2.1) (c : cl M2 [x0] w P2)
    (n : ∀ r w2, P2 r w2 → w2.1 = w.1 ∧ rn M pc2 ls (r.toList ++ rest) w2 P) : rn M pc ls (x0 :: rest) w P := by
  subst e
  have hk2 : k = 2 ∨ k = 3 := by simpa using hk
  refine rn_call (k := k) (M2 := M2) (args := [x0]) (rest := rest) d rfl ?_ ?_ c (fun r w2 h => ⟨?_, (n r w2 h).2⟩)
  · show av_cut M 3 idx [2, 3] true _ = _
    unfold av_cut
    rw [hr]
    dsimp only
    rw [hn]
    rw [if_pos ⟨rfl, by simpa using hk, hh, by simp, by simpa using hs⟩]
    rfl
  · refine ⟨?_, hl⟩
    rcases hk2 with rfl | rfl <;> rfl
  · simp [av_back, (n r w2 h).1]
theorem r_callv_1 {x0 : Value} {idx k a : Nat} {fs : List Value} {P2 : Option Value → av_W → Prop} (d : decode M.2.1 pc = .ok (.invokevirtual idx, 3)) (e : pc + 3 = pc2) (hr : av_res M.2.2.2.2.1 idx = some (k, M2)) (hk : (k == 0 || k == 1) = true) (hh : M2.2.2.2.2.2.1 < M.2.2.2.2.2.1) (hn : M2.2.2.2.2.2.2 = 1) (hs : (rest.map (fun v => v.category)).sum ≤ 8) (hl : (av_ents [.ref a, x0]).length ≤ M2.2.2.1) (ha : a < w.1) (hw : w.2.2 a = .inr (M2.2.2.2.2.1, fs)) (c : cl M2 [.ref a, x0] w P2)
    (n : ∀ r w2, P2 r w2 → w2.1 = w.1 ∧ rn M pc2 ls (r.toList ++ rest) w2 P) : rn M pc ls (x0 :: .ref a :: rest) w P := by
  subst e
  have hk2 : k = 0 ∨ k = 1 := by simpa using hk
  refine rn_call (k := k) (M2 := M2) (args := [.ref a, x0]) (rest := rest) d rfl ?_ ?_ c (fun r w2 h => ⟨?_, (n r w2 h).2⟩)
  · show av_cut M 3 idx [0, 1] false _ = _
    unfold av_cut
    rw [hr]
    dsimp only
    rw [hn]
    rw [if_pos ⟨rfl, by simpa using hk, hh, by simp, by simpa using hs⟩]
    rfl
  · refine ⟨?_, hl⟩
    have h9 : (decide (a < w.1) && (match w.2.2 a with | .inr q => q.1 == M2.2.2.2.2.1 | _ => false)) = true := by rw [hw]; simp [ha]
    rcases hk2 with rfl | rfl <;> exact h9
  · simp [av_back, (n r w2 h).1]
theorem r_calls_2 {x0 x1 : Value} {idx k : Nat} {P2 : Option Value → av_W → Prop} (d : decode M.2.1 pc = .ok (.invokestatic idx, 3)) (e : pc + 3 = pc2) (hr : av_res M.2.2.2.2.1 idx = some (k, M2)) (hk : (k == 2 || k == 3) = true) (hh : M2.2.2.2.2.2.1 < M.2.2.2.2.2.1) (hn : M2.2.2.2.2.2.2 = 2) (hs : (rest.map (fun v => v.category)).sum ≤ 8) (hl : (av_ents [x0, x1]).length ≤ M2.2.2.1) (c : cl M2 [x0, x1] w P2)
    (n : ∀ r w2, P2 r w2 → w2.1 = w.1 ∧ rn M pc2 ls (r.toList ++ rest) w2 P) : rn M pc ls (x1 :: x0 :: rest) w P := by
  subst e
  have hk2 : k = 2 ∨ k = 3 := by simpa using hk
  refine rn_call (k := k) (M2 := M2) (args := [x0, x1]) (rest := rest) d rfl ?_ ?_ c (fun r w2 h => ⟨?_, (n r w2 h).2⟩)
  · show av_cut M 3 idx [2, 3] true _ = _
    unfold av_cut
    rw [hr]
    dsimp only
    rw [hn]
    rw [if_pos ⟨rfl, by simpa using hk, hh, by simp, by simpa using hs⟩]
    rfl
  · refine ⟨?_, hl⟩
    rcases hk2 with rfl | rfl <;> rfl
  · simp [av_back, (n r w2 h).1]
theorem r_callv_2 {x0 x1 : Value} {idx k a : Nat} {fs : List Value} {P2 : Option Value → av_W → Prop} (d : decode M.2.1 pc = .ok (.invokevirtual idx, 3)) (e : pc + 3 = pc2) (hr : av_res M.2.2.2.2.1 idx = some (k, M2)) (hk : (k == 0 || k == 1) = true) (hh : M2.2.2.2.2.2.1 < M.2.2.2.2.2.1) (hn : M2.2.2.2.2.2.2 = 2) (hs : (rest.map (fun v => v.category)).sum ≤ 8) (hl : (av_ents [.ref a, x0, x1]).length ≤ M2.2.2.1) (ha : a < w.1) (hw : w.2.2 a = .inr (M2.2.2.2.2.1, fs)) (c : cl M2 [.ref a, x0, x1] w P2)
    (n : ∀ r w2, P2 r w2 → w2.1 = w.1 ∧ rn M pc2 ls (r.toList ++ rest) w2 P) : rn M pc ls (x1 :: x0 :: .ref a :: rest) w P := by
  subst e
  have hk2 : k = 0 ∨ k = 1 := by simpa using hk
  refine rn_call (k := k) (M2 := M2) (args := [.ref a, x0, x1]) (rest := rest) d rfl ?_ ?_ c (fun r w2 h => ⟨?_, (n r w2 h).2⟩)
  · show av_cut M 3 idx [0, 1] false _ = _
    unfold av_cut
    rw [hr]
    dsimp only
    rw [hn]
    rw [if_pos ⟨rfl, by simpa using hk, hh, by simp, by simpa using hs⟩]
    rfl
  · refine ⟨?_, hl⟩
    have h9 : (decide (a < w.1) && (match w.2.2 a with | .inr q => q.1 == M2.2.2.2.2.1 | _ => false)) = true := by rw [hw]; simp [ha]
    rcases hk2 with rfl | rfl <;> exact h9
  · simp [av_back, (n r w2 h).1]
theorem r_calls_3 {x0 x1 x2 : Value} {idx k : Nat} {P2 : Option Value → av_W → Prop} (d : decode M.2.1 pc = .ok (.invokestatic idx, 3)) (e : pc + 3 = pc2) (hr : av_res M.2.2.2.2.1 idx = some (k, M2)) (hk : (k == 2 || k == 3) = true) (hh : M2.2.2.2.2.2.1 < M.2.2.2.2.2.1) (hn : M2.2.2.2.2.2.2 = 3) (hs : (rest.map (fun v => v.category)).sum ≤ 8) (hl : (av_ents [x0, x1, x2]).length ≤ M2.2.2.1) (c : cl M2 [x0, x1, x2] w P2)
    (n : ∀ r w2, P2 r w2 → w2.1 = w.1 ∧ rn M pc2 ls (r.toList ++ rest) w2 P) : rn M pc ls (x2 :: x1 :: x0 :: rest) w P := by
  subst e
  have hk2 : k = 2 ∨ k = 3 := by simpa using hk
  refine rn_call (k := k) (M2 := M2) (args := [x0, x1, x2]) (rest := rest) d rfl ?_ ?_ c (fun r w2 h => ⟨?_, (n r w2 h).2⟩)
  · show av_cut M 3 idx [2, 3] true _ = _
    unfold av_cut
    rw [hr]
    dsimp only
    rw [hn]
    rw [if_pos ⟨rfl, by simpa using hk, hh, by simp, by simpa using hs⟩]
    rfl
  · refine ⟨?_, hl⟩
    rcases hk2 with rfl | rfl <;> rfl
  · simp [av_back, (n r w2 h).1]
theorem r_callv_3 {x0 x1 x2 : Value} {idx k a : Nat} {fs : List Value} {P2 : Option Value → av_W → Prop} (d : decode M.2.1 pc = .ok (.invokevirtual idx, 3)) (e : pc + 3 = pc2) (hr : av_res M.2.2.2.2.1 idx = some (k, M2)) (hk : (k == 0 || k == 1) = true) (hh : M2.2.2.2.2.2.1 < M.2.2.2.2.2.1) (hn : M2.2.2.2.2.2.2 = 3) (hs : (rest.map (fun v => v.category)).sum ≤ 8) (hl : (av_ents [.ref a, x0, x1, x2]).length ≤ M2.2.2.1) (ha : a < w.1) (hw : w.2.2 a = .inr (M2.2.2.2.2.1, fs)) (c : cl M2 [.ref a, x0, x1, x2] w P2)
    (n : ∀ r w2, P2 r w2 → w2.1 = w.1 ∧ rn M pc2 ls (r.toList ++ rest) w2 P) : rn M pc ls (x2 :: x1 :: x0 :: .ref a :: rest) w P := by
  subst e
  have hk2 : k = 0 ∨ k = 1 := by simpa using hk
  refine rn_call (k := k) (M2 := M2) (args := [.ref a, x0, x1, x2]) (rest := rest) d rfl ?_ ?_ c (fun r w2 h => ⟨?_, (n r w2 h).2⟩)
  · show av_cut M 3 idx [0, 1] false _ = _
    unfold av_cut
    rw [hr]
    dsimp only
    rw [hn]
    rw [if_pos ⟨rfl, by simpa using hk, hh, by simp, by simpa using hs⟩]
    rfl
  · refine ⟨?_, hl⟩
    have h9 : (decide (a < w.1) && (match w.2.2 a with | .inr q => q.1 == M2.2.2.2.2.1 | _ => false)) = true := by rw [hw]; simp [ha]
    rcases hk2 with rfl | rfl <;> exact h9
  · simp [av_back, (n r w2 h).1]
theorem r_calls_4 {x0 x1 x2 x3 : Value} {idx k : Nat} {P2 : Option Value → av_W → Prop} (d : decode M.2.1 pc = .ok (.invokestatic idx, 3)) (e : pc + 3 = pc2) (hr : av_res M.2.2.2.2.1 idx = some (k, M2)) (hk : (k == 2 || k == 3) = true) (hh : M2.2.2.2.2.2.1 < M.2.2.2.2.2.1) (hn : M2.2.2.2.2.2.2 = 4) (hs : (rest.map (fun v => v.category)).sum ≤ 8) (hl : (av_ents [x0, x1, x2, x3]).length ≤ M2.2.2.1) (c : cl M2 [x0, x1, x2, x3] w P2)
    (n : ∀ r w2, P2 r w2 → w2.1 = w.1 ∧ rn M pc2 ls (r.toList ++ rest) w2 P) : rn M pc ls (x3 :: x2 :: x1 :: x0 :: rest) w P := by
  subst e
  have hk2 : k = 2 ∨ k = 3 := by simpa using hk
  refine rn_call (k := k) (M2 := M2) (args := [x0, x1, x2, x3]) (rest := rest) d rfl ?_ ?_ c (fun r w2 h => ⟨?_, (n r w2 h).2⟩)
  · show av_cut M 3 idx [2, 3] true _ = _
    unfold av_cut
    rw [hr]
    dsimp only
    rw [hn]
    rw [if_pos ⟨rfl, by simpa using hk, hh, by simp, by simpa using hs⟩]
    rfl
  · refine ⟨?_, hl⟩
    rcases hk2 with rfl | rfl <;> rfl
  · simp [av_back, (n r w2 h).1]
theorem r_callv_4 {x0 x1 x2 x3 : Value} {idx k a : Nat} {fs : List Value} {P2 : Option Value → av_W → Prop} (d : decode M.2.1 pc = .ok (.invokevirtual idx, 3)) (e : pc + 3 = pc2) (hr : av_res M.2.2.2.2.1 idx = some (k, M2)) (hk : (k == 0 || k == 1) = true) (hh : M2.2.2.2.2.2.1 < M.2.2.2.2.2.1) (hn : M2.2.2.2.2.2.2 = 4) (hs : (rest.map (fun v => v.category)).sum ≤ 8) (hl : (av_ents [.ref a, x0, x1, x2, x3]).length ≤ M2.2.2.1) (ha : a < w.1) (hw : w.2.2 a = .inr (M2.2.2.2.2.1, fs)) (c : cl M2 [.ref a, x0, x1, x2, x3] w P2)
    (n : ∀ r w2, P2 r w2 → w2.1 = w.1 ∧ rn M pc2 ls (r.toList ++ rest) w2 P) : rn M pc ls (x3 :: x2 :: x1 :: x0 :: .ref a :: rest) w P := by
  subst e
  have hk2 : k = 0 ∨ k = 1 := by simpa using hk
  refine rn_call (k := k) (M2 := M2) (args := [.ref a, x0, x1, x2, x3]) (rest := rest) d rfl ?_ ?_ c (fun r w2 h => ⟨?_, (n r w2 h).2⟩)
  · show av_cut M 3 idx [0, 1] false _ = _
    unfold av_cut
    rw [hr]
    dsimp only
    rw [hn]
    rw [if_pos ⟨rfl, by simpa using hk, hh, by simp, by simpa using hs⟩]
    rfl
  · refine ⟨?_, hl⟩
    have h9 : (decide (a < w.1) && (match w.2.2 a with | .inr q => q.1 == M2.2.2.2.2.1 | _ => false)) = true := by rw [hw]; simp [ha]
    rcases hk2 with rfl | rfl <;> exact h9
  · simp [av_back, (n r w2 h).1]
theorem r_calls_5 {x0 x1 x2 x3 x4 : Value} {idx k : Nat} {P2 : Option Value → av_W → Prop} (d : decode M.2.1 pc = .ok (.invokestatic idx, 3)) (e : pc + 3 = pc2) (hr : av_res M.2.2.2.2.1 idx = some (k, M2)) (hk : (k == 2 || k == 3) = true) (hh : M2.2.2.2.2.2.1 < M.2.2.2.2.2.1) (hn : M2.2.2.2.2.2.2 = 5) (hs : (rest.map (fun v => v.category)).sum ≤ 8) (hl : (av_ents [x0, x1, x2, x3, x4]).length ≤ M2.2.2.1) (c : cl M2 [x0, x1, x2, x3, x4] w P2)
    (n : ∀ r w2, P2 r w2 → w2.1 = w.1 ∧ rn M pc2 ls (r.toList ++ rest) w2 P) : rn M pc ls (x4 :: x3 :: x2 :: x1 :: x0 :: rest) w P := by
  subst e
  have hk2 : k = 2 ∨ k = 3 := by simpa using hk
  refine rn_call (k := k) (M2 := M2) (args := [x0, x1, x2, x3, x4]) (rest := rest) d rfl ?_ ?_ c (fun r w2 h => ⟨?_, (n r w2 h).2⟩)
  · show av_cut M 3 idx [2, 3] true _ = _
    unfold av_cut
    rw [hr]
    dsimp only
    rw [hn]
    rw [if_pos ⟨rfl, by simpa using hk, hh, by simp, by simpa using hs⟩]
    rfl
  · refine ⟨?_, hl⟩
    rcases hk2 with rfl | rfl <;> rfl
  · simp [av_back, (n r w2 h).1]
theorem r_callv_5 {x0 x1 x2 x3 x4 : Value} {idx k a : Nat} {fs : List Value} {P2 : Option Value → av_W → Prop} (d : decode M.2.1 pc = .ok (.invokevirtual idx, 3)) (e : pc + 3 = pc2) (hr : av_res M.2.2.2.2.1 idx = some (k, M2)) (hk : (k == 0 || k == 1) = true) (hh : M2.2.2.2.2.2.1 < M.2.2.2.2.2.1) (hn : M2.2.2.2.2.2.2 = 5) (hs : (rest.map (fun v => v.category)).sum ≤ 8) (hl : (av_ents [.ref a, x0, x1, x2, x3, x4]).length ≤ M2.2.2.1) (ha : a < w.1) (hw : w.2.2 a = .inr (M2.2.2.2.2.1, fs)) (c : cl M2 [.ref a, x0, x1, x2, x3, x4] w P2)
    (n : ∀ r w2, P2 r w2 → w2.1 = w.1 ∧ rn M pc2 ls (r.toList ++ rest) w2 P) : rn M pc ls (x4 :: x3 :: x2 :: x1 :: x0 :: .ref a :: rest) w P := by
  subst e
  have hk2 : k = 0 ∨ k = 1 := by simpa using hk
  refine rn_call (k := k) (M2 := M2) (args := [.ref a, x0, x1, x2, x3, x4]) (rest := rest) d rfl ?_ ?_ c (fun r w2 h => ⟨?_, (n r w2 h).2⟩)
  · show av_cut M 3 idx [0, 1] false _ = _
    unfold av_cut
    rw [hr]
    dsimp only
    rw [hn]
    rw [if_pos ⟨rfl, by simpa using hk, hh, by simp, by simpa using hs⟩]
    rfl
  · refine ⟨?_, hl⟩
    have h9 : (decide (a < w.1) && (match w.2.2 a with | .inr q => q.1 == M2.2.2.2.2.1 | _ => false)) = true := by rw [hw]; simp [ha]
    rcases hk2 with rfl | rfl <;> exact h9
  · simp [av_back, (n r w2 h).1]
end RN
end
section
/-! sites: calls, fields, constants by their numbers -/
theorem rs_0_40 : av_res 0 40 = some (0, MX0_resetSlices) := rfl
theorem rs_0_43 : av_res 0 43 = some (3, MX4_copyNumbers) := rfl
theorem rs_0_47 : av_res 0 47 = some (3, MX4_isWithin) := rfl
theorem rs_0_51 : av_res 0 51 = some (3, MX4_isRidge) := rfl
theorem rs_0_55 : av_res 0 55 = some (0, MX0_paint) := rfl
theorem rs_0_59 : av_res 0 59 = some (0, MX0_colourIn) := rfl
theorem rs_0_63 : av_res 0 63 = some (0, MX0_viewDue) := rfl
theorem rs_0_67 : av_res 0 67 = some (0, MX0_slicesShowing) := rfl
theorem rs_0_70 : av_res 0 70 = some (0, MX0_highestViewBefore) := rfl
theorem rs_0_73 : av_res 0 73 = some (0, MX0_putSlice) := rfl
theorem rs_0_82 : av_res 0 82 = some (0, MX0_spotBehind) := rfl
theorem rs_0_85 : av_res 0 85 = some (0, MX0_sliceBehind) := rfl
theorem rs_0_88 : av_res 0 88 = some (0, MX0_viewBehind) := rfl
theorem rs_0_91 : av_res 0 91 = some (0, MX0_ridgeBehind) := rfl
theorem rs_1_22 : av_res 1 22 = some (0, MX1_charAt) := rfl
theorem rs_1_26 : av_res 1 26 = some (0, MX1_isAllowed) := rfl
theorem rs_1_30 : av_res 1 30 = some (0, MX1_isEnded) := rfl
theorem rs_1_34 : av_res 1 34 = some (0, MX1_digitAt) := rfl
theorem rs_1_38 : av_res 1 38 = some (2, MX1_viewsUpTo) := rfl
theorem rs_1_41 : av_res 1 41 = some (3, MX4_isWithin) := rfl
theorem rs_1_50 : av_res 1 50 = some (0, MX0_paint) := rfl
theorem rs_1_54 : av_res 1 54 = some (0, MX0_resetSlices) := rfl
theorem rs_1_60 : av_res 1 60 = some (0, MX0_putSlice) := rfl
theorem rs_2_21 : av_res 2 21 = some (4, MX0_init) := rfl
theorem rs_2_22 : av_res 2 22 = some (0, MX2_dropOldest) := rfl
theorem rs_2_25 : av_res 2 25 = some (0, MX2_stateAt) := rfl
theorem rs_2_29 : av_res 2 29 = some (0, MX0_copyFrom) := rfl
theorem rs_3_22 : av_res 3 22 = some (0, MX0_placeSeen) := rfl
theorem rs_3_28 : av_res 3 28 = some (0, MX0_sliceBehind) := rfl
theorem rs_3_31 : av_res 3 31 = some (0, MX0_stepAt) := rfl
theorem rs_3_35 : av_res 3 35 = some (3, MX4_isWithin) := rfl
theorem rs_3_39 : av_res 3 39 = some (0, MX0_viewDue) := rfl
theorem rs_3_42 : av_res 3 42 = some (0, MX3_viewSeen) := rfl
theorem rs_3_45 : av_res 3 45 = some (0, MX3_isGhost) := rfl
theorem rs_3_53 : av_res 3 53 = some (0, MX3_ghosts) := rfl
theorem rs_3_56 : av_res 3 56 = some (0, MX3_ridgesShowing) := rfl
theorem rs_3_62 : av_res 3 62 = some (0, MX3_mostShownView) := rfl
theorem rs_3_65 : av_res 3 65 = some (0, MX3_wholeView) := rfl
theorem rs_3_68 : av_res 3 68 = some (0, MX3_anglesShowingWhole) := rfl
theorem rs_4_9 : av_res 4 9 = some (4, MX0_init) := rfl
theorem rs_4_18 : av_res 4 18 = some (4, MX3_init) := rfl
theorem rs_4_37 : av_res 4 37 = some (4, MX2_init) := rfl
theorem rs_4_51 : av_res 4 51 = some (5, MX1_init) := rfl
theorem rs_4_56 : av_res 4 56 = some (0, MX0_hasView) := rfl
theorem rs_4_60 : av_res 4 60 = some (2, MX4_isRidge) := rfl
theorem rs_4_63 : av_res 4 63 = some (2, MX4_isWithin) := rfl
theorem rs_4_67 : av_res 4 67 = some (0, MX0_colourIn) := rfl
theorem rs_4_71 : av_res 4 71 = some (0, MX2_record) := rfl
theorem rs_4_74 : av_res 4 74 = some (0, MX0_paint) := rfl
theorem rs_4_82 : av_res 4 82 = some (0, MX0_appendView) := rfl
theorem rs_4_85 : av_res 4 85 = some (0, MX0_dropView) := rfl
theorem rs_4_89 : av_res 4 89 = some (0, MX0_exchangeViews) := rfl
theorem rs_4_95 : av_res 4 95 = some (0, MX0_resetSlices) := rfl
theorem rs_4_98 : av_res 4 98 = some (0, MX0_hasSlice) := rfl
theorem rs_4_101 : av_res 4 101 = some (0, MX0_viewDue) := rfl
theorem rs_4_105 : av_res 4 105 = some (0, MX0_putSlice) := rfl
theorem rs_4_115 : av_res 4 115 = some (0, MX4_findBestSlices) := rfl
theorem rs_4_118 : av_res 4 118 = some (0, MX0_hasSlices) := rfl
theorem rs_4_122 : av_res 4 122 = some (0, MX0_putSlices) := rfl
theorem rs_4_126 : av_res 4 126 = some (0, MX4_look) := rfl
theorem rs_4_130 : av_res 4 130 = some (0, MX3_ghostsAtAllAngles) := rfl
theorem rs_4_134 : av_res 4 134 = some (0, MX1_findFault) := rfl
theorem rs_4_137 : av_res 4 137 = some (0, MX1_writeTo) := rfl
theorem rs_4_144 : av_res 4 144 = some (0, MX3_wholeViews) := rfl
theorem rs_4_153 : av_res 4 153 = some (0, MX1_isFull) := rfl
theorem rs_4_157 : av_res 4 157 = some (0, MX1_append) := rfl
theorem rs_4_164 : av_res 4 164 = some (0, MX1_empty) := rfl
theorem rs_4_170 : av_res 4 170 = some (0, MX2_takeLatest) := rfl
theorem rs_4_173 : av_res 4 173 = some (0, MX0_copyFrom) := rfl
theorem rs_4_176 : av_res 4 176 = some (0, MX0_viewBehind) := rfl
theorem rs_4_179 : av_res 4 179 = some (2, MX4_noneForNothing) := rfl
theorem rs_4_182 : av_res 4 182 = some (0, MX0_colourBehind) := rfl
theorem rs_4_185 : av_res 4 185 = some (0, MX0_ridgeBehind) := rfl
theorem rs_4_188 : av_res 4 188 = some (2, MX4_isAngle) := rfl
theorem rs_4_191 : av_res 4 191 = some (0, MX0_stepAt) := rfl
theorem rs_4_194 : av_res 4 194 = some (0, MX0_placeSeen) := rfl
theorem rs_4_197 : av_res 4 197 = some (0, MX3_isGhost) := rfl
theorem rs_4_201 : av_res 4 201 = some (0, MX3_ghosts) := rfl
theorem rs_4_204 : av_res 4 204 = some (0, MX3_wholeView) := rfl
theorem rs_4_207 : av_res 4 207 = some (0, MX3_mostShownView) := rfl
theorem rs_4_210 : av_res 4 210 = some (0, MX3_mostShownRidges) := rfl
theorem rs_4_213 : av_res 4 213 = some (0, MX3_ridgesShowing) := rfl
theorem rs_4_216 : av_res 4 216 = some (0, MX0_slicesShowing) := rfl
theorem rs_4_219 : av_res 4 219 = some (0, MX3_anglesShowingWhole) := rfl
theorem rs_4_222 : av_res 4 222 = some (0, MX3_clearestAngle) := rfl
theorem rs_4_225 : av_res 4 225 = some (0, MX4_ghostsWithShift) := rfl
theorem rs_4_228 : av_res 4 228 = some (0, MX3_aim) := rfl
theorem rs_4_231 : av_res 4 231 = some (0, MX3_anglesShowingAnyWhole) := rfl
theorem rs_4_234 : av_res 4 234 = some (0, MX0_startSlices) := rfl
theorem rs_4_237 : av_res 4 237 = some (0, MX0_showsEachView) := rfl
theorem rs_4_243 : av_res 4 243 = some (2, MX4_copyNumbers) := rfl
theorem rs_4_247 : av_res 4 247 = some (0, MX0_nextSlices) := rfl
theorem rs_5_34 : av_res 5 34 = some (0, MX5_ordersAsFirst) := rfl
theorem rs_5_41 : av_res 5 41 = some (2, MX5_in) := rfl
theorem rs_5_53 : av_res 5 53 = some (0, MX5_placeSeen) := rfl
theorem rs_5_57 : av_res 5 57 = some (0, MX5_dueAt) := rfl
theorem rs_5_60 : av_res 5 60 = some (0, MX5_viewSeen) := rfl
theorem rs_5_63 : av_res 5 63 = some (0, MX5_isGhost) := rfl
theorem rs_5_67 : av_res 5 67 = some (0, MX5_ghostsAt) := rfl
theorem rs_5_71 : av_res 5 71 = some (0, MX5_laysSlots) := rfl
theorem rs_5_74 : av_res 5 74 = some (0, MX5_ghosts) := rfl
theorem rs_5_78 : av_res 5 78 = some (0, MX5_showing) := rfl
theorem rs_5_81 : av_res 5 81 = some (0, MX5_wholeAngles) := rfl
theorem rs_5_84 : av_res 5 84 = some (0, MX5_isView) := rfl
theorem rs_5_88 : av_res 5 88 = some (2, MX5_isRidge) := rfl
theorem rs_5_91 : av_res 5 91 = some (0, MX5_colourAt) := rfl
theorem rs_5_94 : av_res 5 94 = some (0, MX5_remember) := rfl
theorem rs_5_97 : av_res 5 97 = some (0, MX5_acted) := rfl
theorem rs_5_104 : av_res 5 104 = some (0, MX5_settles) := rfl
theorem rs_5_112 : av_res 5 112 = some (0, MX5_isSlice) := rfl
theorem rs_5_115 : av_res 5 115 = some (0, MX5_laysOrder) := rfl
theorem rs_5_118 : av_res 5 118 = some (0, MX5_findsOrder) := rfl
theorem rs_5_121 : av_res 5 121 = some (0, MX5_ghostsNow) := rfl
theorem rs_5_127 : av_res 5 127 = some (0, MX5_whole) := rfl
theorem rs_5_137 : av_res 5 137 = some (0, MX5_isHere) := rfl
theorem rs_5_146 : av_res 5 146 = some (0, MX5_readsDigits) := rfl
theorem rs_5_149 : av_res 5 149 = some (0, MX5_takes) := rfl
theorem rs_5_155 : av_res 5 155 = some (0, MX5_fault) := rfl
theorem rs_5_161 : av_res 5 161 = some (0, MX5_dueOf) := rfl
theorem rs_5_164 : av_res 5 164 = some (2, MX5_isAngle) := rfl
theorem rs_5_167 : av_res 5 167 = some (0, MX5_wholeAt) := rfl
theorem rs_5_170 : av_res 5 170 = some (0, MX5_mostAt) := rfl
theorem rs_5_173 : av_res 5 173 = some (0, MX5_slicesOf) := rfl
theorem rs_5_176 : av_res 5 176 = some (0, MX5_clearest) := rfl
theorem rs_99_9 : av_res 99 9 = some (4, MX4_init) := rfl
theorem rs_99_12 : av_res 99 12 = some (4, MX5_init) := rfl
theorem rs_99_13 : av_res 99 13 = some (0, MX4_colour) := rfl
theorem rs_99_17 : av_res 99 17 = some (0, MX5_colour) := rfl
theorem rs_99_18 : av_res 99 18 = some (0, MX4_addView) := rfl
theorem rs_99_22 : av_res 99 22 = some (0, MX5_addView) := rfl
theorem rs_99_23 : av_res 99 23 = some (0, MX4_removeView) := rfl
theorem rs_99_27 : av_res 99 27 = some (0, MX5_removeView) := rfl
theorem rs_99_28 : av_res 99 28 = some (0, MX4_swap) := rfl
theorem rs_99_32 : av_res 99 32 = some (0, MX5_swap) := rfl
theorem rs_99_33 : av_res 99 33 = some (0, MX4_setPitch) := rfl
theorem rs_99_36 : av_res 99 36 = some (0, MX5_setPitch) := rfl
theorem rs_99_37 : av_res 99 37 = some (0, MX4_slice) := rfl
theorem rs_99_40 : av_res 99 40 = some (0, MX5_slice) := rfl
theorem rs_99_41 : av_res 99 41 = some (0, MX4_setShift) := rfl
theorem rs_99_44 : av_res 99 44 = some (0, MX5_setShift) := rfl
theorem rs_99_45 : av_res 99 45 = some (0, MX4_setLean) := rfl
theorem rs_99_48 : av_res 99 48 = some (0, MX5_setLean) := rfl
theorem rs_99_49 : av_res 99 49 = some (0, MX4_order) := rfl
theorem rs_99_52 : av_res 99 52 = some (0, MX5_order) := rfl
theorem rs_99_53 : av_res 99 53 = some (0, MX4_read) := rfl
theorem rs_99_56 : av_res 99 56 = some (0, MX5_read) := rfl
theorem rs_99_57 : av_res 99 57 = some (0, MX4_press) := rfl
theorem rs_99_60 : av_res 99 60 = some (0, MX5_press) := rfl
theorem rs_99_61 : av_res 99 61 = some (0, MX4_type) := rfl
theorem rs_99_65 : av_res 99 65 = some (0, MX5_type) := rfl
theorem rs_99_66 : av_res 99 66 = some (0, MX4_clearText) := rfl
theorem rs_99_69 : av_res 99 69 = some (0, MX5_clearText) := rfl
theorem rs_99_70 : av_res 99 70 = some (0, MX4_undo) := rfl
theorem rs_99_73 : av_res 99 73 = some (0, MX5_undo) := rfl
theorem rs_99_74 : av_res 99 74 = some (0, MX4_keep) := rfl
theorem rs_99_77 : av_res 99 77 = some (0, MX5_keep) := rfl
theorem rs_99_78 : av_res 99 78 = some (0, MX4_restore) := rfl
theorem rs_99_81 : av_res 99 81 = some (0, MX5_restore) := rfl
theorem rs_99_82 : av_res 99 82 = some (0, MX4_colourOf) := rfl
theorem rs_99_85 : av_res 99 85 = some (0, MX5_colourOf) := rfl
theorem rs_99_86 : av_res 99 86 = some (0, MX4_viewOf) := rfl
theorem rs_99_89 : av_res 99 89 = some (0, MX5_viewOf) := rfl
theorem rs_99_90 : av_res 99 90 = some (0, MX4_behind) := rfl
theorem rs_99_93 : av_res 99 93 = some (0, MX5_behind) := rfl
theorem rs_99_94 : av_res 99 94 = some (0, MX4_seen) := rfl
theorem rs_99_97 : av_res 99 97 = some (0, MX5_seen) := rfl
theorem rs_99_98 : av_res 99 98 = some (0, MX4_at) := rfl
theorem rs_99_101 : av_res 99 101 = some (0, MX5_at) := rfl
theorem rs_99_102 : av_res 99 102 = some (0, MX4_view) := rfl
theorem rs_99_105 : av_res 99 105 = some (0, MX5_view) := rfl
theorem rs_99_106 : av_res 99 106 = some (0, MX4_bestOrder) := rfl
theorem rs_99_109 : av_res 99 109 = some (0, MX5_bestOrder) := rfl
theorem rs_99_110 : av_res 99 110 = some (0, MX4_bestShift) := rfl
theorem rs_99_113 : av_res 99 113 = some (0, MX5_bestShift) := rfl
theorem rs_99_114 : av_res 99 114 = some (0, MX4_ifSlice) := rfl
theorem rs_99_117 : av_res 99 117 = some (0, MX5_ifSlice) := rfl
theorem rs_99_118 : av_res 99 118 = some (0, MX4_count) := rfl
theorem rs_99_121 : av_res 99 121 = some (0, MX5_count) := rfl
theorem fl_0_9 : av_fld 0 9 = some (0, 0, "") := rfl
theorem fl_0_15 : av_fld 0 15 = some (0, 1, "") := rfl
theorem fl_0_19 : av_fld 0 19 = some (0, 2, "") := rfl
theorem fl_0_22 : av_fld 0 22 = some (0, 3, "") := rfl
theorem fl_0_25 : av_fld 0 25 = some (0, 4, "") := rfl
theorem fl_0_28 : av_fld 0 28 = some (0, 5, "") := rfl
theorem fl_0_31 : av_fld 0 31 = some (0, 6, "") := rfl
theorem fl_0_34 : av_fld 0 34 = some (0, 7, "") := rfl
theorem fl_0_37 : av_fld 0 37 = some (0, 8, "") := rfl
theorem fl_1_9 : av_fld 1 9 = some (1, 0, "") := rfl
theorem fl_1_15 : av_fld 1 15 = some (1, 1, "") := rfl
theorem fl_1_19 : av_fld 1 19 = some (1, 2, "") := rfl
theorem fl_1_45 : av_fld 1 45 = some (0, 0, "TiltedCards") := rfl
theorem fl_1_57 : av_fld 1 57 = some (0, 2, "TiltedCards") := rfl
theorem fl_2_11 : av_fld 2 11 = some (2, 0, "") := rfl
theorem fl_2_17 : av_fld 2 17 = some (2, 1, "") := rfl
theorem fl_3_9 : av_fld 3 9 = some (3, 1, "") := rfl
theorem fl_3_15 : av_fld 3 15 = some (3, 2, "") := rfl
theorem fl_3_18 : av_fld 3 18 = some (3, 0, "") := rfl
theorem fl_3_49 : av_fld 3 49 = some (0, 2, "TiltedCards") := rfl
theorem fl_3_59 : av_fld 3 59 = some (0, 0, "TiltedCards") := rfl
theorem fl_4_10 : av_fld 4 10 = some (4, 0, "") := rfl
theorem fl_4_21 : av_fld 4 21 = some (4, 1, "") := rfl
theorem fl_4_25 : av_fld 4 25 = some (4, 2, "") := rfl
theorem fl_4_28 : av_fld 4 28 = some (4, 3, "") := rfl
theorem fl_4_31 : av_fld 4 31 = some (4, 4, "") := rfl
theorem fl_4_38 : av_fld 4 38 = some (4, 5, "") := rfl
theorem fl_4_42 : av_fld 4 42 = some (4, 6, "") := rfl
theorem fl_4_45 : av_fld 4 45 = some (4, 7, "") := rfl
theorem fl_4_52 : av_fld 4 52 = some (4, 8, "") := rfl
theorem fl_4_78 : av_fld 4 78 = some (0, 0, "TiltedCards") := rfl
theorem fl_4_92 : av_fld 4 92 = some (0, 2, "TiltedCards") := rfl
theorem fl_4_109 : av_fld 4 109 = some (0, 4, "TiltedCards") := rfl
theorem fl_4_112 : av_fld 4 112 = some (0, 5, "TiltedCards") := rfl
theorem fl_4_140 : av_fld 4 140 = some (0, 6, "TiltedCards") := rfl
theorem fl_4_147 : av_fld 4 147 = some (0, 7, "TiltedCards") := rfl
theorem fl_4_150 : av_fld 4 150 = some (0, 8, "TiltedCards") := rfl
theorem fl_4_161 : av_fld 4 161 = some (1, 1, "TiltedCards") := rfl
theorem fl_4_167 : av_fld 4 167 = some (2, 1, "TiltedCards") := rfl
theorem fl_4_240 : av_fld 4 240 = some (0, 3, "TiltedCards") := rfl
theorem fl_5_7 : av_fld 5 7 = some (5, 0, "") := rfl
theorem fl_5_13 : av_fld 5 13 = some (5, 1, "") := rfl
theorem fl_5_16 : av_fld 5 16 = some (5, 2, "") := rfl
theorem fl_5_19 : av_fld 5 19 = some (5, 4, "") := rfl
theorem fl_5_22 : av_fld 5 22 = some (5, 6, "") := rfl
theorem fl_5_25 : av_fld 5 25 = some (5, 7, "") := rfl
theorem fl_5_28 : av_fld 5 28 = some (5, 8, "") := rfl
theorem fl_5_31 : av_fld 5 31 = some (5, 9, "") := rfl
theorem fl_5_37 : av_fld 5 37 = some (5, 3, "") := rfl
theorem fl_5_131 : av_fld 5 131 = some (5, 10, "") := rfl
theorem fl_5_134 : av_fld 5 134 = some (5, 11, "") := rfl
theorem fl_5_140 : av_fld 5 140 = some (5, 12, "") := rfl
theorem fl_5_143 : av_fld 5 143 = some (5, 13, "") := rfl
theorem fl_5_152 : av_fld 5 152 = some (5, 14, "") := rfl
theorem fl_5_158 : av_fld 5 158 = some (5, 5, "") := rfl
theorem mm_0_77 : av_mm 0 77 = some true := rfl
theorem mr_0_77 : av_res 0 77 = none := rfl
theorem mm_0_94 : av_mm 0 94 = some false := rfl
theorem mr_0_94 : av_res 0 94 = none := rfl
theorem ki_4_143 : av_ki 4 143 = some (iN 99999) := by decide +kernel
theorem ki_5_126 : av_ki 5 126 = some (iN 99999) := by decide +kernel
theorem kl_5_45 : av_kl 5 45 = some (lZ 11) := by decide +kernel
theorem kl_5_49 : av_kl 5 49 = some (lZ 9) := by decide +kernel
theorem kl_5_100 : av_kl 5 100 = some (lZ 2) := by decide +kernel
theorem kl_5_102 : av_kl 5 102 = some (lZ 6) := by decide +kernel
theorem kl_5_108 : av_kl 5 108 = some (lZ (-3)) := by decide +kernel
theorem kl_5_110 : av_kl 5 110 = some (lZ 3) := by decide +kernel
theorem kl_5_51 : av_kl 5 51 = some (lZ 12) := by decide +kernel
theorem kl_5_124 : av_kl 5 124 = some (lZ 999) := by decide +kernel
theorem kl_5_47 : av_kl 5 47 = some (lZ (-9)) := by decide +kernel

theorem bz_01 {c : Prop} [Decidable c] : bz c = 0 ∨ bz c = 1 := by
  unfold bz
  split
  · exact Or.inr rfl
  · exact Or.inl rfl
theorem bz_t {c : Prop} [Decidable c] (h : c) : bz c = 1 := if_pos h
theorem bz_f {c : Prop} [Decidable c] (h : ¬ c) : bz c = 0 := if_neg h
theorem bz_congr {c d : Prop} [Decidable c] [Decidable d] (h : c ↔ d) : bz c = bz d := by
  unfold bz
  by_cases hc : c
  · rw [if_pos hc, if_pos (h.mp hc)]
  · rw [if_neg hc, if_neg (fun q => hc (h.mpr q))]
def RG (z : Int) : Prop := -2147483648 ≤ z ∧ z < 2147483648
end
section
/-! small methods of TiltedCards and of its Card -/
set_option maxHeartbeats 4000000 in
theorem c_isWithin (w : av_W) (v lo hi : Int) (hv : RG v) (hl : RG lo) (hh : RG hi) : fn MX4_isWithin [.int (iN v), .int (iN lo), .int (iN hi)] w (some (.int (iN (bz (lo ≤ v ∧ v ≤ hi))))) w := by
  unfold RG at *
  show rn MX4_isWithin 0 [some (.int (iN v)), some (.int (iN lo)), some (.int (iN hi))] [] w _
  refine r_iload_n (pc2 := 1) dX4_isWithin_0 rfl rfl ?_
  refine r_iload_n (pc2 := 2) dX4_isWithin_1 rfl rfl ?_
  refine r_icmp_lt (pc2 := 5) (tgt := 14) dX4_isWithin_2 rfl (by decide) (by omega) (by omega) (fun h2 => ?_) (fun h2 => ?_)
  · refine r_iconst (pc2 := 15) dX4_isWithin_14 rfl ?_
    refine r_retb dX4_isWithin_15 rfl (by first | exact Or.inl rfl | exact Or.inr rfl | exact bz_01) ?_
    exact ⟨by first | rw [bz_t (by omega)] | rw [bz_f (by omega)], rfl⟩
  · refine r_iload_n (pc2 := 6) dX4_isWithin_5 rfl rfl ?_
    refine r_iload_n (pc2 := 7) dX4_isWithin_6 rfl rfl ?_
    refine r_icmp_gt (pc2 := 10) (tgt := 14) dX4_isWithin_7 rfl (by decide) (by omega) (by omega) (fun h7 => ?_) (fun h7 => ?_)
    · refine r_iconst (pc2 := 15) dX4_isWithin_14 rfl ?_
      refine r_retb dX4_isWithin_15 rfl (by first | exact Or.inl rfl | exact Or.inr rfl | exact bz_01) ?_
      exact ⟨by first | rw [bz_t (by omega)] | rw [bz_f (by omega)], rfl⟩
    · refine r_iconst (pc2 := 11) dX4_isWithin_10 rfl ?_
      refine r_goto (tgt := 15) dX4_isWithin_11 (by decide) ?_
      refine r_retb dX4_isWithin_15 rfl (by first | exact Or.inl rfl | exact Or.inr rfl | exact bz_01) ?_
      exact ⟨by first | rw [bz_t (by omega)] | rw [bz_f (by omega)], rfl⟩

set_option maxHeartbeats 4000000 in
theorem c_isRidge (w : av_W) (v : Int) (hv : RG v) : fn MX4_isRidge [.int (iN v)] w (some (.int (iN (bz (0 ≤ v ∧ v ≤ 11))))) w := by
  unfold RG at *
  show rn MX4_isRidge 0 [some (.int (iN v))] [] w _
  refine r_iload_n (pc2 := 1) dX4_isRidge_0 rfl rfl ?_
  refine r_iconst (pc2 := 2) dX4_isRidge_1 rfl ?_
  refine r_bipush (pc2 := 4) dX4_isRidge_2 rfl (by decide) ?_
  refine r_calls_3 (pc2 := 7) dX4_isRidge_4 rfl rs_4_63 rfl (by decide) rfl (Nat.le_of_ble_eq_true rfl) (Nat.le_of_ble_eq_true rfl) (c_isWithin _ v 0 11 (by unfold RG; omega) (by unfold RG; omega) (by unfold RG; omega)) (fun r_ w_ h_ => ?_)
  obtain ⟨rfl, rfl⟩ := h_
  refine ⟨rfl, ?_⟩
  refine r_retb dX4_isRidge_7 rfl (by first | exact Or.inl rfl | exact Or.inr rfl | exact bz_01) ?_
  exact ⟨rfl, rfl⟩

set_option maxHeartbeats 4000000 in
theorem c_isAngle (w : av_W) (v : Int) (hv : RG v) : fn MX4_isAngle [.int (iN v)] w (some (.int (iN (bz (-9 ≤ v ∧ v ≤ 9))))) w := by
  unfold RG at *
  show rn MX4_isAngle 0 [some (.int (iN v))] [] w _
  refine r_iload_n (pc2 := 1) dX4_isAngle_0 rfl rfl ?_
  refine r_bipush (pc2 := 3) dX4_isAngle_1 rfl (by decide) ?_
  refine r_bipush (pc2 := 5) dX4_isAngle_3 rfl (by decide) ?_
  refine r_calls_3 (pc2 := 8) dX4_isAngle_5 rfl rs_4_63 rfl (by decide) rfl (Nat.le_of_ble_eq_true rfl) (Nat.le_of_ble_eq_true rfl) (c_isWithin _ v (-9) 9 (by unfold RG; omega) (by unfold RG; omega) (by unfold RG; omega)) (fun r_ w_ h_ => ?_)
  obtain ⟨rfl, rfl⟩ := h_
  refine ⟨rfl, ?_⟩
  refine r_retb dX4_isAngle_8 rfl (by first | exact Or.inl rfl | exact Or.inr rfl | exact bz_01) ?_
  exact ⟨rfl, rfl⟩

set_option maxHeartbeats 4000000 in
theorem c_none (w : av_W) (v : Int) (hv : RG v) : fn MX4_noneForNothing [.int (iN v)] w (some (.int (iN (if v = -1 then -105 else v)))) w := by
  unfold RG at *
  show rn MX4_noneForNothing 0 [some (.int (iN v))] [] w _
  refine r_iload_n (pc2 := 1) dX4_noneForNothing_0 rfl rfl ?_
  refine r_iconst (pc2 := 2) dX4_noneForNothing_1 rfl ?_
  refine r_icmp_ne (pc2 := 5) (tgt := 10) dX4_noneForNothing_2 rfl (by decide) (by omega) (by omega) (fun h2 => ?_) (fun h2 => ?_)
  · refine r_iload_n (pc2 := 11) dX4_noneForNothing_10 rfl rfl ?_
    refine r_ret dX4_noneForNothing_11 rfl ?_
    exact ⟨by first | rw [if_pos (by omega)] | rw [if_neg (by omega)], rfl⟩
  · refine r_bipush (pc2 := 7) dX4_noneForNothing_5 rfl (by decide) ?_
    refine r_goto (tgt := 11) dX4_noneForNothing_7 (by decide) ?_
    refine r_ret dX4_noneForNothing_11 rfl ?_
    exact ⟨by first | rw [if_pos (by omega)] | rw [if_neg (by omega)], rfl⟩
end
section
/-! the class's Card: its picture, and its reading methods -/
abbrev cdO (ca sa : Nat) (v p sh ln pr gd co : Int) : av_E := .inr (0, [.int (iN v), .ref ca, .int (iN p), .ref sa, .int (iN sh), .int (iN ln), .int (iN pr), .int (iN gd), .int (iN co)])
def Cd (w : av_W) (a ca sa : Nat) (v p sh ln pr gd co : Int) (c s : Nat → Int) : Prop := (a < w.1 ∧ w.2.2 a = cdO ca sa v p sh ln pr gd co) ∧ (ca < w.1 ∧ w.2.2 ca = arO 48 c) ∧ (sa < w.1 ∧ w.2.2 sa = arO 6 s) ∧ (a ≠ ca ∧ a ≠ sa ∧ ca ≠ sa)
def KR (v p sh ln : Int) : Prop := (2 ≤ v ∧ v ≤ 4) ∧ (2 ≤ p ∧ p ≤ 6) ∧ (-3 ≤ sh ∧ sh ≤ 3) ∧ (0 ≤ ln ∧ ln ≤ 3)
def colI (c : Nat → Int) (view column : Int) : Int := if (0 ≤ view ∧ view ≤ 3) ∧ (0 ≤ column ∧ column ≤ 11) then c (view * 12 + column).toNat else -1
def sD (s : Nat → Int) (slice : Int) : Int := if 0 ≤ slice ∧ slice < 6 then s slice.toNat else -1
def spZ (p sh r pl : Int) : Int := if 0 ≤ r * p + pl - sh ∧ r * p + pl - sh ≤ 12 * p - 1 then r * p + pl - sh else -1
def slZ (p sh r pl : Int) : Int := if spZ p sh r pl = -1 then -1 else spZ p sh r pl % p
def rdZ (p sh r pl : Int) : Int := if spZ p sh r pl = -1 then -1 else spZ p sh r pl / p
def stZ (p an : Int) : Int := p * (an + 9) / 19
def plZ (p ln st r : Int) : Int := max 0 (min (st + (ln * (r - 6)).tdiv 4) (p - 1))
theorem mulb {p r : Int} (hp : 2 ≤ p ∧ p ≤ 6) (hr : 0 ≤ r ∧ r ≤ 11) : 0 ≤ r * p ∧ r * p ≤ 66 := by
  rcases (show p = 2 ∨ p = 3 ∨ p = 4 ∨ p = 5 ∨ p = 6 by omega) with h | h | h | h | h <;> subst h <;> omega
theorem mulc {ln r : Int} (hl : 0 ≤ ln ∧ ln ≤ 3) (hr : 0 ≤ r ∧ r ≤ 11) : -18 ≤ ln * (r - 6) ∧ ln * (r - 6) ≤ 15 := by
  rcases (show ln = 0 ∨ ln = 1 ∨ ln = 2 ∨ ln = 3 by omega) with h | h | h | h <;> subst h <;> omega
theorem mula {p an : Int} (hp : 2 ≤ p ∧ p ≤ 6) (ha : -9 ≤ an ∧ an ≤ 9) : 0 ≤ p * (an + 9) ∧ p * (an + 9) < 19 * p := by
  rcases (show p = 2 ∨ p = 3 ∨ p = 4 ∨ p = 5 ∨ p = 6 by omega) with h | h | h | h | h <;> subst h <;> omega
theorem tdb {x : Int} (h : -18 ≤ x ∧ x ≤ 15) : -18 ≤ x.tdiv 4 ∧ x.tdiv 4 ≤ 15 := by
  by_cases h0 : 0 ≤ x
  · rw [Int.tdiv_eq_ediv_of_nonneg h0]
    omega
  · have h1 : x.tdiv 4 = -((-x).tdiv 4) := by rw [Int.neg_tdiv, Int.neg_neg]
    rw [h1, Int.tdiv_eq_ediv_of_nonneg (by omega)]
    omega
theorem spZ_rg {p sh r pl : Int} (hp : 2 ≤ p ∧ p ≤ 6) : -1 ≤ spZ p sh r pl ∧ spZ p sh r pl ≤ 12 * p - 1 := by
  unfold spZ
  split <;> omega
theorem slZ_rg {p sh r pl : Int} (hp : 2 ≤ p ∧ p ≤ 6) : -1 ≤ slZ p sh r pl ∧ slZ p sh r pl ≤ p - 1 := by
  have h := spZ_rg (sh := sh) (r := r) (pl := pl) hp
  unfold slZ
  split
  · omega
  · have h1 := Int.emod_nonneg (spZ p sh r pl) (show p ≠ 0 by omega)
    have h2 := Int.emod_lt_of_pos (spZ p sh r pl) (show 0 < p by omega)
    omega
theorem rdZ_rg {p sh r pl : Int} (hp : 2 ≤ p ∧ p ≤ 6) : -1 ≤ rdZ p sh r pl ∧ rdZ p sh r pl ≤ 11 := by
  have h := spZ_rg (sh := sh) (r := r) (pl := pl) hp
  unfold rdZ
  split
  · omega
  · have h1 := Int.ediv_nonneg (show 0 ≤ spZ p sh r pl by omega) (show 0 ≤ p by omega)
    have h2 : spZ p sh r pl / p < 12 := Int.ediv_lt_of_lt_mul (by omega) (by omega)
    omega
theorem stZ_rg {p an : Int} (hp : 2 ≤ p ∧ p ≤ 6) (ha : -9 ≤ an ∧ an ≤ 9) : 0 ≤ stZ p an ∧ stZ p an ≤ p - 1 := by
  have h := mula hp ha
  unfold stZ
  omega
theorem plZ_rg {p ln st r : Int} (hp : 2 ≤ p ∧ p ≤ 6) : 0 ≤ plZ p ln st r ∧ plZ p ln st r ≤ p - 1 := by
  unfold plZ
  omega
theorem sD_rg {s : Nat → Int} {L H : Int} (hs : ∀ j, j < 6 → L ≤ s j ∧ s j ≤ H) (hL : L ≤ -1) (hH : -1 ≤ H) (x : Int) : L ≤ sD s x ∧ sD s x ≤ H := by
  unfold sD
  split
  · have := hs x.toNat (by omega)
    omega
  · omega
def preF (k : Int) (f g : Nat → Int) : Nat → Int := fun j => if (j : Int) < k then f j else g j
theorem preF_0 (f g : Nat → Int) : preF 0 f g = g := by
  funext j
  exact if_neg (by omega)
theorem preF_step {k : Int} (hk : 0 ≤ k) (f g : Nat → Int) : updZ (preF k f g) k.toNat (f k.toNat) = preF (k + 1) f g := by
  funext j
  unfold updZ preF
  by_cases h : j = k.toNat
  · subst h
    rw [if_pos rfl, if_pos (by omega)]
  · rw [if_neg h]
    by_cases h2 : (j : Int) < k
    · rw [if_pos h2, if_pos (by omega)]
    · rw [if_neg h2, if_neg (by omega)]
theorem preF_lt {k : Int} {f g : Nat → Int} {j : Nat} (h : (j : Int) < k) : preF k f g j = f j := if_pos h
theorem preF_ge {k : Int} {f g : Nat → Int} {j : Nat} (h : ¬ (j : Int) < k) : preF k f g j = g j := if_neg h

set_option maxHeartbeats 4000000 in
theorem c_hasView (w : av_W) (a ca sa : Nat) (v p sh ln pr gd co : Int) (c s : Nat → Int) (hC : Cd w a ca sa v p sh ln pr gd co c s) (hK : KR v p sh ln) (x : Int) (hx : RG x) : fn MX0_hasView [.ref a, .int (iN x)] w (some (.int (iN (bz (0 ≤ x ∧ x ≤ v - 1))))) w := by
  obtain ⟨⟨ha, hw⟩, ⟨hca, hcw⟩, ⟨hsa, hsw⟩, hne1, hne2, hne3⟩ := id hC
  obtain ⟨hv, hp, hsh, hln⟩ := id hK
  try unfold RG at *
  show rn MX0_hasView 0 [some (.ref a), some (.int (iN x))] [] w _
  refine r_iload_n (pc2 := 1) dX0_hasView_0 rfl rfl ?_
  refine r_iconst (pc2 := 2) dX0_hasView_1 rfl ?_
  refine r_aload_n (pc2 := 3) dX0_hasView_2 rfl rfl ?_
  refine r_getf (pc2 := 6) dX0_hasView_3 rfl fl_0_9 (by assumption) (by assumption) (by rfl) ?_
  refine r_iconst (pc2 := 7) dX0_hasView_6 rfl ?_
  refine r_isub (pc2 := 8) dX0_hasView_7 rfl ?_
  refine r_calls_3 (pc2 := 11) dX0_hasView_8 rfl rs_0_47 rfl (by decide) rfl (Nat.le_of_ble_eq_true rfl) (Nat.le_of_ble_eq_true rfl) (c_isWithin _ x 0 (v - 1) (by unfold RG; omega) (by unfold RG; omega) (by unfold RG; omega)) (fun r_ w_ h_ => ?_)
  obtain ⟨rfl, rfl⟩ := h_
  refine ⟨rfl, ?_⟩
  refine r_retb dX0_hasView_11 rfl (by first | exact Or.inl rfl | exact Or.inr rfl | exact bz_01) ?_
  exact ⟨rfl, rfl⟩

set_option maxHeartbeats 4000000 in
theorem c_hasSlice (w : av_W) (a ca sa : Nat) (v p sh ln pr gd co : Int) (c s : Nat → Int) (hC : Cd w a ca sa v p sh ln pr gd co c s) (hK : KR v p sh ln) (x : Int) (hx : RG x) : fn MX0_hasSlice [.ref a, .int (iN x)] w (some (.int (iN (bz (0 ≤ x ∧ x ≤ p - 1))))) w := by
  obtain ⟨⟨ha, hw⟩, ⟨hca, hcw⟩, ⟨hsa, hsw⟩, hne1, hne2, hne3⟩ := id hC
  obtain ⟨hv, hp, hsh, hln⟩ := id hK
  try unfold RG at *
  show rn MX0_hasSlice 0 [some (.ref a), some (.int (iN x))] [] w _
  refine r_iload_n (pc2 := 1) dX0_hasSlice_0 rfl rfl ?_
  refine r_iconst (pc2 := 2) dX0_hasSlice_1 rfl ?_
  refine r_aload_n (pc2 := 3) dX0_hasSlice_2 rfl rfl ?_
  refine r_getf (pc2 := 6) dX0_hasSlice_3 rfl fl_0_19 (by assumption) (by assumption) (by rfl) ?_
  refine r_iconst (pc2 := 7) dX0_hasSlice_6 rfl ?_
  refine r_isub (pc2 := 8) dX0_hasSlice_7 rfl ?_
  refine r_calls_3 (pc2 := 11) dX0_hasSlice_8 rfl rs_0_47 rfl (by decide) rfl (Nat.le_of_ble_eq_true rfl) (Nat.le_of_ble_eq_true rfl) (c_isWithin _ x 0 (p - 1) (by unfold RG; omega) (by unfold RG; omega) (by unfold RG; omega)) (fun r_ w_ h_ => ?_)
  obtain ⟨rfl, rfl⟩ := h_
  refine ⟨rfl, ?_⟩
  refine r_retb dX0_hasSlice_11 rfl (by first | exact Or.inl rfl | exact Or.inr rfl | exact bz_01) ?_
  exact ⟨rfl, rfl⟩

set_option maxHeartbeats 4000000 in
theorem c_colourIn (w : av_W) (a ca sa : Nat) (v p sh ln pr gd co : Int) (c s : Nat → Int) (hC : Cd w a ca sa v p sh ln pr gd co c s) (hK : KR v p sh ln) (x y : Int) (hx : RG x) (hy : RG y) : fn MX0_colourIn [.ref a, .int (iN x), .int (iN y)] w (some (.int (iN (colI c x y)))) w := by
  obtain ⟨⟨ha, hw⟩, ⟨hca, hcw⟩, ⟨hsa, hsw⟩, hne1, hne2, hne3⟩ := id hC
  obtain ⟨hv, hp, hsh, hln⟩ := id hK
  try unfold RG at *
  unfold colI
  show rn MX0_colourIn 0 [some (.ref a), some (.int (iN x)), some (.int (iN y))] [] w _
  refine r_iload_n (pc2 := 1) dX0_colourIn_0 rfl rfl ?_
  refine r_iconst (pc2 := 2) dX0_colourIn_1 rfl ?_
  refine r_iconst (pc2 := 3) dX0_colourIn_2 rfl ?_
  refine r_calls_3 (pc2 := 6) dX0_colourIn_3 rfl rs_0_47 rfl (by decide) rfl (Nat.le_of_ble_eq_true rfl) (Nat.le_of_ble_eq_true rfl) (c_isWithin _ x 0 3 (by unfold RG; omega) (by unfold RG; omega) (by unfold RG; omega)) (fun r_ w_ h_ => ?_)
  obtain ⟨rfl, rfl⟩ := h_
  refine ⟨rfl, ?_⟩
  refine r_ifb_eq (pc2 := 9) (tgt := 16) dX0_colourIn_6 rfl (by decide)  (fun h6 => ?_) (fun h6 => ?_)
  · refine r_iconst (pc2 := 17) dX0_colourIn_16 rfl ?_
    refine r_ret dX0_colourIn_17 rfl ?_
    exact ⟨by first | rw [if_pos (by omega)] | rw [if_neg (by omega)], rfl⟩
  · refine r_iload_n (pc2 := 10) dX0_colourIn_9 rfl rfl ?_
    refine r_calls_1 (pc2 := 13) dX0_colourIn_10 rfl rs_0_51 rfl (by decide) rfl (Nat.le_of_ble_eq_true rfl) (Nat.le_of_ble_eq_true rfl) (c_isRidge _ y (by unfold RG; omega)) (fun r_ w_ h_ => ?_)
    obtain ⟨rfl, rfl⟩ := h_
    refine ⟨rfl, ?_⟩
    refine r_ifb_ne (pc2 := 16) (tgt := 18) dX0_colourIn_13 rfl (by decide)  (fun h13 => ?_) (fun h13 => ?_)
    · refine r_aload_n (pc2 := 19) dX0_colourIn_18 rfl rfl ?_
      refine r_getf (pc2 := 22) dX0_colourIn_19 rfl fl_0_15 (by assumption) (by assumption) (by rfl) ?_
      refine r_iload_n (pc2 := 23) dX0_colourIn_22 rfl rfl ?_
      refine r_bipush (pc2 := 25) dX0_colourIn_23 rfl (by decide) ?_
      refine r_imul (pc2 := 26) dX0_colourIn_25 rfl ?_
      refine r_iload_n (pc2 := 27) dX0_colourIn_26 rfl rfl ?_
      refine r_iadd (pc2 := 28) dX0_colourIn_27 rfl ?_
      refine r_iald (pc2 := 29) dX0_colourIn_28 rfl (by decide) (by assumption) (by assumption) (by omega) (by omega) (by omega) ?_
      refine r_ret dX0_colourIn_29 rfl ?_
      exact ⟨by first | rw [if_pos (by omega)] | rw [if_neg (by omega)], rfl⟩
    · refine r_iconst (pc2 := 17) dX0_colourIn_16 rfl ?_
      refine r_ret dX0_colourIn_17 rfl ?_
      exact ⟨by first | rw [if_pos (by omega)] | rw [if_neg (by omega)], rfl⟩

set_option maxHeartbeats 4000000 in
theorem c_paint (w : av_W) (a ca sa : Nat) (v p sh ln pr gd co : Int) (c s : Nat → Int) (hC : Cd w a ca sa v p sh ln pr gd co c s) (hK : KR v p sh ln) (x y z : Int) (hx : 0 ≤ x ∧ x ≤ 3) (hy : 0 ≤ y ∧ y ≤ 11) : fn MX0_paint [.ref a, .int (iN x), .int (iN y), .int (iN z)] w none (wst w ca (arO 48 (updZ c (x * 12 + y).toNat z))) := by
  obtain ⟨⟨ha, hw⟩, ⟨hca, hcw⟩, ⟨hsa, hsw⟩, hne1, hne2, hne3⟩ := id hC
  obtain ⟨hv, hp, hsh, hln⟩ := id hK
  try unfold RG at *
  show rn MX0_paint 0 [some (.ref a), some (.int (iN x)), some (.int (iN y)), some (.int (iN z))] [] w _
  refine r_iload_n (pc2 := 1) dX0_paint_0 rfl rfl ?_
  refine r_iconst (pc2 := 2) dX0_paint_1 rfl ?_
  refine r_iconst (pc2 := 3) dX0_paint_2 rfl ?_
  refine r_calls_3 (pc2 := 6) dX0_paint_3 rfl rs_0_47 rfl (by decide) rfl (Nat.le_of_ble_eq_true rfl) (Nat.le_of_ble_eq_true rfl) (c_isWithin _ x 0 3 (by unfold RG; omega) (by unfold RG; omega) (by unfold RG; omega)) (fun r_ w_ h_ => ?_)
  obtain ⟨rfl, rfl⟩ := h_
  refine ⟨rfl, ?_⟩
  refine r_ifb_eq (pc2 := 9) (tgt := 28) dX0_paint_6 rfl (by decide)  (fun h6 => ?_) (fun h6 => ?_)
  · refine r_retv dX0_paint_28 rfl ?_
    first | exact ⟨rfl, rfl⟩ | (exfalso; omega)
  · refine r_iload_n (pc2 := 10) dX0_paint_9 rfl rfl ?_
    refine r_calls_1 (pc2 := 13) dX0_paint_10 rfl rs_0_51 rfl (by decide) rfl (Nat.le_of_ble_eq_true rfl) (Nat.le_of_ble_eq_true rfl) (c_isRidge _ y (by unfold RG; omega)) (fun r_ w_ h_ => ?_)
    obtain ⟨rfl, rfl⟩ := h_
    refine ⟨rfl, ?_⟩
    refine r_ifb_eq (pc2 := 16) (tgt := 28) dX0_paint_13 rfl (by decide)  (fun h13 => ?_) (fun h13 => ?_)
    · refine r_retv dX0_paint_28 rfl ?_
      first | exact ⟨rfl, rfl⟩ | (exfalso; omega)
    · refine r_aload_n (pc2 := 17) dX0_paint_16 rfl rfl ?_
      refine r_getf (pc2 := 20) dX0_paint_17 rfl fl_0_15 (by assumption) (by assumption) (by rfl) ?_
      refine r_iload_n (pc2 := 21) dX0_paint_20 rfl rfl ?_
      refine r_bipush (pc2 := 23) dX0_paint_21 rfl (by decide) ?_
      refine r_imul (pc2 := 24) dX0_paint_23 rfl ?_
      refine r_iload_n (pc2 := 25) dX0_paint_24 rfl rfl ?_
      refine r_iadd (pc2 := 26) dX0_paint_25 rfl ?_
      refine r_iload_n (pc2 := 27) dX0_paint_26 rfl rfl ?_
      refine r_iast (pc2 := 28) dX0_paint_27 rfl (by assumption) (by assumption) (by omega) (by omega) (by omega) ?_
      refine r_retv dX0_paint_28 rfl ?_
      first | exact ⟨rfl, rfl⟩ | (exfalso; omega)

set_option maxHeartbeats 4000000 in
theorem c_viewDue (w : av_W) (a ca sa : Nat) (v p sh ln pr gd co : Int) (c s : Nat → Int) (hC : Cd w a ca sa v p sh ln pr gd co c s) (hK : KR v p sh ln) (x : Int) (hx : RG x) : fn MX0_viewDue [.ref a, .int (iN x)] w (some (.int (iN (sD s x)))) w := by
  obtain ⟨⟨ha, hw⟩, ⟨hca, hcw⟩, ⟨hsa, hsw⟩, hne1, hne2, hne3⟩ := id hC
  obtain ⟨hv, hp, hsh, hln⟩ := id hK
  try unfold RG at *
  unfold sD
  show rn MX0_viewDue 0 [some (.ref a), some (.int (iN x))] [] w _
  refine r_iload_n (pc2 := 1) dX0_viewDue_0 rfl rfl ?_
  refine r_if_lt (pc2 := 4) (tgt := 10) dX0_viewDue_1 rfl (by decide) (by omega) (fun h1 => ?_) (fun h1 => ?_)
  · refine r_iconst (pc2 := 11) dX0_viewDue_10 rfl ?_
    refine r_ret dX0_viewDue_11 rfl ?_
    exact ⟨by first | rw [if_pos (by omega)] | rw [if_neg (by omega)], rfl⟩
  · refine r_iload_n (pc2 := 5) dX0_viewDue_4 rfl rfl ?_
    refine r_bipush (pc2 := 7) dX0_viewDue_5 rfl (by decide) ?_
    refine r_icmp_lt (pc2 := 10) (tgt := 12) dX0_viewDue_7 rfl (by decide) (by omega) (by omega) (fun h7 => ?_) (fun h7 => ?_)
    · refine r_aload_n (pc2 := 13) dX0_viewDue_12 rfl rfl ?_
      refine r_getf (pc2 := 16) dX0_viewDue_13 rfl fl_0_22 (by assumption) (by assumption) (by rfl) ?_
      refine r_iload_n (pc2 := 17) dX0_viewDue_16 rfl rfl ?_
      refine r_iald (pc2 := 18) dX0_viewDue_17 rfl (by decide) (by assumption) (by assumption) (by omega) (by omega) (by omega) ?_
      refine r_ret dX0_viewDue_18 rfl ?_
      exact ⟨by first | rw [if_pos (by omega)] | rw [if_neg (by omega)], rfl⟩
    · refine r_iconst (pc2 := 11) dX0_viewDue_10 rfl ?_
      refine r_ret dX0_viewDue_11 rfl ?_
      exact ⟨by first | rw [if_pos (by omega)] | rw [if_neg (by omega)], rfl⟩

set_option maxHeartbeats 4000000 in
theorem c_putSlice (w : av_W) (a ca sa : Nat) (v p sh ln pr gd co : Int) (c s : Nat → Int) (hC : Cd w a ca sa v p sh ln pr gd co c s) (hK : KR v p sh ln) (x z : Int) (hx : 0 ≤ x ∧ x ≤ 5) : fn MX0_putSlice [.ref a, .int (iN x), .int (iN z)] w none (wst w sa (arO 6 (updZ s x.toNat z))) := by
  obtain ⟨⟨ha, hw⟩, ⟨hca, hcw⟩, ⟨hsa, hsw⟩, hne1, hne2, hne3⟩ := id hC
  obtain ⟨hv, hp, hsh, hln⟩ := id hK
  try unfold RG at *
  show rn MX0_putSlice 0 [some (.ref a), some (.int (iN x)), some (.int (iN z))] [] w _
  refine r_iload_n (pc2 := 1) dX0_putSlice_0 rfl rfl ?_
  refine r_iconst (pc2 := 2) dX0_putSlice_1 rfl ?_
  refine r_iconst (pc2 := 3) dX0_putSlice_2 rfl ?_
  refine r_calls_3 (pc2 := 6) dX0_putSlice_3 rfl rs_0_47 rfl (by decide) rfl (Nat.le_of_ble_eq_true rfl) (Nat.le_of_ble_eq_true rfl) (c_isWithin _ x 0 5 (by unfold RG; omega) (by unfold RG; omega) (by unfold RG; omega)) (fun r_ w_ h_ => ?_)
  obtain ⟨rfl, rfl⟩ := h_
  refine ⟨rfl, ?_⟩
  refine r_ifb_eq (pc2 := 9) (tgt := 16) dX0_putSlice_6 rfl (by decide)  (fun h6 => ?_) (fun h6 => ?_)
  · refine r_retv dX0_putSlice_16 rfl ?_
    first | exact ⟨rfl, rfl⟩ | (exfalso; omega)
  · refine r_aload_n (pc2 := 10) dX0_putSlice_9 rfl rfl ?_
    refine r_getf (pc2 := 13) dX0_putSlice_10 rfl fl_0_22 (by assumption) (by assumption) (by rfl) ?_
    refine r_iload_n (pc2 := 14) dX0_putSlice_13 rfl rfl ?_
    refine r_iload_n (pc2 := 15) dX0_putSlice_14 rfl rfl ?_
    refine r_iast (pc2 := 16) dX0_putSlice_15 rfl (by assumption) (by assumption) (by omega) (by omega) (by omega) ?_
    refine r_retv dX0_putSlice_16 rfl ?_
    first | exact ⟨rfl, rfl⟩ | (exfalso; omega)

set_option maxHeartbeats 4000000 in
theorem c_spotBehind (w : av_W) (a ca sa : Nat) (v p sh ln pr gd co : Int) (c s : Nat → Int) (hC : Cd w a ca sa v p sh ln pr gd co c s) (hK : KR v p sh ln) (x y : Int) (hx : 0 ≤ x ∧ x ≤ 11) (hy : 0 ≤ y ∧ y ≤ 5) : fn MX0_spotBehind [.ref a, .int (iN x), .int (iN y)] w (some (.int (iN (spZ p sh x y)))) w := by
  obtain ⟨⟨ha, hw⟩, ⟨hca, hcw⟩, ⟨hsa, hsw⟩, hne1, hne2, hne3⟩ := id hC
  obtain ⟨hv, hp, hsh, hln⟩ := id hK
  try unfold RG at *
  have hm := mulb hp hx
  unfold spZ
  show rn MX0_spotBehind 0 [some (.ref a), some (.int (iN x)), some (.int (iN y)), none] [] w _
  refine r_iload_n (pc2 := 1) dX0_spotBehind_0 rfl rfl ?_
  refine r_aload_n (pc2 := 2) dX0_spotBehind_1 rfl rfl ?_
  refine r_getf (pc2 := 5) dX0_spotBehind_2 rfl fl_0_19 (by assumption) (by assumption) (by rfl) ?_
  refine r_imul (pc2 := 6) dX0_spotBehind_5 rfl ?_
  refine r_iload_n (pc2 := 7) dX0_spotBehind_6 rfl rfl ?_
  refine r_iadd (pc2 := 8) dX0_spotBehind_7 rfl ?_
  refine r_aload_n (pc2 := 9) dX0_spotBehind_8 rfl rfl ?_
  refine r_getf (pc2 := 12) dX0_spotBehind_9 rfl fl_0_25 (by assumption) (by assumption) (by rfl) ?_
  refine r_isub (pc2 := 13) dX0_spotBehind_12 rfl ?_
  refine r_ist_3 (pc2 := 14) dX0_spotBehind_13 rfl rfl ?_
  refine r_iload_n (pc2 := 15) dX0_spotBehind_14 rfl rfl ?_
  refine r_iconst (pc2 := 16) dX0_spotBehind_15 rfl ?_
  refine r_bipush (pc2 := 18) dX0_spotBehind_16 rfl (by decide) ?_
  refine r_aload_n (pc2 := 19) dX0_spotBehind_18 rfl rfl ?_
  refine r_getf (pc2 := 22) dX0_spotBehind_19 rfl fl_0_19 (by assumption) (by assumption) (by rfl) ?_
  refine r_imul (pc2 := 23) dX0_spotBehind_22 rfl ?_
  refine r_iconst (pc2 := 24) dX0_spotBehind_23 rfl ?_
  refine r_isub (pc2 := 25) dX0_spotBehind_24 rfl ?_
  refine r_calls_3 (pc2 := 28) dX0_spotBehind_25 rfl rs_0_47 rfl (by decide) rfl (Nat.le_of_ble_eq_true rfl) (Nat.le_of_ble_eq_true rfl) (c_isWithin _ (x * p + y - sh) 0 (12 * p - 1) (by unfold RG; omega) (by unfold RG; omega) (by unfold RG; omega)) (fun r_ w_ h_ => ?_)
  obtain ⟨rfl, rfl⟩ := h_
  refine ⟨rfl, ?_⟩
  refine r_ifb_eq (pc2 := 31) (tgt := 35) dX0_spotBehind_28 rfl (by decide)  (fun h28 => ?_) (fun h28 => ?_)
  · refine r_iconst (pc2 := 36) dX0_spotBehind_35 rfl ?_
    refine r_ret dX0_spotBehind_36 rfl ?_
    exact ⟨by first | rw [if_pos (by omega)] | rw [if_neg (by omega)], rfl⟩
  · refine r_iload_n (pc2 := 32) dX0_spotBehind_31 rfl rfl ?_
    refine r_goto (tgt := 36) dX0_spotBehind_32 (by decide) ?_
    refine r_ret dX0_spotBehind_36 rfl ?_
    exact ⟨by first | rw [if_pos (by omega)] | rw [if_neg (by omega)], rfl⟩

set_option maxHeartbeats 4000000 in
theorem c_sliceBehind (w : av_W) (a ca sa : Nat) (v p sh ln pr gd co : Int) (c s : Nat → Int) (hC : Cd w a ca sa v p sh ln pr gd co c s) (hK : KR v p sh ln) (x y : Int) (hx : 0 ≤ x ∧ x ≤ 11) (hy : 0 ≤ y ∧ y ≤ 5) : fn MX0_sliceBehind [.ref a, .int (iN x), .int (iN y)] w (some (.int (iN (slZ p sh x y)))) w := by
  obtain ⟨⟨ha, hw⟩, ⟨hca, hcw⟩, ⟨hsa, hsw⟩, hne1, hne2, hne3⟩ := id hC
  obtain ⟨hv, hp, hsh, hln⟩ := id hK
  try unfold RG at *
  have hm := spZ_rg (sh := sh) (r := x) (pl := y) hp
  unfold slZ
  show rn MX0_sliceBehind 0 [some (.ref a), some (.int (iN x)), some (.int (iN y)), none] [] w _
  refine r_aload_n (pc2 := 1) dX0_sliceBehind_0 rfl rfl ?_
  refine r_iload_n (pc2 := 2) dX0_sliceBehind_1 rfl rfl ?_
  refine r_iload_n (pc2 := 3) dX0_sliceBehind_2 rfl rfl ?_
  refine r_callv_2 (pc2 := 6) dX0_sliceBehind_3 rfl rs_0_82 rfl (by decide) rfl (Nat.le_of_ble_eq_true rfl) (Nat.le_of_ble_eq_true rfl) (by assumption) (by assumption) (c_spotBehind _ a ca sa v p sh ln pr gd co c s hC hK x y hx hy) (fun r_ w_ h_ => ?_)
  obtain ⟨rfl, rfl⟩ := h_
  refine ⟨rfl, ?_⟩
  refine r_ist_3 (pc2 := 7) dX0_sliceBehind_6 rfl rfl ?_
  refine r_iload_n (pc2 := 8) dX0_sliceBehind_7 rfl rfl ?_
  refine r_iconst (pc2 := 9) dX0_sliceBehind_8 rfl ?_
  refine r_icmp_eq (pc2 := 12) (tgt := 20) dX0_sliceBehind_9 rfl (by decide) (by omega) (by omega) (fun h9 => ?_) (fun h9 => ?_)
  · refine r_iconst (pc2 := 21) dX0_sliceBehind_20 rfl ?_
    refine r_goto (tgt := 30) dX0_sliceBehind_21 (by decide) ?_
    refine r_ret dX0_sliceBehind_30 rfl ?_
    exact ⟨by first | rw [if_pos (by omega)] | (rw [if_neg (by omega), Int.tmod_eq_emod_of_nonneg (by omega)]), rfl⟩
  · refine r_aload_n (pc2 := 13) dX0_sliceBehind_12 rfl rfl ?_
    refine r_getf (pc2 := 16) dX0_sliceBehind_13 rfl fl_0_19 (by assumption) (by assumption) (by rfl) ?_
    refine r_iconst (pc2 := 17) dX0_sliceBehind_16 rfl ?_
    refine r_icmp_ge (pc2 := 20) (tgt := 24) dX0_sliceBehind_17 rfl (by decide) (by omega) (by omega) (fun h17 => ?_) (fun h17 => ?_)
    · refine r_iload_n (pc2 := 25) dX0_sliceBehind_24 rfl rfl ?_
      refine r_aload_n (pc2 := 26) dX0_sliceBehind_25 rfl rfl ?_
      refine r_getf (pc2 := 29) dX0_sliceBehind_26 rfl fl_0_19 (by assumption) (by assumption) (by rfl) ?_
      refine r_irem (pc2 := 30) dX0_sliceBehind_29 rfl (by omega) (by omega) (by omega) (by omega) ?_
      refine r_ret dX0_sliceBehind_30 rfl ?_
      exact ⟨by first | rw [if_pos (by omega)] | (rw [if_neg (by omega), Int.tmod_eq_emod_of_nonneg (by omega)]), rfl⟩
    · refine r_iconst (pc2 := 21) dX0_sliceBehind_20 rfl ?_
      refine r_goto (tgt := 30) dX0_sliceBehind_21 (by decide) ?_
      refine r_ret dX0_sliceBehind_30 rfl ?_
      exact ⟨by first | rw [if_pos (by omega)] | (rw [if_neg (by omega), Int.tmod_eq_emod_of_nonneg (by omega)]), rfl⟩

set_option maxHeartbeats 4000000 in
theorem c_ridgeBehind (w : av_W) (a ca sa : Nat) (v p sh ln pr gd co : Int) (c s : Nat → Int) (hC : Cd w a ca sa v p sh ln pr gd co c s) (hK : KR v p sh ln) (x y : Int) (hx : 0 ≤ x ∧ x ≤ 11) (hy : 0 ≤ y ∧ y ≤ 5) : fn MX0_ridgeBehind [.ref a, .int (iN x), .int (iN y)] w (some (.int (iN (rdZ p sh x y)))) w := by
  obtain ⟨⟨ha, hw⟩, ⟨hca, hcw⟩, ⟨hsa, hsw⟩, hne1, hne2, hne3⟩ := id hC
  obtain ⟨hv, hp, hsh, hln⟩ := id hK
  try unfold RG at *
  have hm := spZ_rg (sh := sh) (r := x) (pl := y) hp
  unfold rdZ
  show rn MX0_ridgeBehind 0 [some (.ref a), some (.int (iN x)), some (.int (iN y)), none] [] w _
  refine r_aload_n (pc2 := 1) dX0_ridgeBehind_0 rfl rfl ?_
  refine r_iload_n (pc2 := 2) dX0_ridgeBehind_1 rfl rfl ?_
  refine r_iload_n (pc2 := 3) dX0_ridgeBehind_2 rfl rfl ?_
  refine r_callv_2 (pc2 := 6) dX0_ridgeBehind_3 rfl rs_0_82 rfl (by decide) rfl (Nat.le_of_ble_eq_true rfl) (Nat.le_of_ble_eq_true rfl) (by assumption) (by assumption) (c_spotBehind _ a ca sa v p sh ln pr gd co c s hC hK x y hx hy) (fun r_ w_ h_ => ?_)
  obtain ⟨rfl, rfl⟩ := h_
  refine ⟨rfl, ?_⟩
  refine r_ist_3 (pc2 := 7) dX0_ridgeBehind_6 rfl rfl ?_
  refine r_iload_n (pc2 := 8) dX0_ridgeBehind_7 rfl rfl ?_
  refine r_iconst (pc2 := 9) dX0_ridgeBehind_8 rfl ?_
  refine r_icmp_eq (pc2 := 12) (tgt := 20) dX0_ridgeBehind_9 rfl (by decide) (by omega) (by omega) (fun h9 => ?_) (fun h9 => ?_)
  · refine r_iconst (pc2 := 21) dX0_ridgeBehind_20 rfl ?_
    refine r_goto (tgt := 30) dX0_ridgeBehind_21 (by decide) ?_
    refine r_ret dX0_ridgeBehind_30 rfl ?_
    exact ⟨by first | rw [if_pos (by omega)] | (rw [if_neg (by omega), Int.tdiv_eq_ediv_of_nonneg (by omega)]), rfl⟩
  · refine r_aload_n (pc2 := 13) dX0_ridgeBehind_12 rfl rfl ?_
    refine r_getf (pc2 := 16) dX0_ridgeBehind_13 rfl fl_0_19 (by assumption) (by assumption) (by rfl) ?_
    refine r_iconst (pc2 := 17) dX0_ridgeBehind_16 rfl ?_
    refine r_icmp_ge (pc2 := 20) (tgt := 24) dX0_ridgeBehind_17 rfl (by decide) (by omega) (by omega) (fun h17 => ?_) (fun h17 => ?_)
    · refine r_iload_n (pc2 := 25) dX0_ridgeBehind_24 rfl rfl ?_
      refine r_aload_n (pc2 := 26) dX0_ridgeBehind_25 rfl rfl ?_
      refine r_getf (pc2 := 29) dX0_ridgeBehind_26 rfl fl_0_19 (by assumption) (by assumption) (by rfl) ?_
      refine r_idiv (pc2 := 30) dX0_ridgeBehind_29 rfl (by omega) (by omega) (by omega) (by omega) ?_
      refine r_ret dX0_ridgeBehind_30 rfl ?_
      exact ⟨by first | rw [if_pos (by omega)] | (rw [if_neg (by omega), Int.tdiv_eq_ediv_of_nonneg (by omega)]), rfl⟩
    · refine r_iconst (pc2 := 21) dX0_ridgeBehind_20 rfl ?_
      refine r_goto (tgt := 30) dX0_ridgeBehind_21 (by decide) ?_
      refine r_ret dX0_ridgeBehind_30 rfl ?_
      exact ⟨by first | rw [if_pos (by omega)] | (rw [if_neg (by omega), Int.tdiv_eq_ediv_of_nonneg (by omega)]), rfl⟩

set_option maxHeartbeats 4000000 in
theorem c_viewBehind (w : av_W) (a ca sa : Nat) (v p sh ln pr gd co : Int) (c s : Nat → Int) (hC : Cd w a ca sa v p sh ln pr gd co c s) (hK : KR v p sh ln) (x y : Int) (hx : 0 ≤ x ∧ x ≤ 11) (hy : 0 ≤ y ∧ y ≤ 5) : fn MX0_viewBehind [.ref a, .int (iN x), .int (iN y)] w (some (.int (iN (sD s (slZ p sh x y))))) w := by
  obtain ⟨⟨ha, hw⟩, ⟨hca, hcw⟩, ⟨hsa, hsw⟩, hne1, hne2, hne3⟩ := id hC
  obtain ⟨hv, hp, hsh, hln⟩ := id hK
  try unfold RG at *
  have hm := slZ_rg (sh := sh) (r := x) (pl := y) hp
  show rn MX0_viewBehind 0 [some (.ref a), some (.int (iN x)), some (.int (iN y))] [] w _
  refine r_aload_n (pc2 := 1) dX0_viewBehind_0 rfl rfl ?_
  refine r_aload_n (pc2 := 2) dX0_viewBehind_1 rfl rfl ?_
  refine r_iload_n (pc2 := 3) dX0_viewBehind_2 rfl rfl ?_
  refine r_iload_n (pc2 := 4) dX0_viewBehind_3 rfl rfl ?_
  refine r_callv_2 (pc2 := 7) dX0_viewBehind_4 rfl rs_0_85 rfl (by decide) rfl (Nat.le_of_ble_eq_true rfl) (Nat.le_of_ble_eq_true rfl) (by assumption) (by assumption) (c_sliceBehind _ a ca sa v p sh ln pr gd co c s hC hK x y hx hy) (fun r_ w_ h_ => ?_)
  obtain ⟨rfl, rfl⟩ := h_
  refine ⟨rfl, ?_⟩
  refine r_callv_1 (pc2 := 10) dX0_viewBehind_7 rfl rs_0_63 rfl (by decide) rfl (Nat.le_of_ble_eq_true rfl) (Nat.le_of_ble_eq_true rfl) (by assumption) (by assumption) (c_viewDue _ a ca sa v p sh ln pr gd co c s hC hK (slZ p sh x y) (by unfold RG; omega)) (fun r_ w_ h_ => ?_)
  obtain ⟨rfl, rfl⟩ := h_
  refine ⟨rfl, ?_⟩
  refine r_ret dX0_viewBehind_10 rfl ?_
  exact ⟨rfl, rfl⟩

set_option maxHeartbeats 4000000 in
theorem c_colourBehind (w : av_W) (a ca sa : Nat) (v p sh ln pr gd co : Int) (c s : Nat → Int) (hC : Cd w a ca sa v p sh ln pr gd co c s) (hK : KR v p sh ln) (x y : Int) (hx : 0 ≤ x ∧ x ≤ 11) (hy : 0 ≤ y ∧ y ≤ 5) (hs : ∀ j, j < 6 → -1 ≤ s j ∧ s j ≤ 5) : fn MX0_colourBehind [.ref a, .int (iN x), .int (iN y)] w (some (.int (iN (colI c (sD s (slZ p sh x y)) (rdZ p sh x y))))) w := by
  obtain ⟨⟨ha, hw⟩, ⟨hca, hcw⟩, ⟨hsa, hsw⟩, hne1, hne2, hne3⟩ := id hC
  obtain ⟨hv, hp, hsh, hln⟩ := id hK
  try unfold RG at *
  have hm := rdZ_rg (sh := sh) (r := x) (pl := y) hp
  have hm2 := sD_rg hs (by omega) (by omega) (slZ p sh x y)
  show rn MX0_colourBehind 0 [some (.ref a), some (.int (iN x)), some (.int (iN y))] [] w _
  refine r_aload_n (pc2 := 1) dX0_colourBehind_0 rfl rfl ?_
  refine r_aload_n (pc2 := 2) dX0_colourBehind_1 rfl rfl ?_
  refine r_iload_n (pc2 := 3) dX0_colourBehind_2 rfl rfl ?_
  refine r_iload_n (pc2 := 4) dX0_colourBehind_3 rfl rfl ?_
  refine r_callv_2 (pc2 := 7) dX0_colourBehind_4 rfl rs_0_88 rfl (by decide) rfl (Nat.le_of_ble_eq_true rfl) (Nat.le_of_ble_eq_true rfl) (by assumption) (by assumption) (c_viewBehind _ a ca sa v p sh ln pr gd co c s hC hK x y hx hy) (fun r_ w_ h_ => ?_)
  obtain ⟨rfl, rfl⟩ := h_
  refine ⟨rfl, ?_⟩
  refine r_aload_n (pc2 := 8) dX0_colourBehind_7 rfl rfl ?_
  refine r_iload_n (pc2 := 9) dX0_colourBehind_8 rfl rfl ?_
  refine r_iload_n (pc2 := 10) dX0_colourBehind_9 rfl rfl ?_
  refine r_callv_2 (pc2 := 13) dX0_colourBehind_10 rfl rs_0_91 rfl (by decide) rfl (Nat.le_of_ble_eq_true rfl) (Nat.le_of_ble_eq_true rfl) (by assumption) (by assumption) (c_ridgeBehind _ a ca sa v p sh ln pr gd co c s hC hK x y hx hy) (fun r_ w_ h_ => ?_)
  obtain ⟨rfl, rfl⟩ := h_
  refine ⟨rfl, ?_⟩
  refine r_callv_2 (pc2 := 16) dX0_colourBehind_13 rfl rs_0_59 rfl (by decide) rfl (Nat.le_of_ble_eq_true rfl) (Nat.le_of_ble_eq_true rfl) (by assumption) (by assumption) (c_colourIn _ a ca sa v p sh ln pr gd co c s hC hK (sD s (slZ p sh x y)) (rdZ p sh x y) (by unfold RG; omega) (by unfold RG; omega)) (fun r_ w_ h_ => ?_)
  obtain ⟨rfl, rfl⟩ := h_
  refine ⟨rfl, ?_⟩
  refine r_ret dX0_colourBehind_16 rfl ?_
  exact ⟨rfl, rfl⟩

set_option maxHeartbeats 4000000 in
theorem c_stepAt (w : av_W) (a ca sa : Nat) (v p sh ln pr gd co : Int) (c s : Nat → Int) (hC : Cd w a ca sa v p sh ln pr gd co c s) (hK : KR v p sh ln) (x : Int) (hx : -9 ≤ x ∧ x ≤ 9) : fn MX0_stepAt [.ref a, .int (iN x)] w (some (.int (iN (stZ p x)))) w := by
  obtain ⟨⟨ha, hw⟩, ⟨hca, hcw⟩, ⟨hsa, hsw⟩, hne1, hne2, hne3⟩ := id hC
  obtain ⟨hv, hp, hsh, hln⟩ := id hK
  try unfold RG at *
  have hm := mula hp hx
  unfold stZ
  show rn MX0_stepAt 0 [some (.ref a), some (.int (iN x))] [] w _
  refine r_aload_n (pc2 := 1) dX0_stepAt_0 rfl rfl ?_
  refine r_getf (pc2 := 4) dX0_stepAt_1 rfl fl_0_19 (by assumption) (by assumption) (by rfl) ?_
  refine r_iload_n (pc2 := 5) dX0_stepAt_4 rfl rfl ?_
  refine r_bipush (pc2 := 7) dX0_stepAt_5 rfl (by decide) ?_
  refine r_iadd (pc2 := 8) dX0_stepAt_7 rfl ?_
  refine r_imul (pc2 := 9) dX0_stepAt_8 rfl ?_
  refine r_bipush (pc2 := 11) dX0_stepAt_9 rfl (by decide) ?_
  refine r_idiv (pc2 := 12) dX0_stepAt_11 rfl (by omega) (by omega) (by omega) (by omega) ?_
  refine r_ret dX0_stepAt_12 rfl ?_
  exact ⟨by rw [Int.tdiv_eq_ediv_of_nonneg (by omega)], rfl⟩

set_option maxHeartbeats 4000000 in
theorem c_placeSeen (w : av_W) (a ca sa : Nat) (v p sh ln pr gd co : Int) (c s : Nat → Int) (hC : Cd w a ca sa v p sh ln pr gd co c s) (hK : KR v p sh ln) (x y : Int) (hx : 0 ≤ x ∧ x ≤ 6) (hy : 0 ≤ y ∧ y ≤ 11) : fn MX0_placeSeen [.ref a, .int (iN x), .int (iN y)] w (some (.int (iN (plZ p ln x y)))) w := by
  obtain ⟨⟨ha, hw⟩, ⟨hca, hcw⟩, ⟨hsa, hsw⟩, hne1, hne2, hne3⟩ := id hC
  obtain ⟨hv, hp, hsh, hln⟩ := id hK
  try unfold RG at *
  have hm := mulc hln hy
  have hm2 := tdb hm
  unfold plZ
  show rn MX0_placeSeen 0 [some (.ref a), some (.int (iN x)), some (.int (iN y)), none] [] w _
  refine r_iload_n (pc2 := 1) dX0_placeSeen_0 rfl rfl ?_
  refine r_aload_n (pc2 := 2) dX0_placeSeen_1 rfl rfl ?_
  refine r_getf (pc2 := 5) dX0_placeSeen_2 rfl fl_0_28 (by assumption) (by assumption) (by rfl) ?_
  refine r_iload_n (pc2 := 6) dX0_placeSeen_5 rfl rfl ?_
  refine r_bipush (pc2 := 8) dX0_placeSeen_6 rfl (by decide) ?_
  refine r_isub (pc2 := 9) dX0_placeSeen_8 rfl ?_
  refine r_imul (pc2 := 10) dX0_placeSeen_9 rfl ?_
  refine r_iconst (pc2 := 11) dX0_placeSeen_10 rfl ?_
  refine r_idiv (pc2 := 12) dX0_placeSeen_11 rfl (by omega) (by omega) (by omega) (by omega) ?_
  refine r_iadd (pc2 := 13) dX0_placeSeen_12 rfl ?_
  refine r_ist_3 (pc2 := 14) dX0_placeSeen_13 rfl rfl ?_
  refine r_iconst (pc2 := 15) dX0_placeSeen_14 rfl ?_
  refine r_iload_n (pc2 := 16) dX0_placeSeen_15 rfl rfl ?_
  refine r_aload_n (pc2 := 17) dX0_placeSeen_16 rfl rfl ?_
  refine r_getf (pc2 := 20) dX0_placeSeen_17 rfl fl_0_19 (by assumption) (by assumption) (by rfl) ?_
  refine r_iconst (pc2 := 21) dX0_placeSeen_20 rfl ?_
  refine r_isub (pc2 := 22) dX0_placeSeen_21 rfl ?_
  refine r_mm (pc2 := 25) dX0_placeSeen_22 rfl mr_0_94 mm_0_94 (by decide) (Nat.le_of_ble_eq_true rfl) (by omega) (by omega) ?_
  refine r_mm (pc2 := 28) dX0_placeSeen_25 rfl mr_0_77 mm_0_77 (by decide) (Nat.le_of_ble_eq_true rfl) (by omega) (by omega) ?_
  refine r_ret dX0_placeSeen_28 rfl ?_
  exact ⟨rfl, rfl⟩
end
section
/-! the class's Card: what writes it -/
theorem Cd.col {w : av_W} {a ca sa : Nat} {v p sh ln pr gd co : Int} {c s : Nat → Int} (h : Cd w a ca sa v p sh ln pr gd co c s) (c2 : Nat → Int) : Cd (wst w ca (arO 48 c2)) a ca sa v p sh ln pr gd co c2 s := by
  obtain ⟨⟨ha, hw⟩, ⟨hca, hcw⟩, ⟨hsa, hsw⟩, h1, h2, h3⟩ := h
  exact ⟨⟨ha, by rw [wst_ne h1]; exact hw⟩, ⟨hca, wst_self⟩, ⟨hsa, by rw [wst_ne (fun q => h3 q.symm)]; exact hsw⟩, h1, h2, h3⟩
theorem Cd.slc {w : av_W} {a ca sa : Nat} {v p sh ln pr gd co : Int} {c s : Nat → Int} (h : Cd w a ca sa v p sh ln pr gd co c s) (s2 : Nat → Int) : Cd (wst w sa (arO 6 s2)) a ca sa v p sh ln pr gd co c s2 := by
  obtain ⟨⟨ha, hw⟩, ⟨hca, hcw⟩, ⟨hsa, hsw⟩, h1, h2, h3⟩ := h
  exact ⟨⟨ha, by rw [wst_ne h2]; exact hw⟩, ⟨hca, by rw [wst_ne h3]; exact hcw⟩, ⟨hsa, wst_self⟩, h1, h2, h3⟩
theorem Cd.obj {w : av_W} {a ca sa : Nat} {v p sh ln pr gd co : Int} {c s : Nat → Int} (h : Cd w a ca sa v p sh ln pr gd co c s) (v2 p2 sh2 ln2 pr2 gd2 co2 : Int) : Cd (wst w a (cdO ca sa v2 p2 sh2 ln2 pr2 gd2 co2)) a ca sa v2 p2 sh2 ln2 pr2 gd2 co2 c s := by
  obtain ⟨⟨ha, hw⟩, ⟨hca, hcw⟩, ⟨hsa, hsw⟩, h1, h2, h3⟩ := h
  exact ⟨⟨ha, wst_self⟩, ⟨hca, by rw [wst_ne (fun q => h1 q.symm)]; exact hcw⟩, ⟨hsa, by rw [wst_ne (fun q => h2 q.symm)]; exact hsw⟩, h1, h2, h3⟩
theorem Cd.out {w : av_W} {a ca sa : Nat} {v p sh ln pr gd co : Int} {c s : Nat → Int} (h : Cd w a ca sa v p sh ln pr gd co c s) {b : Nat} (e : av_E) (h1 : a ≠ b) (h2 : ca ≠ b) (h3 : sa ≠ b) : Cd (wst w b e) a ca sa v p sh ln pr gd co c s := by
  obtain ⟨⟨ha, hw⟩, ⟨hca, hcw⟩, ⟨hsa, hsw⟩, g⟩ := h
  exact ⟨⟨ha, by rw [wst_ne h1]; exact hw⟩, ⟨hca, by rw [wst_ne h2]; exact hcw⟩, ⟨hsa, by rw [wst_ne h3]; exact hsw⟩, g⟩
theorem updZ_id (c : Nat → Int) (k : Nat) : updZ c k (c k) = c := by
  funext j
  unfold updZ
  by_cases h : j = k
  · rw [if_pos h, h]
  · rw [if_neg h]
/-- a stretch of a row is set -/
def rgF (lo k : Int) (f g : Nat → Int) : Nat → Int := fun j => if lo ≤ (j : Int) ∧ (j : Int) < lo + k then f j else g j
theorem rgF_0 (lo : Int) (f g : Nat → Int) : rgF lo 0 f g = g := by
  funext j
  exact if_neg (by omega)
theorem rgF_step {lo k : Int} (hl : 0 ≤ lo) (hk : 0 ≤ k) (f g : Nat → Int) : updZ (rgF lo k f g) (lo + k).toNat (f (lo + k).toNat) = rgF lo (k + 1) f g := by
  funext j
  unfold updZ rgF
  by_cases h : j = (lo + k).toNat
  · subst h
    rw [if_pos rfl, if_pos (by omega)]
  · rw [if_neg h]
    by_cases h2 : lo ≤ (j : Int) ∧ (j : Int) < lo + k
    · rw [if_pos h2, if_pos (by omega)]
    · rw [if_neg h2, if_neg (by omega)]
theorem rgF_out {lo k : Int} {f g : Nat → Int} {j : Nat} (h : ¬ (lo ≤ (j : Int) ∧ (j : Int) < lo + k)) : rgF lo k f g j = g j := if_neg h
theorem rgF_in {lo k : Int} {f g : Nat → Int} {j : Nat} (h : lo ≤ (j : Int) ∧ (j : Int) < lo + k) : rgF lo k f g j = f j := if_pos h
/-- sums -/
def sm : Nat → (Nat → Int) → Int
  | 0, _ => 0
  | n + 1, f => sm n f + f n
theorem sm_step {k : Int} (hk : 0 ≤ k) (f : Nat → Int) : sm (k + 1).toNat f = sm k.toNat f + f k.toNat := by
  rw [show (k + 1).toNat = k.toNat + 1 by omega]
  rfl
theorem sm_congr {n : Nat} {f g : Nat → Int} (h : ∀ j, j < n → f j = g j) : sm n f = sm n g := by
  induction n with
  | zero => rfl
  | succ n ih =>
    show sm n f + f n = sm n g + g n
    rw [ih (fun j hj => h j (by omega)), h n (by omega)]
theorem sm_rg {n : Nat} {f : Nat → Int} {L H : Int} (h : ∀ j, j < n → L ≤ f j ∧ f j ≤ H) : n * L ≤ sm n f ∧ sm n f ≤ n * H := by
  induction n with
  | zero => simp [sm]
  | succ n ih =>
    have h1 := ih (fun j hj => h j (by omega))
    have h2 := h n (by omega)
    have e1 : ((n + 1 : Nat) : Int) * L = n * L + L := by rw [Int.natCast_add, Int.add_mul]; simp
    have e2 : ((n + 1 : Nat) : Int) * H = n * H + H := by rw [Int.natCast_add, Int.add_mul]; simp
    rw [e1, e2]
    show n * L + L ≤ sm n f + f n ∧ sm n f + f n ≤ n * H + H
    omega
theorem bz_rg {c : Prop} [Decidable c] : 0 ≤ bz c ∧ bz c ≤ 1 := by
  unfold bz
  split <;> omega
theorem tn {k : Int} (h : 0 ≤ k) : ((k.toNat : Nat) : Int) = k := Int.toNat_of_nonneg h
/-- a row of views that come in turn -/
def inT (v : Int) : Nat → Int := fun j => (j : Int) % v

set_option maxHeartbeats 4000000 in
theorem c_resetSlices (w : av_W) (a ca sa : Nat) (v p sh ln pr gd co : Int) (c s : Nat → Int) (hC : Cd w a ca sa v p sh ln pr gd co c s) (hK : KR v p sh ln) : fn MX0_resetSlices [.ref a] w none (wst w sa (arO 6 (preF 6 (inT v) s))) := by
  obtain ⟨⟨ha, hw⟩, ⟨hca, hcw⟩, ⟨hsa, hsw⟩, hne1, hne2, hne3⟩ := id hC
  obtain ⟨hv, hp, hsh, hln⟩ := id hK
  try unfold RG at *
  show rn MX0_resetSlices 0 [some (.ref a), none, none] [] w (fun r' w' => r' = none ∧ w' = (wst w sa (arO 6 (preF 6 (inT v) s))))
  have loop : ∀ (n : Nat) (k : Int) (x : Int), (0 ≤ k ∧ k ≤ 6 ∧ 7 ≤ k + n) → (x = k % v) → rn MX0_resetSlices 4 [some (.ref a), some (.int (iN x)), some (.int (iN k))] [] (wst w sa (arO 6 (preF k (inT v) s))) (fun r' w' => r' = none ∧ w' = (wst w sa (arO 6 (preF 6 (inT v) s)))) := by
    intro n
    induction n with
    | zero =>
      intro k x hk0 hk1
      exfalso
      omega
    | succ n ih =>
      intro k x hk0 hk1
      have hx0 : 0 ≤ x ∧ x < v := by
        have h1 := Int.emod_nonneg k (show v ≠ 0 by omega)
        have h2 := Int.emod_lt_of_pos k (show 0 < v by omega)
        omega
      have hq := (hC.slc (preF k (inT v) s))
      have hqa := hq.1
      obtain ⟨hqa, hqw⟩ := hq.1
      obtain ⟨hqs, hqz⟩ := hq.2.2.1
      have hst : updZ (preF k (inT v) s) k.toNat x = preF (k + 1) (inT v) s := by
        rw [← preF_step hk0.1 (inT v) s]
        unfold inT
        rw [tn hk0.1, hk1]
      refine r_iload_n (pc2 := 5) dX0_resetSlices_4 rfl rfl ?_
      refine r_bipush (pc2 := 7) dX0_resetSlices_5 rfl (by decide) ?_
      refine r_icmp_ge (pc2 := 10) (tgt := 41) dX0_resetSlices_7 rfl (by decide) (by omega) (by omega) (fun h7 => ?_) (fun h7 => ?_)
      · have h6 : k = 6 := by omega
        subst h6
        refine r_retv dX0_resetSlices_41 rfl ?_
        exact ⟨rfl, rfl⟩
      · refine r_aload_n (pc2 := 11) dX0_resetSlices_10 rfl rfl ?_
        refine r_getf (pc2 := 14) dX0_resetSlices_11 rfl fl_0_22 (by assumption) (by assumption) (by rfl) ?_
        refine r_iload_n (pc2 := 15) dX0_resetSlices_14 rfl rfl ?_
        refine r_iload_n (pc2 := 16) dX0_resetSlices_15 rfl rfl ?_
        refine r_iast (pc2 := 17) dX0_resetSlices_16 rfl (by assumption) (by assumption) (by omega) (by omega) (by omega) ?_
        rw [wst_wst, hst]
        obtain ⟨hra, hrw⟩ := (hC.slc (preF (k + 1) (inT v) s)).1
        refine r_iload_n (pc2 := 18) dX0_resetSlices_17 rfl rfl ?_
        refine r_iconst (pc2 := 19) dX0_resetSlices_18 rfl ?_
        refine r_iadd (pc2 := 20) dX0_resetSlices_19 rfl ?_
        refine r_aload_n (pc2 := 21) dX0_resetSlices_20 rfl rfl ?_
        refine r_getf (pc2 := 24) dX0_resetSlices_21 rfl fl_0_9 (by assumption) (by assumption) (by rfl) ?_
        refine r_icmp_ge (pc2 := 27) (tgt := 33) dX0_resetSlices_24 rfl (by decide) (by omega) (by omega) (fun h24 => ?_) (fun h24 => ?_)
        · have hx2 : (0 : Int) = (k + 1) % v := by
            have h3 : x + 1 = v := by omega
            rw [Int.add_emod, ← hk1, Int.emod_eq_of_lt (a := 1) (by omega) (by omega), h3, Int.emod_self]
          refine r_iconst (pc2 := 34) dX0_resetSlices_33 rfl ?_
          refine r_ist_1 (pc2 := 35) dX0_resetSlices_34 rfl rfl ?_
          refine r_iinc_2 (pc2 := 38) dX0_resetSlices_35 rfl rfl ?_
          refine r_goto (tgt := 4) dX0_resetSlices_38 (by decide) ?_
          exact ih (k + 1) _ (by omega) hx2
        · have hx2 : x + 1 = (k + 1) % v := by
            rw [Int.add_emod, ← hk1, Int.emod_eq_of_lt (a := 1) (by omega) (by omega), Int.emod_eq_of_lt (by omega) (by omega)]
          refine r_iload_n (pc2 := 28) dX0_resetSlices_27 rfl rfl ?_
          refine r_iconst (pc2 := 29) dX0_resetSlices_28 rfl ?_
          refine r_iadd (pc2 := 30) dX0_resetSlices_29 rfl ?_
          refine r_goto (tgt := 34) dX0_resetSlices_30 (by decide) ?_
          refine r_ist_1 (pc2 := 35) dX0_resetSlices_34 rfl rfl ?_
          refine r_iinc_2 (pc2 := 38) dX0_resetSlices_35 rfl rfl ?_
          refine r_goto (tgt := 4) dX0_resetSlices_38 (by decide) ?_
          exact ih (k + 1) _ (by omega) hx2
  refine r_iconst (pc2 := 1) dX0_resetSlices_0 rfl ?_
  refine r_ist_1 (pc2 := 2) dX0_resetSlices_1 rfl rfl ?_
  refine r_iconst (pc2 := 3) dX0_resetSlices_2 rfl ?_
  refine r_ist_2 (pc2 := 4) dX0_resetSlices_3 rfl rfl ?_
  have := loop 7 0 0 (by omega) (Int.zero_emod v).symm
  rw [preF_0, wst_id hsw] at this
  exact this

set_option maxHeartbeats 4000000 in
theorem c_copyNumbers (w : av_W) (b1 b2 n2 : Nat) (f t : Nat → Int) (h1 : b1 < w.1) (h1w : w.2.2 b1 = arO n2 f) (h2 : b2 < w.1) (h2w : w.2.2 b2 = arO n2 t) (hne : b1 ≠ b2) (hn2 : n2 ≤ 1000) : fn MX4_copyNumbers [.ref b1, .ref b2] w none (wst w b2 (arO n2 (preF n2 f t))) := by
  show rn MX4_copyNumbers 0 [some (.ref b1), some (.ref b2), none] [] w (fun r' w' => r' = none ∧ w' = (wst w b2 (arO n2 (preF n2 f t))))
  have loop : ∀ (n : Nat) (k : Int), (0 ≤ k ∧ k ≤ n2 ∧ n2 + 1 ≤ k + n) → rn MX4_copyNumbers 2 [some (.ref b1), some (.ref b2), some (.int (iN k))] [] (wst w b2 (arO n2 (preF k f t))) (fun r' w' => r' = none ∧ w' = (wst w b2 (arO n2 (preF n2 f t)))) := by
    intro n
    induction n with
    | zero =>
      intro k hk0
      exfalso
      omega
    | succ n ih =>
      intro k hk0
      have hq1 : b1 < (wst w b2 (arO n2 (preF k f t))).1 := h1
      have hq1w : (wst w b2 (arO n2 (preF k f t))).2.2 b1 = arO n2 f := by rw [wst_ne hne]; exact h1w
      have hq2 : b2 < (wst w b2 (arO n2 (preF k f t))).1 := h2
      have hq2w : (wst w b2 (arO n2 (preF k f t))).2.2 b2 = arO n2 (preF k f t) := wst_self
      refine r_iload_n (pc2 := 3) dX4_copyNumbers_2 rfl rfl ?_
      refine r_aload_n (pc2 := 4) dX4_copyNumbers_3 rfl rfl ?_
      refine r_alen (pc2 := 5) dX4_copyNumbers_4 rfl (by decide) (by assumption) (by assumption) ?_
      refine r_icmp_ge (pc2 := 8) (tgt := 26) dX4_copyNumbers_5 rfl (by decide) (by omega) (by omega) (fun h5 => ?_) (fun h5 => ?_)
      · have h6 : k = n2 := by omega
        subst h6
        refine r_retv dX4_copyNumbers_26 rfl ?_
        exact ⟨rfl, rfl⟩
      · refine r_iload_n (pc2 := 9) dX4_copyNumbers_8 rfl rfl ?_
        refine r_aload_n (pc2 := 10) dX4_copyNumbers_9 rfl rfl ?_
        refine r_alen (pc2 := 11) dX4_copyNumbers_10 rfl (by decide) (by assumption) (by assumption) ?_
        refine r_icmp_ge (pc2 := 14) (tgt := 26) dX4_copyNumbers_11 rfl (by decide) (by omega) (by omega) (fun h11 => ?_) (fun h11 => ?_)
        · exfalso
          omega
        · refine r_aload_n (pc2 := 15) dX4_copyNumbers_14 rfl rfl ?_
          refine r_iload_n (pc2 := 16) dX4_copyNumbers_15 rfl rfl ?_
          refine r_aload_n (pc2 := 17) dX4_copyNumbers_16 rfl rfl ?_
          refine r_iload_n (pc2 := 18) dX4_copyNumbers_17 rfl rfl ?_
          refine r_iald (pc2 := 19) dX4_copyNumbers_18 rfl (by decide) (by assumption) (by assumption) (by omega) (by omega) (by omega) ?_
          refine r_iast (pc2 := 20) dX4_copyNumbers_19 rfl (by assumption) (by assumption) (by omega) (by omega) (by omega) ?_
          rw [wst_wst, preF_step hk0.1]
          refine r_iinc_2 (pc2 := 23) dX4_copyNumbers_20 rfl rfl ?_
          refine r_goto (tgt := 2) dX4_copyNumbers_23 (by decide) ?_
          exact ih (k + 1) (by omega)
  refine r_iconst (pc2 := 1) dX4_copyNumbers_0 rfl ?_
  refine r_ist_2 (pc2 := 2) dX4_copyNumbers_1 rfl rfl ?_
  have := loop (n2 + 1) 0 (by omega)
  rw [preF_0, wst_id h2w] at this
  exact this

set_option maxHeartbeats 4000000 in
theorem c_putSlices (w : av_W) (a ca sa : Nat) (v p sh ln pr gd co : Int) (c s : Nat → Int) (hC : Cd w a ca sa v p sh ln pr gd co c s) (hK : KR v p sh ln) (b : Nat) (f : Nat → Int) (hb : b < w.1) (hbw : w.2.2 b = arO 6 f) (hbs : b ≠ sa) : fn MX0_putSlices [.ref a, .ref b] w none (wst w sa (arO 6 (preF 6 f s))) := by
  obtain ⟨⟨ha, hw⟩, ⟨hca, hcw⟩, ⟨hsa, hsw⟩, hne1, hne2, hne3⟩ := id hC
  obtain ⟨hv, hp, hsh, hln⟩ := id hK
  try unfold RG at *
  show rn MX0_putSlices 0 [some (.ref a), some (.ref b)] [] w _
  refine r_aload_n (pc2 := 1) dX0_putSlices_0 rfl rfl ?_
  refine r_aload_n (pc2 := 2) dX0_putSlices_1 rfl rfl ?_
  refine r_getf (pc2 := 5) dX0_putSlices_2 rfl fl_0_22 (by assumption) (by assumption) (by rfl) ?_
  refine r_calls_2 (pc2 := 8) dX0_putSlices_5 rfl rs_0_43 rfl (by decide) rfl (Nat.le_of_ble_eq_true rfl) (Nat.le_of_ble_eq_true rfl) (c_copyNumbers _ b sa 6 f s hb hbw hsa hsw hbs (by omega)) (fun r_ w_ h_ => ?_)
  obtain ⟨rfl, rfl⟩ := h_
  refine ⟨rfl, ?_⟩
  refine r_retv dX0_putSlices_8 rfl ?_
  exact ⟨rfl, rfl⟩
end
section
/-! the class's Card: more loops -/
def SR (s : Nat → Int) : Prop := ∀ j, j < 6 → 0 ≤ s j ∧ s j ≤ 3
def cnS (p : Int) (s : Nat → Int) (x : Int) : Int := sm p.toNat (fun j => bz (s j = x))
def hg : Nat → (Nat → Int) → Int
  | 0, _ => 0
  | n + 1, s => max (hg n s) (s n)
theorem hg_step {k : Int} (hk : 0 ≤ k) (s : Nat → Int) : hg (k + 1).toNat s = max (hg k.toNat s) (s k.toNat) := by
  rw [show (k + 1).toNat = k.toNat + 1 by omega]
  rfl
theorem hg_rg {s : Nat → Int} (n : Nat) (hn : n ≤ 6) (h : SR s) : 0 ≤ hg n s ∧ hg n s ≤ 3 := by
  induction n with
  | zero => simp [hg]
  | succ n ih =>
    have h1 := ih (by omega)
    have h2 := h n (by omega)
    show 0 ≤ max (hg n s) (s n) ∧ max (hg n s) (s n) ≤ 3
    omega
theorem cnS_rg {p x : Int} {s : Nat → Int} (hp : 2 ≤ p ∧ p ≤ 6) : 0 ≤ cnS p s x ∧ cnS p s x ≤ 6 := by
  have h := sm_rg (n := p.toNat) (f := fun j => bz (s j = x)) (L := 0) (H := 1) (fun j _ => bz_rg)
  unfold cnS
  rw [tn (by omega)] at h
  omega

set_option maxHeartbeats 4000000 in
theorem c_viewDueI (w : av_W) (a ca sa : Nat) (v p sh ln pr gd co : Int) (c s : Nat → Int) (hC : Cd w a ca sa v p sh ln pr gd co c s) (hK : KR v p sh ln) (x : Int) (hx : 0 ≤ x ∧ x ≤ 5) : fn MX0_viewDue [.ref a, .int (iN x)] w (some (.int (iN (s x.toNat)))) w := by
  obtain ⟨⟨ha, hw⟩, ⟨hca, hcw⟩, ⟨hsa, hsw⟩, hne1, hne2, hne3⟩ := id hC
  obtain ⟨hv, hp, hsh, hln⟩ := id hK
  try unfold RG at *
  show rn MX0_viewDue 0 [some (.ref a), some (.int (iN x))] [] w _
  refine r_iload_n (pc2 := 1) dX0_viewDue_0 rfl rfl ?_
  refine r_if_lt (pc2 := 4) (tgt := 10) dX0_viewDue_1 rfl (by decide) (by omega) (fun h1 => ?_) (fun h1 => ?_)
  · refine r_iconst (pc2 := 11) dX0_viewDue_10 rfl ?_
    refine r_ret dX0_viewDue_11 rfl ?_
    first | exact ⟨rfl, rfl⟩ | (exfalso; omega)
  · refine r_iload_n (pc2 := 5) dX0_viewDue_4 rfl rfl ?_
    refine r_bipush (pc2 := 7) dX0_viewDue_5 rfl (by decide) ?_
    refine r_icmp_lt (pc2 := 10) (tgt := 12) dX0_viewDue_7 rfl (by decide) (by omega) (by omega) (fun h7 => ?_) (fun h7 => ?_)
    · refine r_aload_n (pc2 := 13) dX0_viewDue_12 rfl rfl ?_
      refine r_getf (pc2 := 16) dX0_viewDue_13 rfl fl_0_22 (by assumption) (by assumption) (by rfl) ?_
      refine r_iload_n (pc2 := 17) dX0_viewDue_16 rfl rfl ?_
      refine r_iald (pc2 := 18) dX0_viewDue_17 rfl (by decide) (by assumption) (by assumption) (by omega) (by omega) (by omega) ?_
      refine r_ret dX0_viewDue_18 rfl ?_
      first | exact ⟨rfl, rfl⟩ | (exfalso; omega)
    · refine r_iconst (pc2 := 11) dX0_viewDue_10 rfl ?_
      refine r_ret dX0_viewDue_11 rfl ?_
      first | exact ⟨rfl, rfl⟩ | (exfalso; omega)

set_option maxHeartbeats 4000000 in
theorem c_startSlices (w : av_W) (a ca sa : Nat) (v p sh ln pr gd co : Int) (c s : Nat → Int) (hC : Cd w a ca sa v p sh ln pr gd co c s) (hK : KR v p sh ln) : fn MX0_startSlices [.ref a] w none (wst w sa (arO 6 (preF 6 (fun _ => 0) s))) := by
  obtain ⟨⟨ha, hw⟩, ⟨hca, hcw⟩, ⟨hsa, hsw⟩, hne1, hne2, hne3⟩ := id hC
  obtain ⟨hv, hp, hsh, hln⟩ := id hK
  try unfold RG at *
  show rn MX0_startSlices 0 [some (.ref a), none] [] w (fun r' w' => r' = none ∧ w' = (wst w sa (arO 6 (preF 6 (fun _ => 0) s))))
  have loop : ∀ (n : Nat) (k : Int), (0 ≤ k ∧ k ≤ 6 ∧ 7 ≤ k + n) → rn MX0_startSlices 2 [some (.ref a), some (.int (iN k))] [] (wst w sa (arO 6 (preF k (fun _ => 0) s))) (fun r' w' => r' = none ∧ w' = (wst w sa (arO 6 (preF 6 (fun _ => 0) s)))) := by
    intro n
    induction n with
    | zero =>
      intro k hk0
      exfalso
      omega
    | succ n ih =>
      intro k hk0
      obtain ⟨⟨hqa, hqw⟩, -, ⟨hqs, hqz⟩, -⟩ := (hC.slc (preF k (fun _ => 0) s))
      refine r_iload_n (pc2 := 3) dX0_startSlices_2 rfl rfl ?_
      refine r_bipush (pc2 := 5) dX0_startSlices_3 rfl (by decide) ?_
      refine r_icmp_ge (pc2 := 8) (tgt := 21) dX0_startSlices_5 rfl (by decide) (by omega) (by omega) (fun h5 => ?_) (fun h5 => ?_)
      · have h6 : k = 6 := by omega
        subst h6
        refine r_retv dX0_startSlices_21 rfl ?_
        exact ⟨rfl, rfl⟩
      · refine r_aload_n (pc2 := 9) dX0_startSlices_8 rfl rfl ?_
        refine r_getf (pc2 := 12) dX0_startSlices_9 rfl fl_0_22 (by assumption) (by assumption) (by rfl) ?_
        refine r_iload_n (pc2 := 13) dX0_startSlices_12 rfl rfl ?_
        refine r_iconst (pc2 := 14) dX0_startSlices_13 rfl ?_
        refine r_iast (pc2 := 15) dX0_startSlices_14 rfl (by assumption) (by assumption) (by omega) (by omega) (by omega) ?_
        rw [wst_wst, preF_step hk0.1 (fun _ => 0) s]
        refine r_iinc_1 (pc2 := 18) dX0_startSlices_15 rfl rfl ?_
        refine r_goto (tgt := 2) dX0_startSlices_18 (by decide) ?_
        exact ih (k + 1) (by omega)
  refine r_iconst (pc2 := 1) dX0_startSlices_0 rfl ?_
  refine r_ist_1 (pc2 := 2) dX0_startSlices_1 rfl rfl ?_
  have := loop 7 0 (by omega)
  rw [preF_0, wst_id hsw] at this
  exact this

set_option maxHeartbeats 4000000 in
theorem c_slicesShowing (w : av_W) (a ca sa : Nat) (v p sh ln pr gd co : Int) (c s : Nat → Int) (hC : Cd w a ca sa v p sh ln pr gd co c s) (hK : KR v p sh ln) (hS : SR s) (x : Int) (hx : RG x) : fn MX0_slicesShowing [.ref a, .int (iN x)] w (some (.int (iN (cnS p s x)))) w := by
  obtain ⟨⟨ha, hw⟩, ⟨hca, hcw⟩, ⟨hsa, hsw⟩, hne1, hne2, hne3⟩ := id hC
  obtain ⟨hv, hp, hsh, hln⟩ := id hK
  try unfold RG at *
  show rn MX0_slicesShowing 0 [some (.ref a), some (.int (iN x)), none, none] [] w (fun r' w' => r' = (some (.int (iN (cnS p s x)))) ∧ w' = w)
  have loop : ∀ (n : Nat) (k : Int) (m : Int), (0 ≤ k ∧ k ≤ p ∧ p + 1 ≤ k + n) → (m = sm k.toNat (fun j => bz (s j = x))) → rn MX0_slicesShowing 4 [some (.ref a), some (.int (iN x)), some (.int (iN m)), some (.int (iN k))] [] w (fun r' w' => r' = (some (.int (iN (cnS p s x)))) ∧ w' = w) := by
    intro n
    induction n with
    | zero =>
      intro k m hk0 hk1
      exfalso
      omega
    | succ n ih =>
      intro k m hk0 hk1
      refine r_iload_n (pc2 := 5) dX0_slicesShowing_4 rfl rfl ?_
      refine r_aload_n (pc2 := 6) dX0_slicesShowing_5 rfl rfl ?_
      refine r_getf (pc2 := 9) dX0_slicesShowing_6 rfl fl_0_19 (by assumption) (by assumption) (by rfl) ?_
      refine r_icmp_ge (pc2 := 12) (tgt := 30) dX0_slicesShowing_9 rfl (by decide) (by omega) (by omega) (fun h9 => ?_) (fun h9 => ?_)
      · have h6 : k = p := by omega
        subst h6
        refine r_iload_n (pc2 := 31) dX0_slicesShowing_30 rfl rfl ?_
        refine r_ret dX0_slicesShowing_31 rfl ?_
        exact ⟨by rw [hk1]; rfl, rfl⟩
      · refine r_aload_n (pc2 := 13) dX0_slicesShowing_12 rfl rfl ?_
        refine r_iload_n (pc2 := 14) dX0_slicesShowing_13 rfl rfl ?_
        refine r_callv_1 (pc2 := 17) dX0_slicesShowing_14 rfl rs_0_63 rfl (by decide) rfl (Nat.le_of_ble_eq_true rfl) (Nat.le_of_ble_eq_true rfl) (by assumption) (by assumption) (c_viewDueI _ a ca sa v p sh ln pr gd co _ _ hC hK k (by omega)) (fun r_ w_ h_ => ?_)
        obtain ⟨rfl, rfl⟩ := h_
        refine ⟨rfl, ?_⟩
        have hsk := hS k.toNat (by omega)
        refine r_iload_n (pc2 := 18) dX0_slicesShowing_17 rfl rfl ?_
        refine r_icmp_ne (pc2 := 21) (tgt := 24) dX0_slicesShowing_18 rfl (by decide) (by omega) (by omega) (fun h18 => ?_) (fun h18 => ?_)
        · have hb : bz (s k.toNat = x) = 0 := bz_f h18
          rw [show m = m + 0 by omega]
          refine r_iinc_3 (pc2 := 27) dX0_slicesShowing_24 rfl rfl ?_
          refine r_goto (tgt := 4) dX0_slicesShowing_27 (by decide) ?_
          exact ih (k + 1) _ (by omega) (by rw [sm_step hk0.1, ← hk1, hb])
        · have hb : bz (s k.toNat = x) = 1 := bz_t h18
          refine r_iinc_2 (pc2 := 24) dX0_slicesShowing_21 rfl rfl ?_
          refine r_iinc_3 (pc2 := 27) dX0_slicesShowing_24 rfl rfl ?_
          refine r_goto (tgt := 4) dX0_slicesShowing_27 (by decide) ?_
          exact ih (k + 1) _ (by omega) (by rw [sm_step hk0.1, ← hk1, hb])
  refine r_iconst (pc2 := 1) dX0_slicesShowing_0 rfl ?_
  refine r_ist_2 (pc2 := 2) dX0_slicesShowing_1 rfl rfl ?_
  refine r_iconst (pc2 := 3) dX0_slicesShowing_2 rfl ?_
  refine r_ist_3 (pc2 := 4) dX0_slicesShowing_3 rfl rfl ?_
  exact loop (p.toNat + 1) 0 0 (by omega) rfl

set_option maxHeartbeats 4000000 in
theorem c_showsEachView (w : av_W) (a ca sa : Nat) (v p sh ln pr gd co : Int) (c s : Nat → Int) (hC : Cd w a ca sa v p sh ln pr gd co c s) (hK : KR v p sh ln) (hS : SR s) : fn MX0_showsEachView [.ref a] w (some (.int (iN (bz (∀ y : Nat, y < v.toNat → cnS p s y ≠ 0))))) w := by
  obtain ⟨⟨ha, hw⟩, ⟨hca, hcw⟩, ⟨hsa, hsw⟩, hne1, hne2, hne3⟩ := id hC
  obtain ⟨hv, hp, hsh, hln⟩ := id hK
  try unfold RG at *
  show rn MX0_showsEachView 0 [some (.ref a), none] [] w (fun r' w' => r' = (some (.int (iN (bz (∀ y : Nat, y < v.toNat → cnS p s y ≠ 0))))) ∧ w' = w)
  have loop : ∀ (n : Nat) (k : Int), (0 ≤ k ∧ k ≤ v ∧ v + 1 ≤ k + n) → (∀ y : Nat, (y : Int) < k → cnS p s y ≠ 0) → rn MX0_showsEachView 2 [some (.ref a), some (.int (iN k))] [] w (fun r' w' => r' = (some (.int (iN (bz (∀ y : Nat, y < v.toNat → cnS p s y ≠ 0))))) ∧ w' = w) := by
    intro n
    induction n with
    | zero =>
      intro k hk0 hk1
      exfalso
      omega
    | succ n ih =>
      intro k hk0 hk1
      refine r_iload_n (pc2 := 3) dX0_showsEachView_2 rfl rfl ?_
      refine r_aload_n (pc2 := 4) dX0_showsEachView_3 rfl rfl ?_
      refine r_getf (pc2 := 7) dX0_showsEachView_4 rfl fl_0_9 (by assumption) (by assumption) (by rfl) ?_
      refine r_icmp_ge (pc2 := 10) (tgt := 26) dX0_showsEachView_7 rfl (by decide) (by omega) (by omega) (fun h7 => ?_) (fun h7 => ?_)
      · refine r_iconst (pc2 := 27) dX0_showsEachView_26 rfl ?_
        refine r_retb dX0_showsEachView_27 rfl (by first | exact Or.inl rfl | exact Or.inr rfl | exact bz_01) ?_
        exact ⟨by rw [bz_t (fun y hy => hk1 y (by omega))], rfl⟩
      · refine r_aload_n (pc2 := 11) dX0_showsEachView_10 rfl rfl ?_
        refine r_iload_n (pc2 := 12) dX0_showsEachView_11 rfl rfl ?_
        refine r_callv_1 (pc2 := 15) dX0_showsEachView_12 rfl rs_0_67 rfl (by decide) rfl (Nat.le_of_ble_eq_true rfl) (Nat.le_of_ble_eq_true rfl) (by assumption) (by assumption) (c_slicesShowing _ a ca sa v p sh ln pr gd co _ _ hC hK hS k (by unfold RG; omega)) (fun r_ w_ h_ => ?_)
        obtain ⟨rfl, rfl⟩ := h_
        refine ⟨rfl, ?_⟩
        have hcn := cnS_rg (s := s) (x := k) hp
        refine r_if_ne (pc2 := 18) (tgt := 20) dX0_showsEachView_15 rfl (by decide) (by omega) (fun h15 => ?_) (fun h15 => ?_)
        · refine r_iinc_1 (pc2 := 23) dX0_showsEachView_20 rfl rfl ?_
          refine r_goto (tgt := 2) dX0_showsEachView_23 (by decide) ?_
          exact ih (k + 1) (by omega) (fun y hy => by
            by_cases hyk : (y : Int) = k
            · rw [hyk]; exact h15
            · exact hk1 y (by omega))
        · refine r_iconst (pc2 := 19) dX0_showsEachView_18 rfl ?_
          refine r_retb dX0_showsEachView_19 rfl (by first | exact Or.inl rfl | exact Or.inr rfl | exact bz_01) ?_
          exact ⟨by rw [bz_f (fun q => q k.toNat (by omega) (by rw [tn hk0.1]; exact h15))], rfl⟩
  refine r_iconst (pc2 := 1) dX0_showsEachView_0 rfl ?_
  refine r_ist_1 (pc2 := 2) dX0_showsEachView_1 rfl rfl ?_
  exact loop (v.toNat + 1) 0 (by omega) (fun y hy => by omega)

set_option maxHeartbeats 4000000 in
theorem c_hasSlices (w : av_W) (a ca sa : Nat) (v p sh ln pr gd co : Int) (c s : Nat → Int) (hC : Cd w a ca sa v p sh ln pr gd co c s) (hK : KR v p sh ln) (hS : SR s) (b : Nat) (f : Nat → Int) (hb : b < w.1) (hbw : w.2.2 b = arO 6 f) (hF : ∀ j, j < 6 → 0 ≤ f j ∧ f j ≤ 3) : fn MX0_hasSlices [.ref a, .ref b] w (some (.int (iN (bz (∀ j : Nat, j < p.toNat → s j = f j))))) w := by
  obtain ⟨⟨ha, hw⟩, ⟨hca, hcw⟩, ⟨hsa, hsw⟩, hne1, hne2, hne3⟩ := id hC
  obtain ⟨hv, hp, hsh, hln⟩ := id hK
  try unfold RG at *
  show rn MX0_hasSlices 0 [some (.ref a), some (.ref b), none] [] w (fun r' w' => r' = (some (.int (iN (bz (∀ j : Nat, j < p.toNat → s j = f j))))) ∧ w' = w)
  have loop : ∀ (n : Nat) (k : Int), (0 ≤ k ∧ k ≤ p ∧ p + 1 ≤ k + n) → (∀ j : Nat, (j : Int) < k → s j = f j) → rn MX0_hasSlices 2 [some (.ref a), some (.ref b), some (.int (iN k))] [] w (fun r' w' => r' = (some (.int (iN (bz (∀ j : Nat, j < p.toNat → s j = f j))))) ∧ w' = w) := by
    intro n
    induction n with
    | zero =>
      intro k hk0 hk1
      exfalso
      omega
    | succ n ih =>
      intro k hk0 hk1
      refine r_iload_n (pc2 := 3) dX0_hasSlices_2 rfl rfl ?_
      refine r_aload_n (pc2 := 4) dX0_hasSlices_3 rfl rfl ?_
      refine r_getf (pc2 := 7) dX0_hasSlices_4 rfl fl_0_19 (by assumption) (by assumption) (by rfl) ?_
      refine r_icmp_ge (pc2 := 10) (tgt := 35) dX0_hasSlices_7 rfl (by decide) (by omega) (by omega) (fun h7 => ?_) (fun h7 => ?_)
      · refine r_iconst (pc2 := 36) dX0_hasSlices_35 rfl ?_
        refine r_retb dX0_hasSlices_36 rfl (by first | exact Or.inl rfl | exact Or.inr rfl | exact bz_01) ?_
        exact ⟨by rw [bz_t (fun j hj => hk1 j (by omega))], rfl⟩
      · refine r_iload_n (pc2 := 11) dX0_hasSlices_10 rfl rfl ?_
        refine r_aload_n (pc2 := 12) dX0_hasSlices_11 rfl rfl ?_
        refine r_alen (pc2 := 13) dX0_hasSlices_12 rfl (by decide) (by assumption) (by assumption) ?_
        refine r_icmp_ge (pc2 := 16) (tgt := 35) dX0_hasSlices_13 rfl (by decide) (by omega) (by omega) (fun h13 => ?_) (fun h13 => ?_)
        · exfalso
          omega
        · refine r_aload_n (pc2 := 17) dX0_hasSlices_16 rfl rfl ?_
          refine r_iload_n (pc2 := 18) dX0_hasSlices_17 rfl rfl ?_
          refine r_callv_1 (pc2 := 21) dX0_hasSlices_18 rfl rs_0_63 rfl (by decide) rfl (Nat.le_of_ble_eq_true rfl) (Nat.le_of_ble_eq_true rfl) (by assumption) (by assumption) (c_viewDueI _ a ca sa v p sh ln pr gd co _ _ hC hK k (by omega)) (fun r_ w_ h_ => ?_)
          obtain ⟨rfl, rfl⟩ := h_
          refine ⟨rfl, ?_⟩
          refine r_aload_n (pc2 := 22) dX0_hasSlices_21 rfl rfl ?_
          refine r_iload_n (pc2 := 23) dX0_hasSlices_22 rfl rfl ?_
          refine r_iald (pc2 := 24) dX0_hasSlices_23 rfl (by decide) (by assumption) (by assumption) (by omega) (by omega) (by omega) ?_
          have hsk := hS k.toNat (by omega)
          have hfk := hF k.toNat (by omega)
          refine r_icmp_eq (pc2 := 27) (tgt := 29) dX0_hasSlices_24 rfl (by decide) (by omega) (by omega) (fun h24 => ?_) (fun h24 => ?_)
          · refine r_iinc_2 (pc2 := 32) dX0_hasSlices_29 rfl rfl ?_
            refine r_goto (tgt := 2) dX0_hasSlices_32 (by decide) ?_
            exact ih (k + 1) (by omega) (fun j hj => by
              by_cases hjk : j = k.toNat
              · rw [hjk]; exact h24
              · exact hk1 j (by omega))
          · refine r_iconst (pc2 := 28) dX0_hasSlices_27 rfl ?_
            refine r_retb dX0_hasSlices_28 rfl (by first | exact Or.inl rfl | exact Or.inr rfl | exact bz_01) ?_
            exact ⟨by rw [bz_f (fun q => h24 (q k.toNat (by omega)))], rfl⟩
  refine r_iconst (pc2 := 1) dX0_hasSlices_0 rfl ?_
  refine r_ist_2 (pc2 := 2) dX0_hasSlices_1 rfl rfl ?_
  exact loop (p.toNat + 1) 0 (by omega) (fun j hj => by omega)

set_option maxHeartbeats 4000000 in
theorem c_highest (w : av_W) (a ca sa : Nat) (v p sh ln pr gd co : Int) (c s : Nat → Int) (hC : Cd w a ca sa v p sh ln pr gd co c s) (hK : KR v p sh ln) (hS : SR s) (x : Int) (hx : 0 ≤ x ∧ x ≤ 6) : fn MX0_highestViewBefore [.ref a, .int (iN x)] w (some (.int (iN (hg x.toNat s)))) w := by
  obtain ⟨⟨ha, hw⟩, ⟨hca, hcw⟩, ⟨hsa, hsw⟩, hne1, hne2, hne3⟩ := id hC
  obtain ⟨hv, hp, hsh, hln⟩ := id hK
  try unfold RG at *
  show rn MX0_highestViewBefore 0 [some (.ref a), some (.int (iN x)), none, none] [] w (fun r' w' => r' = (some (.int (iN (hg x.toNat s)))) ∧ w' = w)
  have loop : ∀ (n : Nat) (k : Int) (m : Int), (0 ≤ k ∧ k ≤ x ∧ x + 1 ≤ k + n) → (m = hg k.toNat s) → rn MX0_highestViewBefore 4 [some (.ref a), some (.int (iN x)), some (.int (iN m)), some (.int (iN k))] [] w (fun r' w' => r' = (some (.int (iN (hg x.toNat s)))) ∧ w' = w) := by
    intro n
    induction n with
    | zero =>
      intro k m hk0 hk1
      exfalso
      omega
    | succ n ih =>
      intro k m hk0 hk1
      refine r_iload_n (pc2 := 5) dX0_highestViewBefore_4 rfl rfl ?_
      refine r_iload_n (pc2 := 6) dX0_highestViewBefore_5 rfl rfl ?_
      refine r_icmp_ge (pc2 := 9) (tgt := 25) dX0_highestViewBefore_6 rfl (by decide) (by omega) (by omega) (fun h6 => ?_) (fun h6 => ?_)
      · have h6 : k = x := by omega
        subst h6
        refine r_iload_n (pc2 := 26) dX0_highestViewBefore_25 rfl rfl ?_
        refine r_ret dX0_highestViewBefore_26 rfl ?_
        exact ⟨by rw [hk1], rfl⟩
      · refine r_iload_n (pc2 := 10) dX0_highestViewBefore_9 rfl rfl ?_
        refine r_aload_n (pc2 := 11) dX0_highestViewBefore_10 rfl rfl ?_
        refine r_iload_n (pc2 := 12) dX0_highestViewBefore_11 rfl rfl ?_
        refine r_callv_1 (pc2 := 15) dX0_highestViewBefore_12 rfl rs_0_63 rfl (by decide) rfl (Nat.le_of_ble_eq_true rfl) (Nat.le_of_ble_eq_true rfl) (by assumption) (by assumption) (c_viewDueI _ a ca sa v p sh ln pr gd co _ _ hC hK k (by omega)) (fun r_ w_ h_ => ?_)
        obtain ⟨rfl, rfl⟩ := h_
        refine ⟨rfl, ?_⟩
        have hsk := hS k.toNat (by omega)
        have hmk := hg_rg k.toNat (by omega) hS
        rw [← hk1] at hmk
        refine r_mm (pc2 := 18) dX0_highestViewBefore_15 rfl mr_0_77 mm_0_77 (by decide) (Nat.le_of_ble_eq_true rfl) (by omega) (by omega) ?_
        refine r_ist_2 (pc2 := 19) dX0_highestViewBefore_18 rfl rfl ?_
        refine r_iinc_3 (pc2 := 22) dX0_highestViewBefore_19 rfl rfl ?_
        refine r_goto (tgt := 4) dX0_highestViewBefore_22 (by decide) ?_
        exact ih (k + 1) _ (by omega) (by rw [hg_step hk0.1, ← hk1]; rfl)
  refine r_iconst (pc2 := 1) dX0_highestViewBefore_0 rfl ?_
  refine r_ist_2 (pc2 := 2) dX0_highestViewBefore_1 rfl rfl ?_
  refine r_iconst (pc2 := 3) dX0_highestViewBefore_2 rfl ?_
  refine r_ist_3 (pc2 := 4) dX0_highestViewBefore_3 rfl rfl ?_
  exact loop (x.toNat + 1) 0 0 (by omega) rfl

def okN (v : Int) (s : Nat → Int) (i : Nat) : Prop := s i + 1 < v ∧ s i + 1 ≤ hg i s + 1
def nxF (p : Int) (s : Nat → Int) (i : Nat) (k : Int) : Nat → Int := fun j => if j = i then s i + 1 else if (i : Int) < (j : Int) ∧ (j : Int) < k then 0 else s j
theorem nxF_0 (p : Int) (s : Nat → Int) (i : Nat) : updZ s i (s i + 1) = nxF p s i (i + 1) := by
  funext j
  unfold updZ nxF
  by_cases h : j = i
  · rw [if_pos h, if_pos h]
  · rw [if_neg h, if_neg h, if_neg (by omega)]
theorem nxF_step {p k : Int} {s : Nat → Int} {i : Nat} (h : (i : Int) < k) : updZ (nxF p s i k) k.toNat 0 = nxF p s i (k + 1) := by
  funext j
  unfold updZ nxF
  by_cases h1 : j = k.toNat
  · subst h1
    rw [if_pos rfl, if_neg (by omega), if_pos (by omega)]
  · rw [if_neg h1]
    by_cases h2 : j = i
    · rw [if_pos h2, if_pos h2]
    · rw [if_neg h2, if_neg h2]
      by_cases h3 : (i : Int) < (j : Int) ∧ (j : Int) < k
      · rw [if_pos h3, if_pos (by omega)]
      · rw [if_neg h3, if_neg (by omega)]

set_option maxHeartbeats 4000000 in
theorem c_nextSlices (w : av_W) (a ca sa : Nat) (v p sh ln pr gd co : Int) (c s : Nat → Int) (hC : Cd w a ca sa v p sh ln pr gd co c s) (hK : KR v p sh ln) (hS : SR s) : cl MX0_nextSlices [.ref a] w (fun r' w' => (∃ i : Nat, 1 ≤ i ∧ (i : Int) < p ∧ okN v s i ∧ (∀ j : Nat, i < j → (j : Int) < p → ¬ okN v s j) ∧ r' = some (.int (iN 1)) ∧ w' = wst w sa (arO 6 (nxF p s i p))) ∨ ((∀ j : Nat, 1 ≤ j → (j : Int) < p → ¬ okN v s j) ∧ r' = some (.int (iN 0)) ∧ w' = w)) := by
  obtain ⟨⟨ha, hw⟩, ⟨hca, hcw⟩, ⟨hsa, hsw⟩, hne1, hne2, hne3⟩ := id hC
  obtain ⟨hv, hp, hsh, hln⟩ := id hK
  try unfold RG at *
  show rn MX0_nextSlices 0 [some (.ref a), none, none, none] [] w (fun r' w' => (∃ i : Nat, 1 ≤ i ∧ (i : Int) < p ∧ okN v s i ∧ (∀ j : Nat, i < j → (j : Int) < p → ¬ okN v s j) ∧ r' = some (.int (iN 1)) ∧ w' = wst w sa (arO 6 (nxF p s i p))) ∨ ((∀ j : Nat, 1 ≤ j → (j : Int) < p → ¬ okN v s j) ∧ r' = some (.int (iN 0)) ∧ w' = w))
  have loop2 : ∀ (n : Nat) (i : Nat) (x : Int) (k : Int), (((i : Int) + 1 ≤ k ∧ k ≤ p) ∧ p + 1 ≤ k + n) → (1 ≤ i ∧ (i : Int) < p) → (okN v s i) → (∀ j : Nat, i < j → (j : Int) < p → ¬ okN v s j) → rn MX0_nextSlices 48 [some (.ref a), some (.int (iN i)), some (.int (iN x)), some (.int (iN k))] [] (wst w sa (arO 6 (nxF p s i k))) (fun r' w' => (∃ i : Nat, 1 ≤ i ∧ (i : Int) < p ∧ okN v s i ∧ (∀ j : Nat, i < j → (j : Int) < p → ¬ okN v s j) ∧ r' = some (.int (iN 1)) ∧ w' = wst w sa (arO 6 (nxF p s i p))) ∨ ((∀ j : Nat, 1 ≤ j → (j : Int) < p → ¬ okN v s j) ∧ r' = some (.int (iN 0)) ∧ w' = w)) := by
    intro n
    induction n with
    | zero =>
      intro i x k hk0 hk1 hk2 hk3
      exfalso
      omega
    | succ n ih =>
      intro i x k hk0 hk1 hk2 hk3
      obtain ⟨⟨hqa, hqw⟩, -, ⟨hqs, hqz⟩, -⟩ := (hC.slc (nxF p s i k))
      refine r_iload_n (pc2 := 49) dX0_nextSlices_48 rfl rfl ?_
      refine r_aload_n (pc2 := 50) dX0_nextSlices_49 rfl rfl ?_
      refine r_getf (pc2 := 53) dX0_nextSlices_50 rfl fl_0_19 (by assumption) (by assumption) (by rfl) ?_
      refine r_icmp_ge (pc2 := 56) (tgt := 68) dX0_nextSlices_53 rfl (by decide) (by omega) (by omega) (fun h53 => ?_) (fun h53 => ?_)
      · have h6 : k = p := by omega
        subst h6
        refine r_iconst (pc2 := 69) dX0_nextSlices_68 rfl ?_
        refine r_retb dX0_nextSlices_69 rfl (by first | exact Or.inl rfl | exact Or.inr rfl | exact bz_01) ?_
        exact Or.inl ⟨i, hk1.1, hk1.2, hk2, hk3, rfl, rfl⟩
      · refine r_aload_n (pc2 := 57) dX0_nextSlices_56 rfl rfl ?_
        refine r_iload_n (pc2 := 58) dX0_nextSlices_57 rfl rfl ?_
        refine r_iconst (pc2 := 59) dX0_nextSlices_58 rfl ?_
        refine r_callv_2 (pc2 := 62) dX0_nextSlices_59 rfl rs_0_73 rfl (by decide) rfl (Nat.le_of_ble_eq_true rfl) (Nat.le_of_ble_eq_true rfl) (by assumption) (by assumption) (c_putSlice _ a ca sa v p sh ln pr gd co _ _ (hC.slc (nxF p s i k)) hK k 0 (by omega)) (fun r_ w_ h_ => ?_)
        obtain ⟨rfl, rfl⟩ := h_
        refine ⟨rfl, ?_⟩
        rw [wst_wst, nxF_step (by omega)]
        refine r_iinc_3 (pc2 := 65) dX0_nextSlices_62 rfl rfl ?_
        refine r_goto (tgt := 48) dX0_nextSlices_65 (by decide) ?_
        exact ih i x (k + 1) (by omega) hk1 hk2 hk3
  have loop : ∀ (n : Nat) (k : Int) (b2 : Option Value) (b3 : Option Value), (0 ≤ k ∧ k ≤ p - 1 ∧ k + 1 ≤ n) → (∀ j : Nat, k < (j : Int) → (j : Int) < p → ¬ okN v s j) → rn MX0_nextSlices 7 [some (.ref a), some (.int (iN k)), b2, b3] [] w (fun r' w' => (∃ i : Nat, 1 ≤ i ∧ (i : Int) < p ∧ okN v s i ∧ (∀ j : Nat, i < j → (j : Int) < p → ¬ okN v s j) ∧ r' = some (.int (iN 1)) ∧ w' = wst w sa (arO 6 (nxF p s i p))) ∨ ((∀ j : Nat, 1 ≤ j → (j : Int) < p → ¬ okN v s j) ∧ r' = some (.int (iN 0)) ∧ w' = w)) := by
    intro n
    induction n with
    | zero =>
      intro k b2 b3 hk0 hk1
      exfalso
      omega
    | succ n ih =>
      intro k b2 b3 hk0 hk1
      refine r_iload_n (pc2 := 8) dX0_nextSlices_7 rfl rfl ?_
      refine r_if_le (pc2 := 11) (tgt := 76) dX0_nextSlices_8 rfl (by decide) (by omega) (fun h8 => ?_) (fun h8 => ?_)
      · refine r_iconst (pc2 := 77) dX0_nextSlices_76 rfl ?_
        refine r_retb dX0_nextSlices_77 rfl (by first | exact Or.inl rfl | exact Or.inr rfl | exact bz_01) ?_
        exact Or.inr ⟨fun j hj hjp => hk1 j (by omega) hjp, rfl, rfl⟩
      · refine r_aload_n (pc2 := 12) dX0_nextSlices_11 rfl rfl ?_
        refine r_iload_n (pc2 := 13) dX0_nextSlices_12 rfl rfl ?_
        refine r_callv_1 (pc2 := 16) dX0_nextSlices_13 rfl rs_0_63 rfl (by decide) rfl (Nat.le_of_ble_eq_true rfl) (Nat.le_of_ble_eq_true rfl) (by assumption) (by assumption) (c_viewDueI _ a ca sa v p sh ln pr gd co _ _ hC hK k (by omega)) (fun r_ w_ h_ => ?_)
        obtain ⟨rfl, rfl⟩ := h_
        refine ⟨rfl, ?_⟩
        have hsk := hS k.toNat (by omega)
        refine r_iconst (pc2 := 17) dX0_nextSlices_16 rfl ?_
        refine r_iadd (pc2 := 18) dX0_nextSlices_17 rfl ?_
        refine r_ist_2 (pc2 := 19) dX0_nextSlices_18 rfl rfl ?_
        refine r_iload_n (pc2 := 20) dX0_nextSlices_19 rfl rfl ?_
        refine r_aload_n (pc2 := 21) dX0_nextSlices_20 rfl rfl ?_
        refine r_getf (pc2 := 24) dX0_nextSlices_21 rfl fl_0_9 (by assumption) (by assumption) (by rfl) ?_
        refine r_icmp_ge (pc2 := 27) (tgt := 70) dX0_nextSlices_24 rfl (by decide) (by omega) (by omega) (fun h24 => ?_) (fun h24 => ?_)
        · have hnk : ¬ okN v s k.toNat := fun q => by have := q.1; omega
          refine r_iinc_1 (pc2 := 73) dX0_nextSlices_70 rfl rfl ?_
          refine r_goto (tgt := 7) dX0_nextSlices_73 (by decide) ?_
          have hno : ∀ j : Nat, k + (-1) < (j : Int) → (j : Int) < p → ¬ okN v s j := fun j hj hjp => by
            by_cases hjk : j = k.toNat
            · subst hjk
              exact hnk
            · exact hk1 j (by omega) hjp
          exact ih (k + (-1)) _ _ (by omega) hno
        · refine r_iload_n (pc2 := 28) dX0_nextSlices_27 rfl rfl ?_
          refine r_aload_n (pc2 := 29) dX0_nextSlices_28 rfl rfl ?_
          refine r_iload_n (pc2 := 30) dX0_nextSlices_29 rfl rfl ?_
          refine r_callv_1 (pc2 := 33) dX0_nextSlices_30 rfl rs_0_70 rfl (by decide) rfl (Nat.le_of_ble_eq_true rfl) (Nat.le_of_ble_eq_true rfl) (by assumption) (by assumption) (c_highest _ a ca sa v p sh ln pr gd co _ _ hC hK hS k (by omega)) (fun r_ w_ h_ => ?_)
          obtain ⟨rfl, rfl⟩ := h_
          refine ⟨rfl, ?_⟩
          have hmk := hg_rg k.toNat (by omega) hS
          refine r_iconst (pc2 := 34) dX0_nextSlices_33 rfl ?_
          refine r_iadd (pc2 := 35) dX0_nextSlices_34 rfl ?_
          refine r_icmp_gt (pc2 := 38) (tgt := 70) dX0_nextSlices_35 rfl (by decide) (by omega) (by omega) (fun h35 => ?_) (fun h35 => ?_)
          · have hnk : ¬ okN v s k.toNat := fun q => by have := q.2; omega
            refine r_iinc_1 (pc2 := 73) dX0_nextSlices_70 rfl rfl ?_
            refine r_goto (tgt := 7) dX0_nextSlices_73 (by decide) ?_
            have hno : ∀ j : Nat, k + (-1) < (j : Int) → (j : Int) < p → ¬ okN v s j := fun j hj hjp => by
              by_cases hjk : j = k.toNat
              · subst hjk
                exact hnk
              · exact hk1 j (by omega) hjp
            exact ih (k + (-1)) _ _ (by omega) hno
          · obtain ⟨⟨hqa, hqw⟩, -, ⟨hqs, hqz⟩, -⟩ := (hC.slc (updZ s k.toNat (s k.toNat + 1)))
            refine r_aload_n (pc2 := 39) dX0_nextSlices_38 rfl rfl ?_
            refine r_iload_n (pc2 := 40) dX0_nextSlices_39 rfl rfl ?_
            refine r_iload_n (pc2 := 41) dX0_nextSlices_40 rfl rfl ?_
            refine r_callv_2 (pc2 := 44) dX0_nextSlices_41 rfl rs_0_73 rfl (by decide) rfl (Nat.le_of_ble_eq_true rfl) (Nat.le_of_ble_eq_true rfl) (by assumption) (by assumption) (c_putSlice _ a ca sa v p sh ln pr gd co _ _ hC hK k _ (by omega)) (fun r_ w_ h_ => ?_)
            obtain ⟨rfl, rfl⟩ := h_
            refine ⟨rfl, ?_⟩
            refine r_iload_n (pc2 := 45) dX0_nextSlices_44 rfl rfl ?_
            refine r_iconst (pc2 := 46) dX0_nextSlices_45 rfl ?_
            refine r_iadd (pc2 := 47) dX0_nextSlices_46 rfl ?_
            refine r_ist_3 (pc2 := 48) dX0_nextSlices_47 rfl rfl ?_
            have h2 := loop2 (p.toNat + 1) k.toNat (s k.toNat + 1) (k + 1) (by omega) (by omega) ⟨by omega, by omega⟩ (fun j hj hjp => hk1 j (by omega) hjp)
            rw [tn hk0.1] at h2
            rw [nxF_0 p, tn hk0.1]
            exact h2
  refine r_aload_n (pc2 := 1) dX0_nextSlices_0 rfl rfl ?_
  refine r_getf (pc2 := 4) dX0_nextSlices_1 rfl fl_0_19 (by assumption) (by assumption) (by rfl) ?_
  refine r_iconst (pc2 := 5) dX0_nextSlices_4 rfl ?_
  refine r_isub (pc2 := 6) dX0_nextSlices_5 rfl ?_
  refine r_ist_1 (pc2 := 7) dX0_nextSlices_6 rfl rfl ?_
  exact loop (p.toNat + 1) (p - 1) _ _ (by omega) (fun j hj hjp => by omega)
end
section
/-! the class's Card: views come, go and change places; cards are copied -/
def cdW (w : av_W) (a ca sa : Nat) (E A B : av_E) : av_W := wst (wst (wst w a E) ca A) sa B
def exF (x y k : Int) (c : Nat → Int) : Nat → Int := fun j => if x * 12 ≤ (j : Int) ∧ (j : Int) < x * 12 + k then c ((j : Int) - x * 12 + y * 12).toNat else if y * 12 ≤ (j : Int) ∧ (j : Int) < y * 12 + k then c ((j : Int) - y * 12 + x * 12).toNat else c j
theorem exF_0 (x y : Int) (c : Nat → Int) : exF x y 0 c = c := by
  funext j
  unfold exF
  rw [if_neg (by omega), if_neg (by omega)]
theorem exF_step {x y k : Int} (c : Nat → Int) (hx : 0 ≤ x) (hy : 0 ≤ y) (hxy : x ≠ y) (hk : 0 ≤ k ∧ k < 12) : updZ (updZ (exF x y k c) (x * 12 + k).toNat (c (y * 12 + k).toNat)) (y * 12 + k).toNat (c (x * 12 + k).toNat) = exF x y (k + 1) c := by
  funext j
  unfold updZ exF
  by_cases h1 : j = (y * 12 + k).toNat
  · subst h1
    rw [if_pos rfl, if_neg (by omega), if_pos (by omega)]
    congr 1
    omega
  · rw [if_neg h1]
    by_cases h2 : j = (x * 12 + k).toNat
    · subst h2
      rw [if_pos rfl, if_pos (by omega)]
      congr 1
      omega
    · rw [if_neg h2]
      by_cases h3 : x * 12 ≤ (j : Int) ∧ (j : Int) < x * 12 + k
      · rw [if_pos h3, if_pos (by omega)]
      · rw [if_neg h3, if_neg (c := x * 12 ≤ (j : Int) ∧ (j : Int) < x * 12 + (k + 1)) (by omega)]
        by_cases h4 : y * 12 ≤ (j : Int) ∧ (j : Int) < y * 12 + k
        · rw [if_pos h4, if_pos (by omega)]
        · rw [if_neg h4, if_neg (by omega)]
theorem exF_at {x y k : Int} {c : Nat → Int} (hx : 0 ≤ x) (hy : 0 ≤ y) (hxy : x ≠ y) (hk : 0 ≤ k ∧ k < 12) : exF x y k c (x * 12 + k).toNat = c (x * 12 + k).toNat ∧ exF x y k c (y * 12 + k).toNat = c (y * 12 + k).toNat := by
  unfold exF
  constructor
  · rw [if_neg (by omega), if_neg (by omega)]
  · rw [if_neg (by omega), if_neg (by omega)]
def unF (x y : Int) (c : Nat → Int) : Nat → Int := fun j => bz (c (x * 12 + j).toNat ≠ c (y * 12 + j).toNat)
theorem colI_in {c : Nat → Int} {x y : Int} (hx : 0 ≤ x ∧ x ≤ 3) (hy : 0 ≤ y ∧ y ≤ 11) : colI c x y = c (x * 12 + y).toNat := if_pos ⟨hx, hy⟩

set_option maxHeartbeats 4000000 in
theorem c_appendView (w : av_W) (a ca sa : Nat) (v p sh ln pr gd co : Int) (c s : Nat → Int) (hC : Cd w a ca sa v p sh ln pr gd co c s) (hK : KR v p sh ln) (hv3 : v ≤ 3) : fn MX0_appendView [.ref a] w none (cdW w a ca sa (cdO ca sa (v + 1) p sh ln pr gd co) (arO 48 (rgF (v * 12) 12 (fun _ => 0) c)) (arO 6 (preF 6 (inT (v + 1)) s))) := by
  obtain ⟨⟨ha, hw⟩, ⟨hca, hcw⟩, ⟨hsa, hsw⟩, hne1, hne2, hne3⟩ := id hC
  obtain ⟨hv, hp, hsh, hln⟩ := id hK
  try unfold RG at *
  show rn MX0_appendView 0 [some (.ref a), none] [] w (fun r' w' => r' = none ∧ w' = (cdW w a ca sa (cdO ca sa (v + 1) p sh ln pr gd co) (arO 48 (rgF (v * 12) 12 (fun _ => 0) c)) (arO 6 (preF 6 (inT (v + 1)) s))))
  have loop : ∀ (n : Nat) (k : Int), (0 ≤ k ∧ k ≤ 12 ∧ 13 ≤ k + n) → rn MX0_appendView 2 [some (.ref a), some (.int (iN k))] [] (wst w ca (arO 48 (rgF (v * 12) k (fun _ => 0) c))) (fun r' w' => r' = none ∧ w' = (cdW w a ca sa (cdO ca sa (v + 1) p sh ln pr gd co) (arO 48 (rgF (v * 12) 12 (fun _ => 0) c)) (arO 6 (preF 6 (inT (v + 1)) s)))) := by
    intro n
    induction n with
    | zero =>
      intro k hk0
      exfalso
      omega
    | succ n ih =>
      intro k hk0
      obtain ⟨⟨hqa, hqw⟩, -⟩ := (hC.col (rgF (v * 12) k (fun _ => 0) c))
      refine r_iload_n (pc2 := 3) dX0_appendView_2 rfl rfl ?_
      refine r_bipush (pc2 := 5) dX0_appendView_3 rfl (by decide) ?_
      refine r_icmp_ge (pc2 := 8) (tgt := 24) dX0_appendView_5 rfl (by decide) (by omega) (by omega) (fun h5 => ?_) (fun h5 => ?_)
      · have h6 : k = 12 := by omega
        subst h6
        refine r_aload_n (pc2 := 25) dX0_appendView_24 rfl rfl ?_
        refine r_dup (pc2 := 26) dX0_appendView_25 rfl rfl ?_
        refine r_getf (pc2 := 29) dX0_appendView_26 rfl fl_0_9 (by assumption) (by assumption) (by rfl) ?_
        refine r_iconst (pc2 := 30) dX0_appendView_29 rfl ?_
        refine r_iadd (pc2 := 31) dX0_appendView_30 rfl ?_
        refine r_putf (pc2 := 34) dX0_appendView_31 rfl fl_0_9 (by assumption) (by assumption) (by exact Nat.le_of_ble_eq_true rfl) (by rfl) (by rfl) (by rfl) ?_
        show rn _ _ _ _ (wst _ a (cdO ca sa (v + 1) p sh ln pr gd co)) _
        have hC2 := (hC.col (rgF (v * 12) 12 (fun _ => 0) c)).obj (v + 1) p sh ln pr gd co
        obtain ⟨⟨hra, hrw⟩, -⟩ := id hC2
        refine r_aload_n (pc2 := 35) dX0_appendView_34 rfl rfl ?_
        refine r_callv_0 (pc2 := 38) dX0_appendView_35 rfl rs_0_40 rfl (by decide) rfl (Nat.le_of_ble_eq_true rfl) (Nat.le_of_ble_eq_true rfl) (by assumption) (by assumption) (c_resetSlices _ a ca sa (v + 1) p sh ln pr gd co _ _ hC2 ⟨by omega, hp, hsh, hln⟩) (fun r_ w_ h_ => ?_)
        obtain ⟨rfl, rfl⟩ := h_
        refine ⟨rfl, ?_⟩
        refine r_retv dX0_appendView_38 rfl ?_
        exact ⟨rfl, by unfold cdW; rw [wst_comm w _ _ (fun q => hne1 q.symm)]⟩
      · refine r_aload_n (pc2 := 9) dX0_appendView_8 rfl rfl ?_
        refine r_aload_n (pc2 := 10) dX0_appendView_9 rfl rfl ?_
        refine r_getf (pc2 := 13) dX0_appendView_10 rfl fl_0_9 (by assumption) (by assumption) (by rfl) ?_
        refine r_iload_n (pc2 := 14) dX0_appendView_13 rfl rfl ?_
        refine r_iconst (pc2 := 15) dX0_appendView_14 rfl ?_
        refine r_callv_3 (pc2 := 18) dX0_appendView_15 rfl rs_0_55 rfl (by decide) rfl (Nat.le_of_ble_eq_true rfl) (Nat.le_of_ble_eq_true rfl) (by assumption) (by assumption) (c_paint _ a ca sa v p sh ln pr gd co _ _ (hC.col (rgF (v * 12) k (fun _ => 0) c)) hK v k 0 (by omega) (by omega)) (fun r_ w_ h_ => ?_)
        obtain ⟨rfl, rfl⟩ := h_
        refine ⟨rfl, ?_⟩
        rw [wst_wst, rgF_step (by omega) hk0.1 (fun _ => 0) c]
        refine r_iinc_1 (pc2 := 21) dX0_appendView_18 rfl rfl ?_
        refine r_goto (tgt := 2) dX0_appendView_21 (by decide) ?_
        exact ih (k + 1) (by omega)
  refine r_iconst (pc2 := 1) dX0_appendView_0 rfl ?_
  refine r_ist_1 (pc2 := 2) dX0_appendView_1 rfl rfl ?_
  have := loop 13 0 (by omega)
  rw [rgF_0, wst_id hcw] at this
  exact this

set_option maxHeartbeats 4000000 in
theorem c_dropView (w : av_W) (a ca sa : Nat) (v p sh ln pr gd co : Int) (c s : Nat → Int) (hC : Cd w a ca sa v p sh ln pr gd co c s) (hK : KR v p sh ln) (x : Int) (hx : 0 ≤ x ∧ x < v) (W2 : av_W) (hW2 : W2 = cdW w a ca sa (cdO ca sa (v - 1) p sh ln pr gd co) (arO 48 (rgF (x * 12) ((v - 1 - x) * 12) (fun j => c (j + 12)) c)) (arO 6 (preF 6 (inT (v - 1)) s))) (hv3 : 3 ≤ v) : fn MX0_dropView [.ref a, .int (iN x)] w none W2 := by
  obtain ⟨⟨ha, hw⟩, ⟨hca, hcw⟩, ⟨hsa, hsw⟩, hne1, hne2, hne3⟩ := id hC
  obtain ⟨hv, hp, hsh, hln⟩ := id hK
  try unfold RG at *
  show rn MX0_dropView 0 [some (.ref a), some (.int (iN x)), none, none] [] w (fun r' w' => r' = none ∧ w' = W2)
  have loop : ∀ (n : Nat) (k : Int) (b3 : Option Value), ((x + 1 ≤ k ∧ k ≤ v) ∧ v + 1 ≤ k + n) → rn MX0_dropView 4 [some (.ref a), some (.int (iN x)), some (.int (iN k)), b3] [] (wst w ca (arO 48 (rgF (x * 12) ((k - 1 - x) * 12) (fun j => c (j + 12)) c))) (fun r' w' => r' = none ∧ w' = W2) := by
    intro n
    induction n with
    | zero =>
      intro k b3 hk0
      exfalso
      omega
    | succ n ih =>
      intro k b3 hk0
      obtain ⟨⟨hqa, hqw⟩, -⟩ := (hC.col (rgF (x * 12) ((k - 1 - x) * 12) (fun j => c (j + 12)) c))
      refine r_iload_n (pc2 := 5) dX0_dropView_4 rfl rfl ?_
      refine r_aload_n (pc2 := 6) dX0_dropView_5 rfl rfl ?_
      refine r_getf (pc2 := 9) dX0_dropView_6 rfl fl_0_9 (by assumption) (by assumption) (by rfl) ?_
      refine r_icmp_ge (pc2 := 12) (tgt := 46) dX0_dropView_9 rfl (by decide) (by omega) (by omega) (fun h9 => ?_) (fun h9 => ?_)
      · have h6 : v = k := by omega
        subst h6
        refine r_aload_n (pc2 := 47) dX0_dropView_46 rfl rfl ?_
        refine r_dup (pc2 := 48) dX0_dropView_47 rfl rfl ?_
        refine r_getf (pc2 := 51) dX0_dropView_48 rfl fl_0_9 (by assumption) (by assumption) (by rfl) ?_
        refine r_iconst (pc2 := 52) dX0_dropView_51 rfl ?_
        refine r_isub (pc2 := 53) dX0_dropView_52 rfl ?_
        refine r_putf (pc2 := 56) dX0_dropView_53 rfl fl_0_9 (by assumption) (by assumption) (by exact Nat.le_of_ble_eq_true rfl) (by rfl) (by rfl) (by rfl) ?_
        show rn _ _ _ _ (wst _ a (cdO ca sa (v - 1) p sh ln pr gd co)) _
        have hC2 := (hC.col (rgF (x * 12) ((v - 1 - x) * 12) (fun j => c (j + 12)) c)).obj (v - 1) p sh ln pr gd co
        obtain ⟨⟨hra, hrw⟩, -⟩ := id hC2
        refine r_aload_n (pc2 := 57) dX0_dropView_56 rfl rfl ?_
        refine r_callv_0 (pc2 := 60) dX0_dropView_57 rfl rs_0_40 rfl (by decide) rfl (Nat.le_of_ble_eq_true rfl) (Nat.le_of_ble_eq_true rfl) (by assumption) (by assumption) (c_resetSlices _ a ca sa (v - 1) p sh ln pr gd co _ _ hC2 ⟨by omega, hp, hsh, hln⟩) (fun r_ w_ h_ => ?_)
        obtain ⟨rfl, rfl⟩ := h_
        refine ⟨rfl, ?_⟩
        refine r_retv dX0_dropView_60 rfl ?_
        exact ⟨rfl, by rw [hW2]; unfold cdW; rw [wst_comm w _ _ (fun q => hne1 q.symm)]⟩
      · have inner : ∀ (n2 : Nat) (l : Int), (0 ≤ l ∧ l ≤ 12 ∧ 13 ≤ l + n2) → rn MX0_dropView 14 [some (.ref a), some (.int (iN x)), some (.int (iN k)), some (.int (iN l))] [] (wst w ca (arO 48 (rgF (x * 12) ((k - 1 - x) * 12 + l) (fun j => c (j + 12)) c))) (fun r' w' => r' = none ∧ w' = W2) := by
          intro n2
          induction n2 with
          | zero =>
            intro l hl0
            exfalso
            omega
          | succ n2 ih2 =>
            intro l hl0
            obtain ⟨⟨hra, hrw⟩, -⟩ := (hC.col (rgF (x * 12) ((k - 1 - x) * 12 + l) (fun j => c (j + 12)) c))
            refine r_iload_n (pc2 := 15) dX0_dropView_14 rfl rfl ?_
            refine r_bipush (pc2 := 17) dX0_dropView_15 rfl (by decide) ?_
            refine r_icmp_ge (pc2 := 20) (tgt := 40) dX0_dropView_17 rfl (by decide) (by omega) (by omega) (fun h17 => ?_) (fun h17 => ?_)
            · have h6 : l = 12 := by omega
              subst h6
              rw [show (k - 1 - x) * 12 + 12 = (k + 1 - 1 - x) * 12 by omega]
              refine r_iinc_2 (pc2 := 43) dX0_dropView_40 rfl rfl ?_
              refine r_goto (tgt := 4) dX0_dropView_43 (by decide) ?_
              exact ih (k + 1) _ (by omega)
            · refine r_aload_n (pc2 := 21) dX0_dropView_20 rfl rfl ?_
              refine r_iload_n (pc2 := 22) dX0_dropView_21 rfl rfl ?_
              refine r_iconst (pc2 := 23) dX0_dropView_22 rfl ?_
              refine r_isub (pc2 := 24) dX0_dropView_23 rfl ?_
              refine r_iload_n (pc2 := 25) dX0_dropView_24 rfl rfl ?_
              refine r_aload_n (pc2 := 26) dX0_dropView_25 rfl rfl ?_
              refine r_iload_n (pc2 := 27) dX0_dropView_26 rfl rfl ?_
              refine r_iload_n (pc2 := 28) dX0_dropView_27 rfl rfl ?_
              refine r_callv_2 (pc2 := 31) dX0_dropView_28 rfl rs_0_59 rfl (by decide) rfl (Nat.le_of_ble_eq_true rfl) (Nat.le_of_ble_eq_true rfl) (by assumption) (by assumption) (c_colourIn _ a ca sa v p sh ln pr gd co _ _ (hC.col _) hK k l (by unfold RG; omega) (by unfold RG; omega)) (fun r_ w_ h_ => ?_)
              obtain ⟨rfl, rfl⟩ := h_
              refine ⟨rfl, ?_⟩
              have e1 : colI (rgF (x * 12) ((k - 1 - x) * 12 + l) (fun j => c (j + 12)) c) k l = c ((x * 12 + ((k - 1 - x) * 12 + l)).toNat + 12) := by
                rw [colI_in (by omega) (by omega), rgF_out (by omega)]
                congr 1
                omega
              rw [e1]
              refine r_callv_3 (pc2 := 34) dX0_dropView_31 rfl rs_0_55 rfl (by decide) rfl (Nat.le_of_ble_eq_true rfl) (Nat.le_of_ble_eq_true rfl) (by assumption) (by assumption) (c_paint _ a ca sa v p sh ln pr gd co _ _ (hC.col _) hK (k - 1) l _ (by omega) (by omega)) (fun r_ w_ h_ => ?_)
              obtain ⟨rfl, rfl⟩ := h_
              refine ⟨rfl, ?_⟩
              have e2 : ((k - 1) * 12 + l).toNat = (x * 12 + ((k - 1 - x) * 12 + l)).toNat := by omega
              rw [wst_wst, e2, rgF_step (by omega) (by omega) (fun j => c (j + 12)) c, show (k - 1 - x) * 12 + l + 1 = (k - 1 - x) * 12 + (l + 1) by omega]
              refine r_iinc_3 (pc2 := 37) dX0_dropView_34 rfl rfl ?_
              refine r_goto (tgt := 14) dX0_dropView_37 (by decide) ?_
              exact ih2 (l + 1) (by omega)
        refine r_iconst (pc2 := 13) dX0_dropView_12 rfl ?_
        refine r_ist_3 (pc2 := 14) dX0_dropView_13 rfl rfl ?_
        have := inner 13 0 (by omega)
        rw [Int.add_zero] at this
        exact this
  refine r_iload_n (pc2 := 1) dX0_dropView_0 rfl rfl ?_
  refine r_iconst (pc2 := 2) dX0_dropView_1 rfl ?_
  refine r_iadd (pc2 := 3) dX0_dropView_2 rfl ?_
  refine r_ist_2 (pc2 := 4) dX0_dropView_3 rfl rfl ?_
  have := loop (v.toNat + 1) (x + 1) none (by omega)
  rw [show (x + 1 - 1 - x) * 12 = 0 by omega, rgF_0, wst_id hcw] at this
  exact this

set_option maxHeartbeats 4000000 in
theorem c_exchangeViews (w : av_W) (a ca sa : Nat) (v p sh ln pr gd co : Int) (c s : Nat → Int) (hC : Cd w a ca sa v p sh ln pr gd co c s) (hK : KR v p sh ln) (x y : Int) (hx : 0 ≤ x ∧ x ≤ 3) (hy : 0 ≤ y ∧ y ≤ 3) (hxy : x ≠ y) (hcr : ∀ j : Nat, (j : Int) < 48 → -1000 ≤ c j ∧ c j ≤ 1000) : fn MX0_exchangeViews [.ref a, .int (iN x), .int (iN y)] w (some (.int (iN (sm 12 (unF x y c))))) (wst w ca (arO 48 (exF x y 12 c))) := by
  obtain ⟨⟨ha, hw⟩, ⟨hca, hcw⟩, ⟨hsa, hsw⟩, hne1, hne2, hne3⟩ := id hC
  obtain ⟨hv, hp, hsh, hln⟩ := id hK
  try unfold RG at *
  show rn MX0_exchangeViews 0 [some (.ref a), some (.int (iN x)), some (.int (iN y)), none, none, none, none] [] w (fun r' w' => r' = (some (.int (iN (sm 12 (unF x y c))))) ∧ w' = (wst w ca (arO 48 (exF x y 12 c))))
  have loop : ∀ (n : Nat) (k : Int) (m : Int) (b5 : Option Value) (b6 : Option Value), (0 ≤ k ∧ k ≤ 12 ∧ 13 ≤ k + n) → (m = sm k.toNat (unF x y c)) → rn MX0_exchangeViews 5 [some (.ref a), some (.int (iN x)), some (.int (iN y)), some (.int (iN m)), some (.int (iN k)), b5, b6] [] (wst w ca (arO 48 (exF x y k c))) (fun r' w' => r' = (some (.int (iN (sm 12 (unF x y c))))) ∧ w' = (wst w ca (arO 48 (exF x y 12 c)))) := by
    intro n
    induction n with
    | zero =>
      intro k m b5 b6 hk0 hk1
      exfalso
      omega
    | succ n ih =>
      intro k m b5 b6 hk0 hk1
      obtain ⟨⟨hqa, hqw⟩, -⟩ := (hC.col (exF x y k c))
      refine r_iload (pc2 := 7) dX0_exchangeViews_5 rfl rfl ?_
      refine r_bipush (pc2 := 9) dX0_exchangeViews_7 rfl (by decide) ?_
      refine r_icmp_ge (pc2 := 12) (tgt := 64) dX0_exchangeViews_9 rfl (by decide) (by omega) (by omega) (fun h9 => ?_) (fun h9 => ?_)
      · have h6 : k = 12 := by omega
        subst h6
        refine r_iload_n (pc2 := 65) dX0_exchangeViews_64 rfl rfl ?_
        refine r_ret dX0_exchangeViews_65 rfl ?_
        exact ⟨by rw [hk1]; rfl, rfl⟩
      · refine r_aload_n (pc2 := 13) dX0_exchangeViews_12 rfl rfl ?_
        refine r_iload_n (pc2 := 14) dX0_exchangeViews_13 rfl rfl ?_
        refine r_iload (pc2 := 16) dX0_exchangeViews_14 rfl rfl ?_
        refine r_callv_2 (pc2 := 19) dX0_exchangeViews_16 rfl rs_0_59 rfl (by decide) rfl (Nat.le_of_ble_eq_true rfl) (Nat.le_of_ble_eq_true rfl) (by assumption) (by assumption) (c_colourIn _ a ca sa v p sh ln pr gd co _ _ (hC.col _) hK x k (by unfold RG; omega) (by unfold RG; omega)) (fun r_ w_ h_ => ?_)
        obtain ⟨rfl, rfl⟩ := h_
        refine ⟨rfl, ?_⟩
        have e1 : colI (exF x y k c) x k = c (x * 12 + k).toNat := by rw [colI_in hx (by omega), (exF_at (by omega) (by omega) hxy (by omega)).1]
        rw [e1]
        refine r_ist_5 (pc2 := 21) dX0_exchangeViews_19 rfl rfl ?_
        refine r_aload_n (pc2 := 22) dX0_exchangeViews_21 rfl rfl ?_
        refine r_iload_n (pc2 := 23) dX0_exchangeViews_22 rfl rfl ?_
        refine r_iload (pc2 := 25) dX0_exchangeViews_23 rfl rfl ?_
        refine r_callv_2 (pc2 := 28) dX0_exchangeViews_25 rfl rs_0_59 rfl (by decide) rfl (Nat.le_of_ble_eq_true rfl) (Nat.le_of_ble_eq_true rfl) (by assumption) (by assumption) (c_colourIn _ a ca sa v p sh ln pr gd co _ _ (hC.col _) hK y k (by unfold RG; omega) (by unfold RG; omega)) (fun r_ w_ h_ => ?_)
        obtain ⟨rfl, rfl⟩ := h_
        refine ⟨rfl, ?_⟩
        have e2 : colI (exF x y k c) y k = c (y * 12 + k).toNat := by rw [colI_in hy (by omega), (exF_at (by omega) (by omega) hxy (by omega)).2]
        rw [e2]
        have g1 := hcr (x * 12 + k).toNat (by omega)
        have g2 := hcr (y * 12 + k).toNat (by omega)
        refine r_ist_6 (pc2 := 30) dX0_exchangeViews_28 rfl rfl ?_
        refine r_iload (pc2 := 32) dX0_exchangeViews_30 rfl rfl ?_
        refine r_iload (pc2 := 34) dX0_exchangeViews_32 rfl rfl ?_
        refine r_icmp_eq (pc2 := 37) (tgt := 40) dX0_exchangeViews_34 rfl (by decide) (by omega) (by omega) (fun h34 => ?_) (fun h34 => ?_)
        · have hb : unF x y c k.toNat = 0 := by unfold unF; rw [tn hk0.1]; exact bz_f (fun q => q h34)
          rw [show m = m + 0 by omega]
          refine r_aload_n (pc2 := 41) dX0_exchangeViews_40 rfl rfl ?_
          refine r_iload_n (pc2 := 42) dX0_exchangeViews_41 rfl rfl ?_
          refine r_iload (pc2 := 44) dX0_exchangeViews_42 rfl rfl ?_
          refine r_iload (pc2 := 46) dX0_exchangeViews_44 rfl rfl ?_
          refine r_callv_3 (pc2 := 49) dX0_exchangeViews_46 rfl rs_0_55 rfl (by decide) rfl (Nat.le_of_ble_eq_true rfl) (Nat.le_of_ble_eq_true rfl) (by assumption) (by assumption) (c_paint _ a ca sa v p sh ln pr gd co _ _ (hC.col _) hK x k _ hx (by omega)) (fun r_ w_ h_ => ?_)
          obtain ⟨rfl, rfl⟩ := h_
          refine ⟨rfl, ?_⟩
          rw [wst_wst]
          obtain ⟨⟨hra, hrw⟩, -⟩ := (hC.col (updZ (exF x y k c) (x * 12 + k).toNat (c (y * 12 + k).toNat)))
          refine r_aload_n (pc2 := 50) dX0_exchangeViews_49 rfl rfl ?_
          refine r_iload_n (pc2 := 51) dX0_exchangeViews_50 rfl rfl ?_
          refine r_iload (pc2 := 53) dX0_exchangeViews_51 rfl rfl ?_
          refine r_iload (pc2 := 55) dX0_exchangeViews_53 rfl rfl ?_
          refine r_callv_3 (pc2 := 58) dX0_exchangeViews_55 rfl rs_0_55 rfl (by decide) rfl (Nat.le_of_ble_eq_true rfl) (Nat.le_of_ble_eq_true rfl) (by assumption) (by assumption) (c_paint _ a ca sa v p sh ln pr gd co _ _ (hC.col _) hK y k _ hy (by omega)) (fun r_ w_ h_ => ?_)
          obtain ⟨rfl, rfl⟩ := h_
          refine ⟨rfl, ?_⟩
          rw [wst_wst, exF_step c hx.1 hy.1 hxy (by omega)]
          refine r_iinc_4 (pc2 := 61) dX0_exchangeViews_58 rfl rfl ?_
          refine r_goto (tgt := 5) dX0_exchangeViews_61 (by decide) ?_
          exact ih (k + 1) _ _ _ (by omega) (by rw [sm_step hk0.1, ← hk1, hb])
        · have hb : unF x y c k.toNat = 1 := by unfold unF; rw [tn hk0.1]; exact bz_t h34
          refine r_iinc_3 (pc2 := 40) dX0_exchangeViews_37 rfl rfl ?_
          refine r_aload_n (pc2 := 41) dX0_exchangeViews_40 rfl rfl ?_
          refine r_iload_n (pc2 := 42) dX0_exchangeViews_41 rfl rfl ?_
          refine r_iload (pc2 := 44) dX0_exchangeViews_42 rfl rfl ?_
          refine r_iload (pc2 := 46) dX0_exchangeViews_44 rfl rfl ?_
          refine r_callv_3 (pc2 := 49) dX0_exchangeViews_46 rfl rs_0_55 rfl (by decide) rfl (Nat.le_of_ble_eq_true rfl) (Nat.le_of_ble_eq_true rfl) (by assumption) (by assumption) (c_paint _ a ca sa v p sh ln pr gd co _ _ (hC.col _) hK x k _ hx (by omega)) (fun r_ w_ h_ => ?_)
          obtain ⟨rfl, rfl⟩ := h_
          refine ⟨rfl, ?_⟩
          rw [wst_wst]
          obtain ⟨⟨hra, hrw⟩, -⟩ := (hC.col (updZ (exF x y k c) (x * 12 + k).toNat (c (y * 12 + k).toNat)))
          refine r_aload_n (pc2 := 50) dX0_exchangeViews_49 rfl rfl ?_
          refine r_iload_n (pc2 := 51) dX0_exchangeViews_50 rfl rfl ?_
          refine r_iload (pc2 := 53) dX0_exchangeViews_51 rfl rfl ?_
          refine r_iload (pc2 := 55) dX0_exchangeViews_53 rfl rfl ?_
          refine r_callv_3 (pc2 := 58) dX0_exchangeViews_55 rfl rs_0_55 rfl (by decide) rfl (Nat.le_of_ble_eq_true rfl) (Nat.le_of_ble_eq_true rfl) (by assumption) (by assumption) (c_paint _ a ca sa v p sh ln pr gd co _ _ (hC.col _) hK y k _ hy (by omega)) (fun r_ w_ h_ => ?_)
          obtain ⟨rfl, rfl⟩ := h_
          refine ⟨rfl, ?_⟩
          rw [wst_wst, exF_step c hx.1 hy.1 hxy (by omega)]
          refine r_iinc_4 (pc2 := 61) dX0_exchangeViews_58 rfl rfl ?_
          refine r_goto (tgt := 5) dX0_exchangeViews_61 (by decide) ?_
          exact ih (k + 1) _ _ _ (by omega) (by rw [sm_step hk0.1, ← hk1, hb])
  refine r_iconst (pc2 := 1) dX0_exchangeViews_0 rfl ?_
  refine r_ist_3 (pc2 := 2) dX0_exchangeViews_1 rfl rfl ?_
  refine r_iconst (pc2 := 3) dX0_exchangeViews_2 rfl ?_
  refine r_ist_4 (pc2 := 5) dX0_exchangeViews_3 rfl rfl ?_
  have := loop 13 0 0 none none (by omega) rfl
  rw [exF_0, wst_id hcw] at this
  exact this
end
section
/-! copying a card; the Sight of a card -/
theorem cdW_a (w : av_W) {a ca sa : Nat} (E A B E2 : av_E) (h1 : a ≠ ca) (h2 : a ≠ sa) : wst (cdW w a ca sa E A B) a E2 = cdW w a ca sa E2 A B := by
  unfold cdW
  rw [wst_comm _ B E2 (fun q => h2 q.symm), wst_comm _ A E2 (fun q => h1 q.symm), wst_wst]
theorem cdW_ca (w : av_W) {a ca sa : Nat} (E A B A2 : av_E) (h : ca ≠ sa) : wst (cdW w a ca sa E A B) ca A2 = cdW w a ca sa E A2 B := by
  unfold cdW
  rw [wst_comm _ B A2 (fun q => h q.symm), wst_wst]
theorem cdW_sa (w : av_W) (a ca sa : Nat) (E A B B2 : av_E) : wst (cdW w a ca sa E A B) sa B2 = cdW w a ca sa E A B2 := by
  unfold cdW
  rw [wst_wst]
theorem cdW_id {w : av_W} {a ca sa : Nat} {E A B : av_E} (h1 : w.2.2 a = E) (h2 : w.2.2 ca = A) (h3 : w.2.2 sa = B) : cdW w a ca sa E A B = w := by
  unfold cdW
  rw [wst_id h1, wst_id h2, wst_id h3]
theorem cdW_out {w : av_W} {a ca sa b : Nat} {E A B : av_E} (h1 : b ≠ a) (h2 : b ≠ ca) (h3 : b ≠ sa) : (cdW w a ca sa E A B).2.2 b = w.2.2 b := by
  unfold cdW
  rw [wst_ne h3, wst_ne h2, wst_ne h1]
theorem cdW_at_a {w : av_W} {a ca sa : Nat} {E A B : av_E} (h1 : a ≠ ca) (h2 : a ≠ sa) : (cdW w a ca sa E A B).2.2 a = E := by
  unfold cdW
  rw [wst_ne h2, wst_ne h1, wst_self]
theorem cdW_at_ca {w : av_W} {a ca sa : Nat} {E A B : av_E} (h : ca ≠ sa) : (cdW w a ca sa E A B).2.2 ca = A := by
  unfold cdW
  rw [wst_ne h, wst_self]
theorem cdW_at_sa {w : av_W} {a ca sa : Nat} {E A B : av_E} : (cdW w a ca sa E A B).2.2 sa = B := wst_self
theorem cdW_n (w : av_W) (a ca sa : Nat) (E A B : av_E) : (cdW w a ca sa E A B).1 = w.1 := rfl
theorem Cd_cdW {w : av_W} {a ca sa : Nat} {v p sh ln pr gd co : Int} {c s : Nat → Int} (h : Cd w a ca sa v p sh ln pr gd co c s) (v2 p2 sh2 ln2 pr2 gd2 co2 : Int) (c2 s2 : Nat → Int) : Cd (cdW w a ca sa (cdO ca sa v2 p2 sh2 ln2 pr2 gd2 co2) (arO 48 c2) (arO 6 s2)) a ca sa v2 p2 sh2 ln2 pr2 gd2 co2 c2 s2 := ((h.obj v2 p2 sh2 ln2 pr2 gd2 co2).col c2).slc s2
theorem Cd_cdWo {w : av_W} {a ca sa : Nat} {v p sh ln pr gd co : Int} {c s : Nat → Int} (h : Cd w a ca sa v p sh ln pr gd co c s) {b cb sb : Nat} (E A B : av_E) (h1 : b ≠ a ∧ b ≠ ca ∧ b ≠ sa) (h2 : cb ≠ a ∧ cb ≠ ca ∧ cb ≠ sa) (h3 : sb ≠ a ∧ sb ≠ ca ∧ sb ≠ sa) : Cd (cdW w b cb sb E A B) a ca sa v p sh ln pr gd co c s := ((h.out E h1.1.symm h1.2.1.symm h1.2.2.symm).out A h2.1.symm h2.2.1.symm h2.2.2.symm).out B h3.1.symm h3.2.1.symm h3.2.2.symm

set_option maxHeartbeats 4000000 in
theorem c_copyFrom (w : av_W) (a ca sa : Nat) (v p sh ln pr gd co : Int) (c s : Nat → Int) (hC : Cd w a ca sa v p sh ln pr gd co c s) (b cb sb : Nat) (v2 p2 sh2 ln2 pr2 gd2 co2 : Int) (c2 s2 : Nat → Int) (hC2 : Cd w b cb sb v2 p2 sh2 ln2 pr2 gd2 co2 c2 s2) (h1 : b ≠ a ∧ b ≠ ca ∧ b ≠ sa) (h2 : cb ≠ a ∧ cb ≠ ca ∧ cb ≠ sa) (h3 : sb ≠ a ∧ sb ≠ ca ∧ sb ≠ sa) : fn MX0_copyFrom [.ref a, .ref b] w none (cdW w a ca sa (cdO ca sa v2 p2 sh2 ln2 pr2 gd2 co2) (arO 48 (preF 48 c2 c)) (arO 6 (preF 6 s2 s))) := by
  obtain ⟨⟨ha, hw⟩, ⟨hca, hcw⟩, ⟨hsa, hsw⟩, hne1, hne2, hne3⟩ := id hC
  obtain ⟨⟨hb, hbw⟩, ⟨hcb, hcbw⟩, ⟨hsb, hsbw⟩, hng1, hng2, hng3⟩ := id hC2
  show rn MX0_copyFrom 0 [some (.ref a), some (.ref b)] [] w _
  have hw0 : w = (cdW w a ca sa (cdO ca sa v p sh ln pr gd co) (arO 48 c) (arO 6 s)) := (cdW_id hw hcw hsw).symm
  rw [hw0]
  have ka0 : a < ((cdW w a ca sa (cdO ca sa v p sh ln pr gd co) (arO 48 c) (arO 6 s))).1 := ha
  have kw0 : ((cdW w a ca sa (cdO ca sa v p sh ln pr gd co) (arO 48 c) (arO 6 s))).2.2 a = _ := cdW_at_a hne1 hne2
  have kb0 : b < ((cdW w a ca sa (cdO ca sa v p sh ln pr gd co) (arO 48 c) (arO 6 s))).1 := hb
  have kx0 : ((cdW w a ca sa (cdO ca sa v p sh ln pr gd co) (arO 48 c) (arO 6 s))).2.2 b = _ := (cdW_out h1.1 h1.2.1 h1.2.2).trans hbw
  refine r_aload_n (pc2 := 1) dX0_copyFrom_0 rfl rfl ?_
  refine r_aload_n (pc2 := 2) dX0_copyFrom_1 rfl rfl ?_
  refine r_getf (pc2 := 5) dX0_copyFrom_2 rfl fl_0_9 (by assumption) (by assumption) (by rfl) ?_
  refine r_putf (pc2 := 8) dX0_copyFrom_5 rfl fl_0_9 (by assumption) (by assumption) (by exact Nat.le_of_ble_eq_true rfl) (by rfl) (by rfl) (by rfl) ?_
  rw [cdW_a _ _ _ _ _ hne1 hne2]
  show rn _ _ _ _ (cdW w a ca sa (cdO ca sa v2 p sh ln pr gd co) (arO 48 c) (arO 6 s)) _
  have ka1 : a < ((cdW w a ca sa (cdO ca sa v2 p sh ln pr gd co) (arO 48 c) (arO 6 s))).1 := ha
  have kw1 : ((cdW w a ca sa (cdO ca sa v2 p sh ln pr gd co) (arO 48 c) (arO 6 s))).2.2 a = _ := cdW_at_a hne1 hne2
  have kb1 : b < ((cdW w a ca sa (cdO ca sa v2 p sh ln pr gd co) (arO 48 c) (arO 6 s))).1 := hb
  have kx1 : ((cdW w a ca sa (cdO ca sa v2 p sh ln pr gd co) (arO 48 c) (arO 6 s))).2.2 b = _ := (cdW_out h1.1 h1.2.1 h1.2.2).trans hbw
  refine r_aload_n (pc2 := 9) dX0_copyFrom_8 rfl rfl ?_
  refine r_getf (pc2 := 12) dX0_copyFrom_9 rfl fl_0_15 (by assumption) (by assumption) (by rfl) ?_
  refine r_aload_n (pc2 := 13) dX0_copyFrom_12 rfl rfl ?_
  refine r_getf (pc2 := 16) dX0_copyFrom_13 rfl fl_0_15 (by assumption) (by assumption) (by rfl) ?_
  refine r_calls_2 (pc2 := 19) dX0_copyFrom_16 rfl rs_0_43 rfl (by decide) rfl (Nat.le_of_ble_eq_true rfl) (Nat.le_of_ble_eq_true rfl) (c_copyNumbers _ cb ca 48 c2 c hcb ((cdW_out h2.1 h2.2.1 h2.2.2).trans hcbw) hca (cdW_at_ca hne3) h2.2.1 (by omega)) (fun r_ w_ h_ => ?_)
  obtain ⟨rfl, rfl⟩ := h_
  refine ⟨rfl, ?_⟩
  rw [cdW_ca _ _ _ _ _ hne3]
  show rn _ _ _ _ (cdW w a ca sa (cdO ca sa v2 p sh ln pr gd co) (arO 48 (preF 48 c2 c)) (arO 6 s)) _
  have ka2 : a < ((cdW w a ca sa (cdO ca sa v2 p sh ln pr gd co) (arO 48 (preF 48 c2 c)) (arO 6 s))).1 := ha
  have kw2 : ((cdW w a ca sa (cdO ca sa v2 p sh ln pr gd co) (arO 48 (preF 48 c2 c)) (arO 6 s))).2.2 a = _ := cdW_at_a hne1 hne2
  have kb2 : b < ((cdW w a ca sa (cdO ca sa v2 p sh ln pr gd co) (arO 48 (preF 48 c2 c)) (arO 6 s))).1 := hb
  have kx2 : ((cdW w a ca sa (cdO ca sa v2 p sh ln pr gd co) (arO 48 (preF 48 c2 c)) (arO 6 s))).2.2 b = _ := (cdW_out h1.1 h1.2.1 h1.2.2).trans hbw
  refine r_aload_n (pc2 := 20) dX0_copyFrom_19 rfl rfl ?_
  refine r_aload_n (pc2 := 21) dX0_copyFrom_20 rfl rfl ?_
  refine r_getf (pc2 := 24) dX0_copyFrom_21 rfl fl_0_19 (by assumption) (by assumption) (by rfl) ?_
  refine r_putf (pc2 := 27) dX0_copyFrom_24 rfl fl_0_19 (by assumption) (by assumption) (by exact Nat.le_of_ble_eq_true rfl) (by rfl) (by rfl) (by rfl) ?_
  rw [cdW_a _ _ _ _ _ hne1 hne2]
  show rn _ _ _ _ (cdW w a ca sa (cdO ca sa v2 p2 sh ln pr gd co) (arO 48 (preF 48 c2 c)) (arO 6 s)) _
  have ka3 : a < ((cdW w a ca sa (cdO ca sa v2 p2 sh ln pr gd co) (arO 48 (preF 48 c2 c)) (arO 6 s))).1 := ha
  have kw3 : ((cdW w a ca sa (cdO ca sa v2 p2 sh ln pr gd co) (arO 48 (preF 48 c2 c)) (arO 6 s))).2.2 a = _ := cdW_at_a hne1 hne2
  have kb3 : b < ((cdW w a ca sa (cdO ca sa v2 p2 sh ln pr gd co) (arO 48 (preF 48 c2 c)) (arO 6 s))).1 := hb
  have kx3 : ((cdW w a ca sa (cdO ca sa v2 p2 sh ln pr gd co) (arO 48 (preF 48 c2 c)) (arO 6 s))).2.2 b = _ := (cdW_out h1.1 h1.2.1 h1.2.2).trans hbw
  refine r_aload_n (pc2 := 28) dX0_copyFrom_27 rfl rfl ?_
  refine r_getf (pc2 := 31) dX0_copyFrom_28 rfl fl_0_22 (by assumption) (by assumption) (by rfl) ?_
  refine r_aload_n (pc2 := 32) dX0_copyFrom_31 rfl rfl ?_
  refine r_getf (pc2 := 35) dX0_copyFrom_32 rfl fl_0_22 (by assumption) (by assumption) (by rfl) ?_
  refine r_calls_2 (pc2 := 38) dX0_copyFrom_35 rfl rs_0_43 rfl (by decide) rfl (Nat.le_of_ble_eq_true rfl) (Nat.le_of_ble_eq_true rfl) (c_copyNumbers _ sb sa 6 s2 s hsb ((cdW_out h3.1 h3.2.1 h3.2.2).trans hsbw) hsa cdW_at_sa h3.2.2 (by omega)) (fun r_ w_ h_ => ?_)
  obtain ⟨rfl, rfl⟩ := h_
  refine ⟨rfl, ?_⟩
  rw [cdW_sa]
  show rn _ _ _ _ (cdW w a ca sa (cdO ca sa v2 p2 sh ln pr gd co) (arO 48 (preF 48 c2 c)) (arO 6 (preF 6 s2 s))) _
  have ka4 : a < ((cdW w a ca sa (cdO ca sa v2 p2 sh ln pr gd co) (arO 48 (preF 48 c2 c)) (arO 6 (preF 6 s2 s)))).1 := ha
  have kw4 : ((cdW w a ca sa (cdO ca sa v2 p2 sh ln pr gd co) (arO 48 (preF 48 c2 c)) (arO 6 (preF 6 s2 s)))).2.2 a = _ := cdW_at_a hne1 hne2
  have kb4 : b < ((cdW w a ca sa (cdO ca sa v2 p2 sh ln pr gd co) (arO 48 (preF 48 c2 c)) (arO 6 (preF 6 s2 s)))).1 := hb
  have kx4 : ((cdW w a ca sa (cdO ca sa v2 p2 sh ln pr gd co) (arO 48 (preF 48 c2 c)) (arO 6 (preF 6 s2 s)))).2.2 b = _ := (cdW_out h1.1 h1.2.1 h1.2.2).trans hbw
  refine r_aload_n (pc2 := 39) dX0_copyFrom_38 rfl rfl ?_
  refine r_aload_n (pc2 := 40) dX0_copyFrom_39 rfl rfl ?_
  refine r_getf (pc2 := 43) dX0_copyFrom_40 rfl fl_0_25 (by assumption) (by assumption) (by rfl) ?_
  refine r_putf (pc2 := 46) dX0_copyFrom_43 rfl fl_0_25 (by assumption) (by assumption) (by exact Nat.le_of_ble_eq_true rfl) (by rfl) (by rfl) (by rfl) ?_
  rw [cdW_a _ _ _ _ _ hne1 hne2]
  show rn _ _ _ _ (cdW w a ca sa (cdO ca sa v2 p2 sh2 ln pr gd co) (arO 48 (preF 48 c2 c)) (arO 6 (preF 6 s2 s))) _
  have ka5 : a < ((cdW w a ca sa (cdO ca sa v2 p2 sh2 ln pr gd co) (arO 48 (preF 48 c2 c)) (arO 6 (preF 6 s2 s)))).1 := ha
  have kw5 : ((cdW w a ca sa (cdO ca sa v2 p2 sh2 ln pr gd co) (arO 48 (preF 48 c2 c)) (arO 6 (preF 6 s2 s)))).2.2 a = _ := cdW_at_a hne1 hne2
  have kb5 : b < ((cdW w a ca sa (cdO ca sa v2 p2 sh2 ln pr gd co) (arO 48 (preF 48 c2 c)) (arO 6 (preF 6 s2 s)))).1 := hb
  have kx5 : ((cdW w a ca sa (cdO ca sa v2 p2 sh2 ln pr gd co) (arO 48 (preF 48 c2 c)) (arO 6 (preF 6 s2 s)))).2.2 b = _ := (cdW_out h1.1 h1.2.1 h1.2.2).trans hbw
  refine r_aload_n (pc2 := 47) dX0_copyFrom_46 rfl rfl ?_
  refine r_aload_n (pc2 := 48) dX0_copyFrom_47 rfl rfl ?_
  refine r_getf (pc2 := 51) dX0_copyFrom_48 rfl fl_0_28 (by assumption) (by assumption) (by rfl) ?_
  refine r_putf (pc2 := 54) dX0_copyFrom_51 rfl fl_0_28 (by assumption) (by assumption) (by exact Nat.le_of_ble_eq_true rfl) (by rfl) (by rfl) (by rfl) ?_
  rw [cdW_a _ _ _ _ _ hne1 hne2]
  show rn _ _ _ _ (cdW w a ca sa (cdO ca sa v2 p2 sh2 ln2 pr gd co) (arO 48 (preF 48 c2 c)) (arO 6 (preF 6 s2 s))) _
  have ka6 : a < ((cdW w a ca sa (cdO ca sa v2 p2 sh2 ln2 pr gd co) (arO 48 (preF 48 c2 c)) (arO 6 (preF 6 s2 s)))).1 := ha
  have kw6 : ((cdW w a ca sa (cdO ca sa v2 p2 sh2 ln2 pr gd co) (arO 48 (preF 48 c2 c)) (arO 6 (preF 6 s2 s)))).2.2 a = _ := cdW_at_a hne1 hne2
  have kb6 : b < ((cdW w a ca sa (cdO ca sa v2 p2 sh2 ln2 pr gd co) (arO 48 (preF 48 c2 c)) (arO 6 (preF 6 s2 s)))).1 := hb
  have kx6 : ((cdW w a ca sa (cdO ca sa v2 p2 sh2 ln2 pr gd co) (arO 48 (preF 48 c2 c)) (arO 6 (preF 6 s2 s)))).2.2 b = _ := (cdW_out h1.1 h1.2.1 h1.2.2).trans hbw
  refine r_aload_n (pc2 := 55) dX0_copyFrom_54 rfl rfl ?_
  refine r_aload_n (pc2 := 56) dX0_copyFrom_55 rfl rfl ?_
  refine r_getf (pc2 := 59) dX0_copyFrom_56 rfl fl_0_31 (by assumption) (by assumption) (by rfl) ?_
  refine r_putf (pc2 := 62) dX0_copyFrom_59 rfl fl_0_31 (by assumption) (by assumption) (by exact Nat.le_of_ble_eq_true rfl) (by rfl) (by rfl) (by rfl) ?_
  rw [cdW_a _ _ _ _ _ hne1 hne2]
  show rn _ _ _ _ (cdW w a ca sa (cdO ca sa v2 p2 sh2 ln2 pr2 gd co) (arO 48 (preF 48 c2 c)) (arO 6 (preF 6 s2 s))) _
  have ka7 : a < ((cdW w a ca sa (cdO ca sa v2 p2 sh2 ln2 pr2 gd co) (arO 48 (preF 48 c2 c)) (arO 6 (preF 6 s2 s)))).1 := ha
  have kw7 : ((cdW w a ca sa (cdO ca sa v2 p2 sh2 ln2 pr2 gd co) (arO 48 (preF 48 c2 c)) (arO 6 (preF 6 s2 s)))).2.2 a = _ := cdW_at_a hne1 hne2
  have kb7 : b < ((cdW w a ca sa (cdO ca sa v2 p2 sh2 ln2 pr2 gd co) (arO 48 (preF 48 c2 c)) (arO 6 (preF 6 s2 s)))).1 := hb
  have kx7 : ((cdW w a ca sa (cdO ca sa v2 p2 sh2 ln2 pr2 gd co) (arO 48 (preF 48 c2 c)) (arO 6 (preF 6 s2 s)))).2.2 b = _ := (cdW_out h1.1 h1.2.1 h1.2.2).trans hbw
  refine r_aload_n (pc2 := 63) dX0_copyFrom_62 rfl rfl ?_
  refine r_aload_n (pc2 := 64) dX0_copyFrom_63 rfl rfl ?_
  refine r_getf (pc2 := 67) dX0_copyFrom_64 rfl fl_0_34 (by assumption) (by assumption) (by rfl) ?_
  refine r_putf (pc2 := 70) dX0_copyFrom_67 rfl fl_0_34 (by assumption) (by assumption) (by exact Nat.le_of_ble_eq_true rfl) (by rfl) (by rfl) (by rfl) ?_
  rw [cdW_a _ _ _ _ _ hne1 hne2]
  show rn _ _ _ _ (cdW w a ca sa (cdO ca sa v2 p2 sh2 ln2 pr2 gd2 co) (arO 48 (preF 48 c2 c)) (arO 6 (preF 6 s2 s))) _
  have ka8 : a < ((cdW w a ca sa (cdO ca sa v2 p2 sh2 ln2 pr2 gd2 co) (arO 48 (preF 48 c2 c)) (arO 6 (preF 6 s2 s)))).1 := ha
  have kw8 : ((cdW w a ca sa (cdO ca sa v2 p2 sh2 ln2 pr2 gd2 co) (arO 48 (preF 48 c2 c)) (arO 6 (preF 6 s2 s)))).2.2 a = _ := cdW_at_a hne1 hne2
  have kb8 : b < ((cdW w a ca sa (cdO ca sa v2 p2 sh2 ln2 pr2 gd2 co) (arO 48 (preF 48 c2 c)) (arO 6 (preF 6 s2 s)))).1 := hb
  have kx8 : ((cdW w a ca sa (cdO ca sa v2 p2 sh2 ln2 pr2 gd2 co) (arO 48 (preF 48 c2 c)) (arO 6 (preF 6 s2 s)))).2.2 b = _ := (cdW_out h1.1 h1.2.1 h1.2.2).trans hbw
  refine r_aload_n (pc2 := 71) dX0_copyFrom_70 rfl rfl ?_
  refine r_aload_n (pc2 := 72) dX0_copyFrom_71 rfl rfl ?_
  refine r_getf (pc2 := 75) dX0_copyFrom_72 rfl fl_0_37 (by assumption) (by assumption) (by rfl) ?_
  refine r_putf (pc2 := 78) dX0_copyFrom_75 rfl fl_0_37 (by assumption) (by assumption) (by exact Nat.le_of_ble_eq_true rfl) (by rfl) (by rfl) (by rfl) ?_
  rw [cdW_a _ _ _ _ _ hne1 hne2]
  show rn _ _ _ _ (cdW w a ca sa (cdO ca sa v2 p2 sh2 ln2 pr2 gd2 co2) (arO 48 (preF 48 c2 c)) (arO 6 (preF 6 s2 s))) _
  refine r_retv dX0_copyFrom_78 rfl ?_
  exact ⟨rfl, by rw [← hw0]⟩

/-- what a Sight holds -/
abbrev sgO (a ka sb : Nat) : av_E := .inr (3, [.ref a, .ref ka, .ref sb])
def Sg (w : av_W) (a b ka sb : Nat) (f g : Nat → Int) : Prop := (b < w.1 ∧ w.2.2 b = sgO a ka sb) ∧ (ka < w.1 ∧ w.2.2 ka = arO 72 f) ∧ (sb < w.1 ∧ w.2.2 sb = arO 6 g) ∧ (b ≠ ka ∧ b ≠ sb ∧ ka ≠ sb)
def aps (a ca sa ka sb : Nat) : Prop := (a ≠ ka ∧ ca ≠ ka ∧ sa ≠ ka) ∧ (a ≠ sb ∧ ca ≠ sb ∧ sa ≠ sb)
/-- the slice that a ridge shows, by step and ridge in one number -/
def ssF (p sh ln : Int) : Nat → Int := fun j => slZ p sh ((j : Int) % 12) (plZ p ln ((j : Int) / 12) ((j : Int) % 12))
def cnA (p : Int) (n : Nat) : Nat → Int := fun j => sm n (fun i => bz (stZ p ((i : Int) - 9) = (j : Int)))
def w2W (w : av_W) (ka sb : Nat) (A B : av_E) : av_W := wst (wst w ka A) sb B
theorem w2W_a (w : av_W) {ka sb : Nat} (A B A2 : av_E) (h : ka ≠ sb) : wst (w2W w ka sb A B) ka A2 = w2W w ka sb A2 B := by
  unfold w2W
  rw [wst_comm _ B A2 (fun q => h q.symm), wst_wst]
theorem w2W_b (w : av_W) (ka sb : Nat) (A B B2 : av_E) : wst (w2W w ka sb A B) sb B2 = w2W w ka sb A B2 := by
  unfold w2W
  rw [wst_wst]
theorem w2W_id {w : av_W} {ka sb : Nat} {A B : av_E} (h1 : w.2.2 ka = A) (h2 : w.2.2 sb = B) : w2W w ka sb A B = w := by
  unfold w2W
  rw [wst_id h1, wst_id h2]
theorem Sg.set {w : av_W} {a b ka sb : Nat} {f g : Nat → Int} (h : Sg w a b ka sb f g) (f2 g2 : Nat → Int) : Sg (w2W w ka sb (arO 72 f2) (arO 6 g2)) a b ka sb f2 g2 := by
  obtain ⟨⟨hb, hbw⟩, ⟨hk, hkw⟩, ⟨hs, hsw⟩, h1, h2, h3⟩ := h
  unfold w2W
  exact ⟨⟨hb, by rw [wst_ne h2, wst_ne h1]; exact hbw⟩, ⟨hk, by rw [wst_ne h3]; exact wst_self⟩, ⟨hs, wst_self⟩, h1, h2, h3⟩
theorem Cd_w2W {w : av_W} {a ca sa : Nat} {v p sh ln pr gd co : Int} {c s : Nat → Int} (h : Cd w a ca sa v p sh ln pr gd co c s) {ka sb : Nat} (A B : av_E) (hd : aps a ca sa ka sb) : Cd (w2W w ka sb A B) a ca sa v p sh ln pr gd co c s := (h.out A hd.1.1 hd.1.2.1 hd.1.2.2).out B hd.2.1 hd.2.2.1 hd.2.2.2
theorem ssF_at {p sh ln x y : Int} (hx : 0 ≤ x) (hy : 0 ≤ y ∧ y ≤ 11) : ssF p sh ln (x * 12 + y).toNat = slZ p sh y (plZ p ln x y) := by
  unfold ssF
  rw [tn (by omega), show (x * 12 + y) % 12 = y by omega, show (x * 12 + y) / 12 = x by omega]
theorem cnA_step {p x : Int} (hx : -9 ≤ x) (j : Nat) : cnA p (x + 1 + 9).toNat j = cnA p (x + 9).toNat j + bz (stZ p x = (j : Int)) := by
  unfold cnA
  rw [show x + 1 + 9 = (x + 9) + 1 by omega, sm_step (by omega), tn (by omega), show x + 9 - 9 = x by omega]
theorem cnA_rg {p : Int} {n j : Nat} : 0 ≤ cnA p n j ∧ cnA p n j ≤ n := by
  have h := sm_rg (n := n) (f := fun i => bz (stZ p ((i : Int) - 9) = (j : Int))) (L := 0) (H := 1) (fun j _ => bz_rg)
  unfold cnA
  omega
theorem updZ_cnA {p x : Int} {g : Nat → Int} (hx : -9 ≤ x) (hr : 0 ≤ stZ p x ∧ stZ p x ≤ 5) : updZ (preF 6 (cnA p (x + 9).toNat) g) (stZ p x).toNat (preF 6 (cnA p (x + 9).toNat) g (stZ p x).toNat + 1) = preF 6 (cnA p (x + 1 + 9).toNat) g := by
  funext j
  unfold updZ
  by_cases h : j = (stZ p x).toNat
  · subst h
    rw [if_pos rfl, preF_lt (by omega), preF_lt (by omega), cnA_step hx, tn hr.1, bz_t rfl]
  · rw [if_neg h]
    by_cases h6 : (j : Int) < 6
    · rw [preF_lt h6, preF_lt h6, cnA_step hx, bz_f (by omega), Int.add_zero]
    · rw [preF_ge h6, preF_ge h6]

set_option maxHeartbeats 4000000 in
theorem c_aim (w : av_W) (a ca sa : Nat) (v p sh ln pr gd co : Int) (c s : Nat → Int) (hC : Cd w a ca sa v p sh ln pr gd co c s) (hK : KR v p sh ln) (b ka sb : Nat) (f g : Nat → Int) (hG : Sg w a b ka sb f g) (hd : aps a ca sa ka sb) : fn MX3_aim [.ref b] w none (w2W w ka sb (arO 72 (preF 72 (ssF p sh ln) f)) (arO 6 (preF 6 (cnA p 19) g))) := by
  obtain ⟨⟨ha, hw⟩, ⟨hca, hcw⟩, ⟨hsa, hsw⟩, hne1, hne2, hne3⟩ := id hC
  obtain ⟨hv, hp, hsh, hln⟩ := id hK
  obtain ⟨⟨hb, hbw⟩, ⟨hka, hkw⟩, ⟨hsb, hzw⟩, hng1, hng2, hng3⟩ := id hG
  try unfold RG at *
  show rn MX3_aim 0 [some (.ref b), none, none] [] w (fun r' w' => r' = none ∧ w' = (w2W w ka sb (arO 72 (preF 72 (ssF p sh ln) f)) (arO 6 (preF 6 (cnA p 19) g))))
  have loop3 : ∀ (n : Nat) (x : Int) (b2 : Option Value), (-9 ≤ x ∧ x ≤ 10 ∧ 11 ≤ x + n) → rn MX3_aim 66 [some (.ref b), some (.int (iN x)), b2] [] (w2W w ka sb (arO 72 (preF 72 (ssF p sh ln) f)) (arO 6 (preF 6 (cnA p (x + 9).toNat) g))) (fun r' w' => r' = none ∧ w' = w2W w ka sb (arO 72 (preF 72 (ssF p sh ln) f)) (arO 6 (preF 6 (cnA p 19) g))) := by
    intro n
    induction n with
    | zero =>
      intro x b2 hk0
      exfalso
      omega
    | succ n ih =>
      intro x b2 hk0
      obtain ⟨⟨qa, qaw⟩, -⟩ := Cd_w2W hC (arO 72 (preF 72 (ssF p sh ln) f)) (arO 6 (preF 6 (cnA p (x + 9).toNat) g)) hd
      obtain ⟨⟨qb, qbw⟩, ⟨qk, qkw⟩, ⟨qs, qsw⟩, -⟩ := hG.set (preF 72 (ssF p sh ln) f) (preF 6 (cnA p (x + 9).toNat) g)
      refine r_iload_n (pc2 := 67) dX3_aim_66 rfl rfl ?_
      refine r_bipush (pc2 := 69) dX3_aim_67 rfl (by decide) ?_
      refine r_icmp_gt (pc2 := 72) (tgt := 106) dX3_aim_69 rfl (by decide) (by omega) (by omega) (fun h69 => ?_) (fun h69 => ?_)
      · have h6 : x = 10 := by omega
        subst h6
        refine r_retv dX3_aim_106 rfl ?_
        have e19 : ((10 : Int) + 9).toNat = 19 := by decide
        exact ⟨rfl, by rw [e19]⟩
      · refine r_aload_n (pc2 := 73) dX3_aim_72 rfl rfl ?_
        refine r_getf (pc2 := 76) dX3_aim_73 rfl fl_3_18 (by assumption) (by assumption) (by rfl) ?_
        refine r_iload_n (pc2 := 77) dX3_aim_76 rfl rfl ?_
        refine r_callv_1 (pc2 := 80) dX3_aim_77 rfl rs_3_31 rfl (by decide) rfl (Nat.le_of_ble_eq_true rfl) (Nat.le_of_ble_eq_true rfl) (by assumption) (by assumption) (c_stepAt _ a ca sa v p sh ln pr gd co _ _ (Cd_w2W hC _ _ hd) hK x (by omega)) (fun r_ w_ h_ => ?_)
        obtain ⟨rfl, rfl⟩ := h_
        refine ⟨rfl, ?_⟩
        refine r_ist_2 (pc2 := 81) dX3_aim_80 rfl rfl ?_
        have hr := stZ_rg (an := x) hp (by omega)
        refine r_iload_n (pc2 := 82) dX3_aim_81 rfl rfl ?_
        refine r_iconst (pc2 := 83) dX3_aim_82 rfl ?_
        refine r_iconst (pc2 := 84) dX3_aim_83 rfl ?_
        refine r_calls_3 (pc2 := 87) dX3_aim_84 rfl rs_3_35 rfl (by decide) rfl (Nat.le_of_ble_eq_true rfl) (Nat.le_of_ble_eq_true rfl) (c_isWithin _ (stZ p x) 0 5 (by unfold RG; omega) (by unfold RG; omega) (by unfold RG; omega)) (fun r_ w_ h_ => ?_)
        obtain ⟨rfl, rfl⟩ := h_
        refine ⟨rfl, ?_⟩
        refine r_ifb_eq (pc2 := 90) (tgt := 100) dX3_aim_87 rfl (by decide)  (fun h87 => ?_) (fun h87 => ?_)
        · exfalso
          omega
        · refine r_aload_n (pc2 := 91) dX3_aim_90 rfl rfl ?_
          refine r_getf (pc2 := 94) dX3_aim_91 rfl fl_3_15 (by assumption) (by assumption) (by rfl) ?_
          refine r_iload_n (pc2 := 95) dX3_aim_94 rfl rfl ?_
          refine r_dup2 (pc2 := 96) dX3_aim_95 rfl rfl rfl ?_
          refine r_iald (pc2 := 97) dX3_aim_96 rfl (by decide) (by assumption) (by assumption) (by omega) (by omega) (by omega) ?_
          have hcr := cnA_rg (p := p) (n := (x + 9).toNat) (j := (stZ p x).toNat)
          refine r_iconst (pc2 := 98) dX3_aim_97 rfl ?_
          refine r_iadd (pc2 := 99) dX3_aim_98 rfl ?_
          refine r_iast (pc2 := 100) dX3_aim_99 rfl (by assumption) (by assumption) (by omega) (by omega) (by omega) ?_
          rw [w2W_b, updZ_cnA hk0.1 (by omega)]
          refine r_iinc_1 (pc2 := 103) dX3_aim_100 rfl rfl ?_
          refine r_goto (tgt := 66) dX3_aim_103 (by decide) ?_
          exact ih (x + 1) _ (by omega)
  have loop : ∀ (n : Nat) (x : Int) (b2 : Option Value), (0 ≤ x ∧ x ≤ 6 ∧ 7 ≤ x + n) → rn MX3_aim 2 [some (.ref b), some (.int (iN x)), b2] [] (w2W w ka sb (arO 72 (preF (x * 12) (ssF p sh ln) f)) (arO 6 (preF x (fun _ => 0) g))) (fun r' w' => r' = none ∧ w' = w2W w ka sb (arO 72 (preF 72 (ssF p sh ln) f)) (arO 6 (preF 6 (cnA p 19) g))) := by
    intro n
    induction n with
    | zero =>
      intro x b2 hk0
      exfalso
      omega
    | succ n ih =>
      intro x b2 hk0
      obtain ⟨⟨qa, qaw⟩, -⟩ := Cd_w2W hC (arO 72 (preF (x * 12) (ssF p sh ln) f)) (arO 6 (preF x (fun _ => 0) g)) hd
      obtain ⟨⟨qb, qbw⟩, ⟨qk, qkw⟩, ⟨qs, qsw⟩, -⟩ := hG.set (preF (x * 12) (ssF p sh ln) f) (preF x (fun _ => 0) g)
      refine r_iload_n (pc2 := 3) dX3_aim_2 rfl rfl ?_
      refine r_bipush (pc2 := 5) dX3_aim_3 rfl (by decide) ?_
      refine r_icmp_ge (pc2 := 8) (tgt := 63) dX3_aim_5 rfl (by decide) (by omega) (by omega) (fun h5 => ?_) (fun h5 => ?_)
      · have h6 : x = 6 := by omega
        subst h6
        refine r_bipush (pc2 := 65) dX3_aim_63 rfl (by decide) ?_
        refine r_ist_1 (pc2 := 66) dX3_aim_65 rfl rfl ?_
        have := loop3 20 (-9) b2 (by omega)
        exact this
      · refine r_aload_n (pc2 := 9) dX3_aim_8 rfl rfl ?_
        refine r_getf (pc2 := 12) dX3_aim_9 rfl fl_3_15 (by assumption) (by assumption) (by rfl) ?_
        refine r_iload_n (pc2 := 13) dX3_aim_12 rfl rfl ?_
        refine r_iconst (pc2 := 14) dX3_aim_13 rfl ?_
        refine r_iast (pc2 := 15) dX3_aim_14 rfl (by assumption) (by assumption) (by omega) (by omega) (by omega) ?_
        rw [w2W_b, preF_step hk0.1 (fun _ => 0) g]
        have inner : ∀ (n2 : Nat) (y : Int), (0 ≤ y ∧ y ≤ 12 ∧ 13 ≤ y + n2) → rn MX3_aim 17 [some (.ref b), some (.int (iN x)), some (.int (iN y))] [] (w2W w ka sb (arO 72 (preF (x * 12 + y) (ssF p sh ln) f)) (arO 6 (preF (x + 1) (fun _ => 0) g))) (fun r' w' => r' = none ∧ w' = w2W w ka sb (arO 72 (preF 72 (ssF p sh ln) f)) (arO 6 (preF 6 (cnA p 19) g))) := by
          intro n2
          induction n2 with
          | zero =>
            intro y hl0
            exfalso
            omega
          | succ n2 ih2 =>
            intro y hl0
            obtain ⟨⟨qai, qawi⟩, -⟩ := Cd_w2W hC (arO 72 (preF (x * 12 + y) (ssF p sh ln) f)) (arO 6 (preF (x + 1) (fun _ => 0) g)) hd
            obtain ⟨⟨qbi, qbwi⟩, ⟨qki, qkwi⟩, ⟨qsi, qswi⟩, -⟩ := hG.set (preF (x * 12 + y) (ssF p sh ln) f) (preF (x + 1) (fun _ => 0) g)
            refine r_iload_n (pc2 := 18) dX3_aim_17 rfl rfl ?_
            refine r_bipush (pc2 := 20) dX3_aim_18 rfl (by decide) ?_
            refine r_icmp_ge (pc2 := 23) (tgt := 57) dX3_aim_20 rfl (by decide) (by omega) (by omega) (fun h20 => ?_) (fun h20 => ?_)
            · have h6 : y = 12 := by omega
              subst h6
              rw [show x * 12 + 12 = (x + 1) * 12 by omega]
              refine r_iinc_1 (pc2 := 60) dX3_aim_57 rfl rfl ?_
              refine r_goto (tgt := 2) dX3_aim_60 (by decide) ?_
              exact ih (x + 1) _ (by omega)
            · refine r_aload_n (pc2 := 24) dX3_aim_23 rfl rfl ?_
              refine r_getf (pc2 := 27) dX3_aim_24 rfl fl_3_9 (by assumption) (by assumption) (by rfl) ?_
              refine r_iload_n (pc2 := 28) dX3_aim_27 rfl rfl ?_
              refine r_bipush (pc2 := 30) dX3_aim_28 rfl (by decide) ?_
              refine r_imul (pc2 := 31) dX3_aim_30 rfl ?_
              refine r_iload_n (pc2 := 32) dX3_aim_31 rfl rfl ?_
              refine r_iadd (pc2 := 33) dX3_aim_32 rfl ?_
              refine r_aload_n (pc2 := 34) dX3_aim_33 rfl rfl ?_
              refine r_getf (pc2 := 37) dX3_aim_34 rfl fl_3_18 (by assumption) (by assumption) (by rfl) ?_
              refine r_iload_n (pc2 := 38) dX3_aim_37 rfl rfl ?_
              refine r_aload_n (pc2 := 39) dX3_aim_38 rfl rfl ?_
              refine r_getf (pc2 := 42) dX3_aim_39 rfl fl_3_18 (by assumption) (by assumption) (by rfl) ?_
              refine r_iload_n (pc2 := 43) dX3_aim_42 rfl rfl ?_
              refine r_iload_n (pc2 := 44) dX3_aim_43 rfl rfl ?_
              refine r_callv_2 (pc2 := 47) dX3_aim_44 rfl rs_3_22 rfl (by decide) rfl (Nat.le_of_ble_eq_true rfl) (Nat.le_of_ble_eq_true rfl) (by assumption) (by assumption) (c_placeSeen _ a ca sa v p sh ln pr gd co _ _ (Cd_w2W hC _ _ hd) hK x y (by omega) (by omega)) (fun r_ w_ h_ => ?_)
              obtain ⟨rfl, rfl⟩ := h_
              refine ⟨rfl, ?_⟩
              refine r_callv_2 (pc2 := 50) dX3_aim_47 rfl rs_3_28 rfl (by decide) rfl (Nat.le_of_ble_eq_true rfl) (Nat.le_of_ble_eq_true rfl) (by assumption) (by assumption) (c_sliceBehind _ a ca sa v p sh ln pr gd co _ _ (Cd_w2W hC _ _ hd) hK y (plZ p ln x y) (by omega) (by have := plZ_rg (ln := ln) (st := x) (r := y) hp; omega)) (fun r_ w_ h_ => ?_)
              obtain ⟨rfl, rfl⟩ := h_
              refine ⟨rfl, ?_⟩
              rw [show (12 : Int) = 12 from rfl]
              have hpl := plZ_rg (ln := ln) (st := x) (r := y) hp
              refine r_iast (pc2 := 51) dX3_aim_50 rfl (by assumption) (by assumption) (by omega) (by omega) (by omega) ?_
              rw [w2W_a _ _ _ _ hng3, ← ssF_at (by omega) (by omega), preF_step (by omega), show x * 12 + y + 1 = x * 12 + (y + 1) by omega]
              refine r_iinc_2 (pc2 := 54) dX3_aim_51 rfl rfl ?_
              refine r_goto (tgt := 17) dX3_aim_54 (by decide) ?_
              exact ih2 (y + 1) (by omega)
        refine r_iconst (pc2 := 16) dX3_aim_15 rfl ?_
        refine r_ist_2 (pc2 := 17) dX3_aim_16 rfl rfl ?_
        have := inner 13 0 (by omega)
        rw [Int.add_zero] at this
        exact this
  refine r_iconst (pc2 := 1) dX3_aim_0 rfl ?_
  refine r_ist_1 (pc2 := 2) dX3_aim_1 rfl rfl ?_
  have := loop 7 0 none (by omega)
  rw [show (0 : Int) * 12 = 0 from rfl, preF_0, preF_0, w2W_id hkw hzw] at this
  exact this
end
section
/-! the Sight of a card: what is read of it -/
abbrev vS (s f : Nat → Int) (st r : Int) : Int := sD s (f (st * 12 + r).toNat)
abbrev ghC (s f : Nat → Int) (st r : Int) : Prop := (0 < r ∧ vS s f st (r - 1) ≠ vS s f st r) ∨ (r < 11 ∧ vS s f st (r + 1) ≠ vS s f st r)
def ghF (s f : Nat → Int) (st : Int) : Int := sm 12 (fun r => bz (ghC s f st r))
def rsF (s f : Nat → Int) (st x : Int) : Int := sm 12 (fun r => bz (vS s f st r = x))
def whF (s f : Nat → Int) (st : Int) : Int := if rsF s f st (vS s f st 0) = 12 then vS s f st 0 else -1
def gaF (p : Int) (s f g : Nat → Int) : Int := sm p.toNat (fun st => g st * ghF s f st)
def mvF (s f : Nat → Int) (st : Int) : Nat → Int × Int
  | 0 => (0, -1)
  | n + 1 => if (mvF s f st n).1 < rsF s f st n then (rsF s f st n, n) else mvF s f st n
def asF (p : Int) (s f g : Nat → Int) (x : Int) : Int := sm p.toNat (fun st => if whF s f st = x then g st else 0)
def wvF (p v : Int) (s f g : Nat → Int) : Int := sm v.toNat (fun x => bz (0 < asF p s f g x))
/-- clearest angle, ridges, ghosts -/
def clF (p : Int) (s f : Nat → Int) (x : Int) : Nat → Int × Int × Int
  | 0 => (-9, -1, 0)
  | n + 1 => if (clF p s f x n).2.1 < rsF s f (stZ p ((n : Int) - 9)) x ∨ (rsF s f (stZ p ((n : Int) - 9)) x = (clF p s f x n).2.1 ∧ ghF s f (stZ p ((n : Int) - 9)) < (clF p s f x n).2.2) then ((n : Int) - 9, rsF s f (stZ p ((n : Int) - 9)) x, ghF s f (stZ p ((n : Int) - 9))) else clF p s f x n
theorem ghF_rg (s f : Nat → Int) (st : Int) : 0 ≤ ghF s f st ∧ ghF s f st ≤ 12 := by
  have h := sm_rg (n := 12) (f := fun r => bz (ghC s f st (r : Int))) (L := 0) (H := 1) (fun j _ => bz_rg)
  unfold ghF
  omega
theorem rsF_rg (s f : Nat → Int) (st x : Int) : 0 ≤ rsF s f st x ∧ rsF s f st x ≤ 12 := by
  have h := sm_rg (n := 12) (f := fun r => bz (vS s f st (r : Int) = x)) (L := 0) (H := 1) (fun j _ => bz_rg)
  unfold rsF
  omega
theorem vS_rg {s f : Nat → Int} (hS : SR s) (st r : Int) : -1 ≤ vS s f st r ∧ vS s f st r ≤ 3 := sD_rg (fun j hj => ⟨by have := hS j hj; omega, (hS j hj).2⟩) (by omega) (by omega) _
theorem whF_rg {s f : Nat → Int} (hS : SR s) (st : Int) : -1 ≤ whF s f st ∧ whF s f st ≤ 3 := by
  have := vS_rg (f := f) hS st 0
  unfold whF
  split <;> omega
theorem mvF_rg (s f : Nat → Int) (st : Int) (n : Nat) : (0 ≤ (mvF s f st n).1 ∧ (mvF s f st n).1 ≤ 12) ∧ (-1 ≤ (mvF s f st n).2 ∧ (mvF s f st n).2 < n) := by
  induction n with
  | zero => simp [mvF]
  | succ n ih =>
    unfold mvF
    have := rsF_rg s f st n
    split
    · dsimp only
      omega
    · omega
theorem clF_rg (p : Int) (s f : Nat → Int) (x : Int) (n : Nat) (hn : n ≤ 19) : (-9 ≤ (clF p s f x n).1 ∧ (clF p s f x n).1 ≤ 9) ∧ (-1 ≤ (clF p s f x n).2.1 ∧ (clF p s f x n).2.1 ≤ 12) ∧ (0 ≤ (clF p s f x n).2.2 ∧ (clF p s f x n).2.2 ≤ 12) := by
  induction n with
  | zero => simp [clF]
  | succ n ih =>
    unfold clF
    have h1 := rsF_rg s f (stZ p ((n : Int) - 9)) x
    have h2 := ghF_rg s f (stZ p ((n : Int) - 9))
    have h3 := ih (by omega)
    split
    · dsimp only
      omega
    · exact h3
theorem asF_rg {p : Int} (hp : 2 ≤ p ∧ p ≤ 6) {s f g : Nat → Int} (hg : ∀ j, j < 6 → 0 ≤ g j ∧ g j ≤ 19) (x : Int) : 0 ≤ asF p s f g x ∧ asF p s f g x ≤ 114 := by
  have h := sm_rg (n := p.toNat) (f := fun st => if whF s f (st : Int) = x then g st else 0) (L := 0) (H := 19) (fun j hj => by
    have := hg j (by omega)
    split <;> omega)
  unfold asF
  omega

set_option maxHeartbeats 4000000 in
theorem c_viewSeen (w : av_W) (a ca sa : Nat) (v p sh ln pr gd co : Int) (c s : Nat → Int) (hC : Cd w a ca sa v p sh ln pr gd co c s) (hK : KR v p sh ln) (hS : SR s) (b ka sb : Nat) (f g : Nat → Int) (hG : Sg w a b ka sb f g) (hF : ∀ j, j < 72 → -1 ≤ f j ∧ f j ≤ 5) (x y : Int) (hx : 0 ≤ x ∧ x ≤ 5) (hy : 0 ≤ y ∧ y ≤ 11) : fn MX3_viewSeen [.ref b, .int (iN x), .int (iN y)] w (some (.int (iN (vS s f x y)))) w := by
  obtain ⟨⟨ha, hw⟩, ⟨hca, hcw⟩, ⟨hsa, hsw⟩, hne1, hne2, hne3⟩ := id hC
  obtain ⟨hv, hp, hsh, hln⟩ := id hK
  obtain ⟨⟨hb, hbw⟩, ⟨hka, hkw⟩, ⟨hsb, hzw⟩, hng1, hng2, hng3⟩ := id hG
  try unfold RG at *
  show rn MX3_viewSeen 0 [some (.ref b), some (.int (iN x)), some (.int (iN y))] [] w _
  refine r_iload_n (pc2 := 1) dX3_viewSeen_0 rfl rfl ?_
  refine r_if_lt (pc2 := 4) (tgt := 20) dX3_viewSeen_1 rfl (by decide) (by omega) (fun h1 => ?_) (fun h1 => ?_)
  · exfalso
    omega
  · refine r_iload_n (pc2 := 5) dX3_viewSeen_4 rfl rfl ?_
    refine r_bipush (pc2 := 7) dX3_viewSeen_5 rfl (by decide) ?_
    refine r_icmp_ge (pc2 := 10) (tgt := 20) dX3_viewSeen_7 rfl (by decide) (by omega) (by omega) (fun h7 => ?_) (fun h7 => ?_)
    · exfalso
      omega
    · refine r_iload_n (pc2 := 11) dX3_viewSeen_10 rfl rfl ?_
      refine r_if_lt (pc2 := 14) (tgt := 20) dX3_viewSeen_11 rfl (by decide) (by omega) (fun h11 => ?_) (fun h11 => ?_)
      · exfalso
        omega
      · refine r_iload_n (pc2 := 15) dX3_viewSeen_14 rfl rfl ?_
        refine r_bipush (pc2 := 17) dX3_viewSeen_15 rfl (by decide) ?_
        refine r_icmp_lt (pc2 := 20) (tgt := 22) dX3_viewSeen_17 rfl (by decide) (by omega) (by omega) (fun h17 => ?_) (fun h17 => ?_)
        · refine r_aload_n (pc2 := 23) dX3_viewSeen_22 rfl rfl ?_
          refine r_getf (pc2 := 26) dX3_viewSeen_23 rfl fl_3_18 (by assumption) (by assumption) (by rfl) ?_
          refine r_aload_n (pc2 := 27) dX3_viewSeen_26 rfl rfl ?_
          refine r_getf (pc2 := 30) dX3_viewSeen_27 rfl fl_3_9 (by assumption) (by assumption) (by rfl) ?_
          refine r_iload_n (pc2 := 31) dX3_viewSeen_30 rfl rfl ?_
          refine r_bipush (pc2 := 33) dX3_viewSeen_31 rfl (by decide) ?_
          refine r_imul (pc2 := 34) dX3_viewSeen_33 rfl ?_
          refine r_iload_n (pc2 := 35) dX3_viewSeen_34 rfl rfl ?_
          refine r_iadd (pc2 := 36) dX3_viewSeen_35 rfl ?_
          refine r_iald (pc2 := 37) dX3_viewSeen_36 rfl (by decide) (by assumption) (by assumption) (by omega) (by omega) (by omega) ?_
          have hfj := hF (x * 12 + y).toNat (by omega)
          refine r_callv_1 (pc2 := 40) dX3_viewSeen_37 rfl rs_3_39 rfl (by decide) rfl (Nat.le_of_ble_eq_true rfl) (Nat.le_of_ble_eq_true rfl) (by assumption) (by assumption) (c_viewDue _ a ca sa v p sh ln pr gd co c s hC hK (f (x * 12 + y).toNat) (by unfold RG; omega)) (fun r_ w_ h_ => ?_)
          obtain ⟨rfl, rfl⟩ := h_
          refine ⟨rfl, ?_⟩
          refine r_ret dX3_viewSeen_40 rfl ?_
          exact ⟨rfl, rfl⟩
        · exfalso
          omega

set_option maxHeartbeats 4000000 in
theorem c_isGhost (w : av_W) (a ca sa : Nat) (v p sh ln pr gd co : Int) (c s : Nat → Int) (hC : Cd w a ca sa v p sh ln pr gd co c s) (hK : KR v p sh ln) (hS : SR s) (b ka sb : Nat) (f g : Nat → Int) (hG : Sg w a b ka sb f g) (hF : ∀ j, j < 72 → -1 ≤ f j ∧ f j ≤ 5) (x y : Int) (hx : 0 ≤ x ∧ x ≤ 5) (hy : 0 ≤ y ∧ y ≤ 11) : fn MX3_isGhost [.ref b, .int (iN x), .int (iN y)] w (some (.int (iN (bz (ghC s f x y))))) w := by
  obtain ⟨⟨ha, hw⟩, ⟨hca, hcw⟩, ⟨hsa, hsw⟩, hne1, hne2, hne3⟩ := id hC
  obtain ⟨hv, hp, hsh, hln⟩ := id hK
  obtain ⟨⟨hb, hbw⟩, ⟨hka, hkw⟩, ⟨hsb, hzw⟩, hng1, hng2, hng3⟩ := id hG
  try unfold RG at *
  have g0 := vS_rg (f := f) hS x y
  have g1 := vS_rg (f := f) hS x (y - 1)
  have g2 := vS_rg (f := f) hS x (y + 1)
  show rn MX3_isGhost 0 [some (.ref b), some (.int (iN x)), some (.int (iN y)), none] [] w _
  refine r_aload_n (pc2 := 1) dX3_isGhost_0 rfl rfl ?_
  refine r_iload_n (pc2 := 2) dX3_isGhost_1 rfl rfl ?_
  refine r_iload_n (pc2 := 3) dX3_isGhost_2 rfl rfl ?_
  refine r_callv_2 (pc2 := 6) dX3_isGhost_3 rfl rs_3_42 rfl (by decide) rfl (Nat.le_of_ble_eq_true rfl) (Nat.le_of_ble_eq_true rfl) (by assumption) (by assumption) (c_viewSeen _ a ca sa v p sh ln pr gd co c s hC hK hS b ka sb f g hG hF x y (by omega) (by omega)) (fun r_ w_ h_ => ?_)
  obtain ⟨rfl, rfl⟩ := h_
  refine ⟨rfl, ?_⟩
  refine r_ist_3 (pc2 := 7) dX3_isGhost_6 rfl rfl ?_
  refine r_iload_n (pc2 := 8) dX3_isGhost_7 rfl rfl ?_
  refine r_if_le (pc2 := 11) (tgt := 23) dX3_isGhost_8 rfl (by decide) (by omega) (fun h8 => ?_) (fun h8 => ?_)
  · refine r_iload_n (pc2 := 24) dX3_isGhost_23 rfl rfl ?_
    refine r_bipush (pc2 := 26) dX3_isGhost_24 rfl (by decide) ?_
    refine r_icmp_ge (pc2 := 29) (tgt := 45) dX3_isGhost_26 rfl (by decide) (by omega) (by omega) (fun h26 => ?_) (fun h26 => ?_)
    · refine r_iconst (pc2 := 46) dX3_isGhost_45 rfl ?_
      refine r_retb dX3_isGhost_46 rfl (by first | exact Or.inl rfl | exact Or.inr rfl | exact bz_01) ?_
      exact ⟨by first | (exfalso; omega) | rw [bz_t (by unfold ghC; omega)] | rw [bz_f (by unfold ghC; omega)], rfl⟩
    · refine r_aload_n (pc2 := 30) dX3_isGhost_29 rfl rfl ?_
      refine r_iload_n (pc2 := 31) dX3_isGhost_30 rfl rfl ?_
      refine r_iload_n (pc2 := 32) dX3_isGhost_31 rfl rfl ?_
      refine r_iconst (pc2 := 33) dX3_isGhost_32 rfl ?_
      refine r_iadd (pc2 := 34) dX3_isGhost_33 rfl ?_
      refine r_callv_2 (pc2 := 37) dX3_isGhost_34 rfl rs_3_42 rfl (by decide) rfl (Nat.le_of_ble_eq_true rfl) (Nat.le_of_ble_eq_true rfl) (by assumption) (by assumption) (c_viewSeen _ a ca sa v p sh ln pr gd co c s hC hK hS b ka sb f g hG hF x (y + 1) (by omega) (by omega)) (fun r_ w_ h_ => ?_)
      obtain ⟨rfl, rfl⟩ := h_
      refine ⟨rfl, ?_⟩
      refine r_iload_n (pc2 := 38) dX3_isGhost_37 rfl rfl ?_
      refine r_icmp_eq (pc2 := 41) (tgt := 45) dX3_isGhost_38 rfl (by decide) (by omega) (by omega) (fun h38 => ?_) (fun h38 => ?_)
      · refine r_iconst (pc2 := 46) dX3_isGhost_45 rfl ?_
        refine r_retb dX3_isGhost_46 rfl (by first | exact Or.inl rfl | exact Or.inr rfl | exact bz_01) ?_
        exact ⟨by first | (exfalso; omega) | rw [bz_t (by unfold ghC; omega)] | rw [bz_f (by unfold ghC; omega)], rfl⟩
      · refine r_iconst (pc2 := 42) dX3_isGhost_41 rfl ?_
        refine r_goto (tgt := 46) dX3_isGhost_42 (by decide) ?_
        refine r_retb dX3_isGhost_46 rfl (by first | exact Or.inl rfl | exact Or.inr rfl | exact bz_01) ?_
        exact ⟨by first | (exfalso; omega) | rw [bz_t (by unfold ghC; omega)] | rw [bz_f (by unfold ghC; omega)], rfl⟩
  · refine r_aload_n (pc2 := 12) dX3_isGhost_11 rfl rfl ?_
    refine r_iload_n (pc2 := 13) dX3_isGhost_12 rfl rfl ?_
    refine r_iload_n (pc2 := 14) dX3_isGhost_13 rfl rfl ?_
    refine r_iconst (pc2 := 15) dX3_isGhost_14 rfl ?_
    refine r_isub (pc2 := 16) dX3_isGhost_15 rfl ?_
    refine r_callv_2 (pc2 := 19) dX3_isGhost_16 rfl rs_3_42 rfl (by decide) rfl (Nat.le_of_ble_eq_true rfl) (Nat.le_of_ble_eq_true rfl) (by assumption) (by assumption) (c_viewSeen _ a ca sa v p sh ln pr gd co c s hC hK hS b ka sb f g hG hF x (y - 1) (by omega) (by omega)) (fun r_ w_ h_ => ?_)
    obtain ⟨rfl, rfl⟩ := h_
    refine ⟨rfl, ?_⟩
    refine r_iload_n (pc2 := 20) dX3_isGhost_19 rfl rfl ?_
    refine r_icmp_ne (pc2 := 23) (tgt := 41) dX3_isGhost_20 rfl (by decide) (by omega) (by omega) (fun h20 => ?_) (fun h20 => ?_)
    · refine r_iconst (pc2 := 42) dX3_isGhost_41 rfl ?_
      refine r_goto (tgt := 46) dX3_isGhost_42 (by decide) ?_
      refine r_retb dX3_isGhost_46 rfl (by first | exact Or.inl rfl | exact Or.inr rfl | exact bz_01) ?_
      exact ⟨by first | (exfalso; omega) | rw [bz_t (by unfold ghC; omega)] | rw [bz_f (by unfold ghC; omega)], rfl⟩
    · refine r_iload_n (pc2 := 24) dX3_isGhost_23 rfl rfl ?_
      refine r_bipush (pc2 := 26) dX3_isGhost_24 rfl (by decide) ?_
      refine r_icmp_ge (pc2 := 29) (tgt := 45) dX3_isGhost_26 rfl (by decide) (by omega) (by omega) (fun h26 => ?_) (fun h26 => ?_)
      · refine r_iconst (pc2 := 46) dX3_isGhost_45 rfl ?_
        refine r_retb dX3_isGhost_46 rfl (by first | exact Or.inl rfl | exact Or.inr rfl | exact bz_01) ?_
        exact ⟨by first | (exfalso; omega) | rw [bz_t (by unfold ghC; omega)] | rw [bz_f (by unfold ghC; omega)], rfl⟩
      · refine r_aload_n (pc2 := 30) dX3_isGhost_29 rfl rfl ?_
        refine r_iload_n (pc2 := 31) dX3_isGhost_30 rfl rfl ?_
        refine r_iload_n (pc2 := 32) dX3_isGhost_31 rfl rfl ?_
        refine r_iconst (pc2 := 33) dX3_isGhost_32 rfl ?_
        refine r_iadd (pc2 := 34) dX3_isGhost_33 rfl ?_
        refine r_callv_2 (pc2 := 37) dX3_isGhost_34 rfl rs_3_42 rfl (by decide) rfl (Nat.le_of_ble_eq_true rfl) (Nat.le_of_ble_eq_true rfl) (by assumption) (by assumption) (c_viewSeen _ a ca sa v p sh ln pr gd co c s hC hK hS b ka sb f g hG hF x (y + 1) (by omega) (by omega)) (fun r_ w_ h_ => ?_)
        obtain ⟨rfl, rfl⟩ := h_
        refine ⟨rfl, ?_⟩
        refine r_iload_n (pc2 := 38) dX3_isGhost_37 rfl rfl ?_
        refine r_icmp_eq (pc2 := 41) (tgt := 45) dX3_isGhost_38 rfl (by decide) (by omega) (by omega) (fun h38 => ?_) (fun h38 => ?_)
        · refine r_iconst (pc2 := 46) dX3_isGhost_45 rfl ?_
          refine r_retb dX3_isGhost_46 rfl (by first | exact Or.inl rfl | exact Or.inr rfl | exact bz_01) ?_
          exact ⟨by first | (exfalso; omega) | rw [bz_t (by unfold ghC; omega)] | rw [bz_f (by unfold ghC; omega)], rfl⟩
        · refine r_iconst (pc2 := 42) dX3_isGhost_41 rfl ?_
          refine r_goto (tgt := 46) dX3_isGhost_42 (by decide) ?_
          refine r_retb dX3_isGhost_46 rfl (by first | exact Or.inl rfl | exact Or.inr rfl | exact bz_01) ?_
          exact ⟨by first | (exfalso; omega) | rw [bz_t (by unfold ghC; omega)] | rw [bz_f (by unfold ghC; omega)], rfl⟩

set_option maxHeartbeats 4000000 in
theorem c_ghosts (w : av_W) (a ca sa : Nat) (v p sh ln pr gd co : Int) (c s : Nat → Int) (hC : Cd w a ca sa v p sh ln pr gd co c s) (hK : KR v p sh ln) (hS : SR s) (b ka sb : Nat) (f g : Nat → Int) (hG : Sg w a b ka sb f g) (hF : ∀ j, j < 72 → -1 ≤ f j ∧ f j ≤ 5) (x : Int) (hx : 0 ≤ x ∧ x ≤ 5) : fn MX3_ghosts [.ref b, .int (iN x)] w (some (.int (iN (ghF s f x)))) w := by
  obtain ⟨⟨ha, hw⟩, ⟨hca, hcw⟩, ⟨hsa, hsw⟩, hne1, hne2, hne3⟩ := id hC
  obtain ⟨hv, hp, hsh, hln⟩ := id hK
  obtain ⟨⟨hb, hbw⟩, ⟨hka, hkw⟩, ⟨hsb, hzw⟩, hng1, hng2, hng3⟩ := id hG
  try unfold RG at *
  show rn MX3_ghosts 0 [some (.ref b), some (.int (iN x)), none, none] [] w (fun r' w' => r' = (some (.int (iN (ghF s f x)))) ∧ w' = w)
  have loop : ∀ (n : Nat) (k : Int) (m : Int), (0 ≤ k ∧ k ≤ 12 ∧ 13 ≤ k + n) → (m = sm k.toNat (fun r => bz (ghC s f x r))) → rn MX3_ghosts 4 [some (.ref b), some (.int (iN x)), some (.int (iN m)), some (.int (iN k))] [] w (fun r' w' => r' = (some (.int (iN (ghF s f x)))) ∧ w' = w) := by
    intro n
    induction n with
    | zero =>
      intro k m hk0 hk1
      exfalso
      omega
    | succ n ih =>
      intro k m hk0 hk1
      refine r_iload_n (pc2 := 5) dX3_ghosts_4 rfl rfl ?_
      refine r_bipush (pc2 := 7) dX3_ghosts_5 rfl (by decide) ?_
      refine r_icmp_ge (pc2 := 10) (tgt := 28) dX3_ghosts_7 rfl (by decide) (by omega) (by omega) (fun h7 => ?_) (fun h7 => ?_)
      · have h6 : k = 12 := by omega
        subst h6
        refine r_iload_n (pc2 := 29) dX3_ghosts_28 rfl rfl ?_
        refine r_ret dX3_ghosts_29 rfl ?_
        exact ⟨by rw [hk1]; rfl, rfl⟩
      · refine r_aload_n (pc2 := 11) dX3_ghosts_10 rfl rfl ?_
        refine r_iload_n (pc2 := 12) dX3_ghosts_11 rfl rfl ?_
        refine r_iload_n (pc2 := 13) dX3_ghosts_12 rfl rfl ?_
        refine r_callv_2 (pc2 := 16) dX3_ghosts_13 rfl rs_3_45 rfl (by decide) rfl (Nat.le_of_ble_eq_true rfl) (Nat.le_of_ble_eq_true rfl) (by assumption) (by assumption) (c_isGhost _ a ca sa v p sh ln pr gd co c s hC hK hS b ka sb f g hG hF x k hx (by omega)) (fun r_ w_ h_ => ?_)
        obtain ⟨rfl, rfl⟩ := h_
        refine ⟨rfl, ?_⟩
        refine r_ifb_eq (pc2 := 19) (tgt := 22) dX3_ghosts_16 rfl (by decide)  (fun h16 => ?_) (fun h16 => ?_)
        · have hq : bz (ghC s f x k) = 0 := bz_f h16
          rw [show m = m + 0 by omega]
          refine r_iinc_3 (pc2 := 25) dX3_ghosts_22 rfl rfl ?_
          refine r_goto (tgt := 4) dX3_ghosts_25 (by decide) ?_
          exact ih (k + 1) _ (by omega) (by rw [sm_step hk0.1, ← hk1, tn hk0.1, hq])
        · have hq : bz (ghC s f x k) = 1 := bz_t h16
          refine r_iinc_2 (pc2 := 22) dX3_ghosts_19 rfl rfl ?_
          refine r_iinc_3 (pc2 := 25) dX3_ghosts_22 rfl rfl ?_
          refine r_goto (tgt := 4) dX3_ghosts_25 (by decide) ?_
          exact ih (k + 1) _ (by omega) (by rw [sm_step hk0.1, ← hk1, tn hk0.1, hq])
  refine r_iconst (pc2 := 1) dX3_ghosts_0 rfl ?_
  refine r_ist_2 (pc2 := 2) dX3_ghosts_1 rfl rfl ?_
  refine r_iconst (pc2 := 3) dX3_ghosts_2 rfl ?_
  refine r_ist_3 (pc2 := 4) dX3_ghosts_3 rfl rfl ?_
  exact loop 13 0 0 (by omega) rfl

set_option maxHeartbeats 4000000 in
theorem c_ridgesShowing (w : av_W) (a ca sa : Nat) (v p sh ln pr gd co : Int) (c s : Nat → Int) (hC : Cd w a ca sa v p sh ln pr gd co c s) (hK : KR v p sh ln) (hS : SR s) (b ka sb : Nat) (f g : Nat → Int) (hG : Sg w a b ka sb f g) (hF : ∀ j, j < 72 → -1 ≤ f j ∧ f j ≤ 5) (x y : Int) (hx : 0 ≤ x ∧ x ≤ 5) (hy : RG y) : fn MX3_ridgesShowing [.ref b, .int (iN x), .int (iN y)] w (some (.int (iN (rsF s f x y)))) w := by
  obtain ⟨⟨ha, hw⟩, ⟨hca, hcw⟩, ⟨hsa, hsw⟩, hne1, hne2, hne3⟩ := id hC
  obtain ⟨hv, hp, hsh, hln⟩ := id hK
  obtain ⟨⟨hb, hbw⟩, ⟨hka, hkw⟩, ⟨hsb, hzw⟩, hng1, hng2, hng3⟩ := id hG
  try unfold RG at *
  show rn MX3_ridgesShowing 0 [some (.ref b), some (.int (iN x)), some (.int (iN y)), none, none] [] w (fun r' w' => r' = (some (.int (iN (rsF s f x y)))) ∧ w' = w)
  have loop : ∀ (n : Nat) (k : Int) (m : Int), (0 ≤ k ∧ k ≤ 12 ∧ 13 ≤ k + n) → (m = sm k.toNat (fun r => bz (vS s f x r = y))) → rn MX3_ridgesShowing 5 [some (.ref b), some (.int (iN x)), some (.int (iN y)), some (.int (iN m)), some (.int (iN k))] [] w (fun r' w' => r' = (some (.int (iN (rsF s f x y)))) ∧ w' = w) := by
    intro n
    induction n with
    | zero =>
      intro k m hk0 hk1
      exfalso
      omega
    | succ n ih =>
      intro k m hk0 hk1
      refine r_iload (pc2 := 7) dX3_ridgesShowing_5 rfl rfl ?_
      refine r_bipush (pc2 := 9) dX3_ridgesShowing_7 rfl (by decide) ?_
      refine r_icmp_ge (pc2 := 12) (tgt := 32) dX3_ridgesShowing_9 rfl (by decide) (by omega) (by omega) (fun h9 => ?_) (fun h9 => ?_)
      · have h6 : k = 12 := by omega
        subst h6
        refine r_iload_n (pc2 := 33) dX3_ridgesShowing_32 rfl rfl ?_
        refine r_ret dX3_ridgesShowing_33 rfl ?_
        exact ⟨by rw [hk1]; rfl, rfl⟩
      · refine r_aload_n (pc2 := 13) dX3_ridgesShowing_12 rfl rfl ?_
        refine r_iload_n (pc2 := 14) dX3_ridgesShowing_13 rfl rfl ?_
        refine r_iload (pc2 := 16) dX3_ridgesShowing_14 rfl rfl ?_
        refine r_callv_2 (pc2 := 19) dX3_ridgesShowing_16 rfl rs_3_42 rfl (by decide) rfl (Nat.le_of_ble_eq_true rfl) (Nat.le_of_ble_eq_true rfl) (by assumption) (by assumption) (c_viewSeen _ a ca sa v p sh ln pr gd co c s hC hK hS b ka sb f g hG hF x k (by omega) (by omega)) (fun r_ w_ h_ => ?_)
        obtain ⟨rfl, rfl⟩ := h_
        refine ⟨rfl, ?_⟩
        refine r_iload_n (pc2 := 20) dX3_ridgesShowing_19 rfl rfl ?_
        have g0 := vS_rg (f := f) hS x k
        refine r_icmp_ne (pc2 := 23) (tgt := 26) dX3_ridgesShowing_20 rfl (by decide) (by omega) (by omega) (fun h20 => ?_) (fun h20 => ?_)
        · have hq : bz (vS s f x k = y) = 0 := bz_f h20
          rw [show m = m + 0 by omega]
          refine r_iinc_4 (pc2 := 29) dX3_ridgesShowing_26 rfl rfl ?_
          refine r_goto (tgt := 5) dX3_ridgesShowing_29 (by decide) ?_
          exact ih (k + 1) _ (by omega) (by rw [sm_step hk0.1, ← hk1, tn hk0.1, hq])
        · have hq : bz (vS s f x k = y) = 1 := bz_t h20
          refine r_iinc_3 (pc2 := 26) dX3_ridgesShowing_23 rfl rfl ?_
          refine r_iinc_4 (pc2 := 29) dX3_ridgesShowing_26 rfl rfl ?_
          refine r_goto (tgt := 5) dX3_ridgesShowing_29 (by decide) ?_
          exact ih (k + 1) _ (by omega) (by rw [sm_step hk0.1, ← hk1, tn hk0.1, hq])
  refine r_iconst (pc2 := 1) dX3_ridgesShowing_0 rfl ?_
  refine r_ist_3 (pc2 := 2) dX3_ridgesShowing_1 rfl rfl ?_
  refine r_iconst (pc2 := 3) dX3_ridgesShowing_2 rfl ?_
  refine r_ist_4 (pc2 := 5) dX3_ridgesShowing_3 rfl rfl ?_
  exact loop 13 0 0 (by omega) rfl

set_option maxHeartbeats 4000000 in
theorem c_wholeView (w : av_W) (a ca sa : Nat) (v p sh ln pr gd co : Int) (c s : Nat → Int) (hC : Cd w a ca sa v p sh ln pr gd co c s) (hK : KR v p sh ln) (hS : SR s) (b ka sb : Nat) (f g : Nat → Int) (hG : Sg w a b ka sb f g) (hF : ∀ j, j < 72 → -1 ≤ f j ∧ f j ≤ 5) (x : Int) (hx : 0 ≤ x ∧ x ≤ 5) : fn MX3_wholeView [.ref b, .int (iN x)] w (some (.int (iN (whF s f x)))) w := by
  obtain ⟨⟨ha, hw⟩, ⟨hca, hcw⟩, ⟨hsa, hsw⟩, hne1, hne2, hne3⟩ := id hC
  obtain ⟨hv, hp, hsh, hln⟩ := id hK
  obtain ⟨⟨hb, hbw⟩, ⟨hka, hkw⟩, ⟨hsb, hzw⟩, hng1, hng2, hng3⟩ := id hG
  try unfold RG at *
  have g0 := vS_rg (f := f) hS x 0
  have g1 := rsF_rg s f x (vS s f x 0)
  show rn MX3_wholeView 0 [some (.ref b), some (.int (iN x)), none] [] w _
  refine r_aload_n (pc2 := 1) dX3_wholeView_0 rfl rfl ?_
  refine r_iload_n (pc2 := 2) dX3_wholeView_1 rfl rfl ?_
  refine r_iconst (pc2 := 3) dX3_wholeView_2 rfl ?_
  refine r_callv_2 (pc2 := 6) dX3_wholeView_3 rfl rs_3_42 rfl (by decide) rfl (Nat.le_of_ble_eq_true rfl) (Nat.le_of_ble_eq_true rfl) (by assumption) (by assumption) (c_viewSeen _ a ca sa v p sh ln pr gd co c s hC hK hS b ka sb f g hG hF x 0 (by omega) (by omega)) (fun r_ w_ h_ => ?_)
  obtain ⟨rfl, rfl⟩ := h_
  refine ⟨rfl, ?_⟩
  refine r_ist_2 (pc2 := 7) dX3_wholeView_6 rfl rfl ?_
  refine r_aload_n (pc2 := 8) dX3_wholeView_7 rfl rfl ?_
  refine r_iload_n (pc2 := 9) dX3_wholeView_8 rfl rfl ?_
  refine r_iload_n (pc2 := 10) dX3_wholeView_9 rfl rfl ?_
  refine r_callv_2 (pc2 := 13) dX3_wholeView_10 rfl rs_3_56 rfl (by decide) rfl (Nat.le_of_ble_eq_true rfl) (Nat.le_of_ble_eq_true rfl) (by assumption) (by assumption) (c_ridgesShowing _ a ca sa v p sh ln pr gd co c s hC hK hS b ka sb f g hG hF x (vS s f x 0) (by omega) (by unfold RG; omega)) (fun r_ w_ h_ => ?_)
  obtain ⟨rfl, rfl⟩ := h_
  refine ⟨rfl, ?_⟩
  refine r_bipush (pc2 := 15) dX3_wholeView_13 rfl (by decide) ?_
  refine r_icmp_ne (pc2 := 18) (tgt := 22) dX3_wholeView_15 rfl (by decide) (by omega) (by omega) (fun h15 => ?_) (fun h15 => ?_)
  · refine r_iconst (pc2 := 23) dX3_wholeView_22 rfl ?_
    refine r_ret dX3_wholeView_23 rfl ?_
    exact ⟨by unfold whF; first | rw [if_pos (by omega)] | rw [if_neg (by omega)], rfl⟩
  · refine r_iload_n (pc2 := 19) dX3_wholeView_18 rfl rfl ?_
    refine r_goto (tgt := 23) dX3_wholeView_19 (by decide) ?_
    refine r_ret dX3_wholeView_23 rfl ?_
    exact ⟨by unfold whF; first | rw [if_pos (by omega)] | rw [if_neg (by omega)], rfl⟩

set_option maxHeartbeats 4000000 in
theorem c_ghostsAll (w : av_W) (a ca sa : Nat) (v p sh ln pr gd co : Int) (c s : Nat → Int) (hC : Cd w a ca sa v p sh ln pr gd co c s) (hK : KR v p sh ln) (hS : SR s) (b ka sb : Nat) (f g : Nat → Int) (hG : Sg w a b ka sb f g) (hF : ∀ j, j < 72 → -1 ≤ f j ∧ f j ≤ 5) : fn MX3_ghostsAtAllAngles [.ref b] w (some (.int (iN (gaF p s f g)))) w := by
  obtain ⟨⟨ha, hw⟩, ⟨hca, hcw⟩, ⟨hsa, hsw⟩, hne1, hne2, hne3⟩ := id hC
  obtain ⟨hv, hp, hsh, hln⟩ := id hK
  obtain ⟨⟨hb, hbw⟩, ⟨hka, hkw⟩, ⟨hsb, hzw⟩, hng1, hng2, hng3⟩ := id hG
  try unfold RG at *
  show rn MX3_ghostsAtAllAngles 0 [some (.ref b), none, none] [] w (fun r' w' => r' = (some (.int (iN (gaF p s f g)))) ∧ w' = w)
  have loop : ∀ (n : Nat) (k : Int) (m : Int), (0 ≤ k ∧ k ≤ p ∧ p + 1 ≤ k + n) → (m = sm k.toNat (fun st => g st * ghF s f st)) → rn MX3_ghostsAtAllAngles 4 [some (.ref b), some (.int (iN m)), some (.int (iN k))] [] w (fun r' w' => r' = (some (.int (iN (gaF p s f g)))) ∧ w' = w) := by
    intro n
    induction n with
    | zero =>
      intro k m hk0 hk1
      exfalso
      omega
    | succ n ih =>
      intro k m hk0 hk1
      refine r_iload_n (pc2 := 5) dX3_ghostsAtAllAngles_4 rfl rfl ?_
      refine r_aload_n (pc2 := 6) dX3_ghostsAtAllAngles_5 rfl rfl ?_
      refine r_getf (pc2 := 9) dX3_ghostsAtAllAngles_6 rfl fl_3_18 (by assumption) (by assumption) (by rfl) ?_
      refine r_getf (pc2 := 12) dX3_ghostsAtAllAngles_9 rfl fl_3_49 (by assumption) (by assumption) (by rfl) ?_
      refine r_icmp_ge (pc2 := 15) (tgt := 42) dX3_ghostsAtAllAngles_12 rfl (by decide) (by omega) (by omega) (fun h12 => ?_) (fun h12 => ?_)
      · have h6 : k = p := by omega
        subst h6
        refine r_iload_n (pc2 := 43) dX3_ghostsAtAllAngles_42 rfl rfl ?_
        refine r_ret dX3_ghostsAtAllAngles_43 rfl ?_
        exact ⟨by rw [hk1]; rfl, rfl⟩
      · refine r_iload_n (pc2 := 16) dX3_ghostsAtAllAngles_15 rfl rfl ?_
        refine r_bipush (pc2 := 18) dX3_ghostsAtAllAngles_16 rfl (by decide) ?_
        refine r_icmp_ge (pc2 := 21) (tgt := 42) dX3_ghostsAtAllAngles_18 rfl (by decide) (by omega) (by omega) (fun h18 => ?_) (fun h18 => ?_)
        · exfalso
          omega
        · refine r_iload_n (pc2 := 22) dX3_ghostsAtAllAngles_21 rfl rfl ?_
          refine r_aload_n (pc2 := 23) dX3_ghostsAtAllAngles_22 rfl rfl ?_
          refine r_getf (pc2 := 26) dX3_ghostsAtAllAngles_23 rfl fl_3_15 (by assumption) (by assumption) (by rfl) ?_
          refine r_iload_n (pc2 := 27) dX3_ghostsAtAllAngles_26 rfl rfl ?_
          refine r_iald (pc2 := 28) dX3_ghostsAtAllAngles_27 rfl (by decide) (by assumption) (by assumption) (by omega) (by omega) (by omega) ?_
          refine r_aload_n (pc2 := 29) dX3_ghostsAtAllAngles_28 rfl rfl ?_
          refine r_iload_n (pc2 := 30) dX3_ghostsAtAllAngles_29 rfl rfl ?_
          refine r_callv_1 (pc2 := 33) dX3_ghostsAtAllAngles_30 rfl rs_3_53 rfl (by decide) rfl (Nat.le_of_ble_eq_true rfl) (Nat.le_of_ble_eq_true rfl) (by assumption) (by assumption) (c_ghosts _ a ca sa v p sh ln pr gd co c s hC hK hS b ka sb f g hG hF k (by omega)) (fun r_ w_ h_ => ?_)
          obtain ⟨rfl, rfl⟩ := h_
          refine ⟨rfl, ?_⟩
          refine r_imul (pc2 := 34) dX3_ghostsAtAllAngles_33 rfl ?_
          refine r_iadd (pc2 := 35) dX3_ghostsAtAllAngles_34 rfl ?_
          refine r_ist_1 (pc2 := 36) dX3_ghostsAtAllAngles_35 rfl rfl ?_
          refine r_iinc_2 (pc2 := 39) dX3_ghostsAtAllAngles_36 rfl rfl ?_
          refine r_goto (tgt := 4) dX3_ghostsAtAllAngles_39 (by decide) ?_
          exact ih (k + 1) _ (by omega) (by rw [sm_step hk0.1, ← hk1, tn hk0.1])
  refine r_iconst (pc2 := 1) dX3_ghostsAtAllAngles_0 rfl ?_
  refine r_ist_1 (pc2 := 2) dX3_ghostsAtAllAngles_1 rfl rfl ?_
  refine r_iconst (pc2 := 3) dX3_ghostsAtAllAngles_2 rfl ?_
  refine r_ist_2 (pc2 := 4) dX3_ghostsAtAllAngles_3 rfl rfl ?_
  exact loop (p.toNat + 1) 0 0 (by omega) rfl

set_option maxHeartbeats 4000000 in
theorem c_mostShown (w : av_W) (a ca sa : Nat) (v p sh ln pr gd co : Int) (c s : Nat → Int) (hC : Cd w a ca sa v p sh ln pr gd co c s) (hK : KR v p sh ln) (hS : SR s) (b ka sb : Nat) (f g : Nat → Int) (hG : Sg w a b ka sb f g) (hF : ∀ j, j < 72 → -1 ≤ f j ∧ f j ≤ 5) (x : Int) (hx : 0 ≤ x ∧ x ≤ 5) : fn MX3_mostShownView [.ref b, .int (iN x)] w (some (.int (iN (mvF s f x v.toNat).2))) w := by
  obtain ⟨⟨ha, hw⟩, ⟨hca, hcw⟩, ⟨hsa, hsw⟩, hne1, hne2, hne3⟩ := id hC
  obtain ⟨hv, hp, hsh, hln⟩ := id hK
  obtain ⟨⟨hb, hbw⟩, ⟨hka, hkw⟩, ⟨hsb, hzw⟩, hng1, hng2, hng3⟩ := id hG
  try unfold RG at *
  show rn MX3_mostShownView 0 [some (.ref b), some (.int (iN x)), none, none, none, none] [] w (fun r' w' => r' = (some (.int (iN (mvF s f x v.toNat).2))) ∧ w' = w)
  have loop : ∀ (n : Nat) (k : Int) (m : Int) (q : Int) (b5 : Option Value), (0 ≤ k ∧ k ≤ v ∧ v + 1 ≤ k + n) → ((m, q) = mvF s f x k.toNat) → rn MX3_mostShownView 7 [some (.ref b), some (.int (iN x)), some (.int (iN m)), some (.int (iN q)), some (.int (iN k)), b5] [] w (fun r' w' => r' = (some (.int (iN (mvF s f x v.toNat).2))) ∧ w' = w) := by
    intro n
    induction n with
    | zero =>
      intro k m q b5 hk0 hk1
      exfalso
      omega
    | succ n ih =>
      intro k m q b5 hk0 hk1
      have hmr := mvF_rg s f x k.toNat
      rw [← hk1] at hmr
      dsimp only at hmr
      refine r_iload (pc2 := 9) dX3_mostShownView_7 rfl rfl ?_
      refine r_aload_n (pc2 := 10) dX3_mostShownView_9 rfl rfl ?_
      refine r_getf (pc2 := 13) dX3_mostShownView_10 rfl fl_3_18 (by assumption) (by assumption) (by rfl) ?_
      refine r_getf (pc2 := 16) dX3_mostShownView_13 rfl fl_3_59 (by assumption) (by assumption) (by rfl) ?_
      refine r_icmp_ge (pc2 := 19) (tgt := 46) dX3_mostShownView_16 rfl (by decide) (by omega) (by omega) (fun h16 => ?_) (fun h16 => ?_)
      · have h6 : k = v := by omega
        subst h6
        refine r_iload_n (pc2 := 47) dX3_mostShownView_46 rfl rfl ?_
        refine r_ret dX3_mostShownView_47 rfl ?_
        exact ⟨by rw [← hk1], rfl⟩
      · refine r_aload_n (pc2 := 20) dX3_mostShownView_19 rfl rfl ?_
        refine r_iload_n (pc2 := 21) dX3_mostShownView_20 rfl rfl ?_
        refine r_iload (pc2 := 23) dX3_mostShownView_21 rfl rfl ?_
        refine r_callv_2 (pc2 := 26) dX3_mostShownView_23 rfl rs_3_56 rfl (by decide) rfl (Nat.le_of_ble_eq_true rfl) (Nat.le_of_ble_eq_true rfl) (by assumption) (by assumption) (c_ridgesShowing _ a ca sa v p sh ln pr gd co c s hC hK hS b ka sb f g hG hF x k (by omega) (by unfold RG; omega)) (fun r_ w_ h_ => ?_)
        obtain ⟨rfl, rfl⟩ := h_
        refine ⟨rfl, ?_⟩
        have g1 := rsF_rg s f x k
        refine r_ist_5 (pc2 := 28) dX3_mostShownView_26 rfl rfl ?_
        refine r_iload (pc2 := 30) dX3_mostShownView_28 rfl rfl ?_
        refine r_iload_n (pc2 := 31) dX3_mostShownView_30 rfl rfl ?_
        refine r_icmp_le (pc2 := 34) (tgt := 40) dX3_mostShownView_31 rfl (by decide) (by omega) (by omega) (fun h31 => ?_) (fun h31 => ?_)
        · have hnx : (m, q) = mvF s f x (k + 1).toNat := by
            rw [show (k + 1).toNat = k.toNat + 1 by omega]
            unfold mvF
            rw [← hk1, tn hk0.1, if_neg (by dsimp only; omega)]
          refine r_iinc_4 (pc2 := 43) dX3_mostShownView_40 rfl rfl ?_
          refine r_goto (tgt := 7) dX3_mostShownView_43 (by decide) ?_
          exact ih (k + 1) _ _ _ (by omega) hnx
        · have hnx : (rsF s f x k, k) = mvF s f x (k + 1).toNat := by
            rw [show (k + 1).toNat = k.toNat + 1 by omega]
            unfold mvF
            rw [← hk1, tn hk0.1, if_pos (by dsimp only; omega)]
          refine r_iload (pc2 := 36) dX3_mostShownView_34 rfl rfl ?_
          refine r_ist_2 (pc2 := 37) dX3_mostShownView_36 rfl rfl ?_
          refine r_iload (pc2 := 39) dX3_mostShownView_37 rfl rfl ?_
          refine r_ist_3 (pc2 := 40) dX3_mostShownView_39 rfl rfl ?_
          refine r_iinc_4 (pc2 := 43) dX3_mostShownView_40 rfl rfl ?_
          refine r_goto (tgt := 7) dX3_mostShownView_43 (by decide) ?_
          exact ih (k + 1) _ _ _ (by omega) hnx
  refine r_iconst (pc2 := 1) dX3_mostShownView_0 rfl ?_
  refine r_ist_2 (pc2 := 2) dX3_mostShownView_1 rfl rfl ?_
  refine r_iconst (pc2 := 3) dX3_mostShownView_2 rfl ?_
  refine r_ist_3 (pc2 := 4) dX3_mostShownView_3 rfl rfl ?_
  refine r_iconst (pc2 := 5) dX3_mostShownView_4 rfl ?_
  refine r_ist_4 (pc2 := 7) dX3_mostShownView_5 rfl rfl ?_
  exact loop (v.toNat + 1) 0 0 (-1) none (by omega) rfl

set_option maxHeartbeats 4000000 in
theorem c_mostRidges (w : av_W) (a ca sa : Nat) (v p sh ln pr gd co : Int) (c s : Nat → Int) (hC : Cd w a ca sa v p sh ln pr gd co c s) (hK : KR v p sh ln) (hS : SR s) (b ka sb : Nat) (f g : Nat → Int) (hG : Sg w a b ka sb f g) (hF : ∀ j, j < 72 → -1 ≤ f j ∧ f j ≤ 5) (x : Int) (hx : 0 ≤ x ∧ x ≤ 5) : fn MX3_mostShownRidges [.ref b, .int (iN x)] w (some (.int (iN (if (mvF s f x v.toNat).2 = -1 then 0 else rsF s f x (mvF s f x v.toNat).2)))) w := by
  obtain ⟨⟨ha, hw⟩, ⟨hca, hcw⟩, ⟨hsa, hsw⟩, hne1, hne2, hne3⟩ := id hC
  obtain ⟨hv, hp, hsh, hln⟩ := id hK
  obtain ⟨⟨hb, hbw⟩, ⟨hka, hkw⟩, ⟨hsb, hzw⟩, hng1, hng2, hng3⟩ := id hG
  try unfold RG at *
  have hmr := mvF_rg s f x v.toNat
  show rn MX3_mostShownRidges 0 [some (.ref b), some (.int (iN x)), none] [] w _
  refine r_aload_n (pc2 := 1) dX3_mostShownRidges_0 rfl rfl ?_
  refine r_iload_n (pc2 := 2) dX3_mostShownRidges_1 rfl rfl ?_
  refine r_callv_1 (pc2 := 5) dX3_mostShownRidges_2 rfl rs_3_62 rfl (by decide) rfl (Nat.le_of_ble_eq_true rfl) (Nat.le_of_ble_eq_true rfl) (by assumption) (by assumption) (c_mostShown _ a ca sa v p sh ln pr gd co c s hC hK hS b ka sb f g hG hF x hx) (fun r_ w_ h_ => ?_)
  obtain ⟨rfl, rfl⟩ := h_
  refine ⟨rfl, ?_⟩
  refine r_ist_2 (pc2 := 6) dX3_mostShownRidges_5 rfl rfl ?_
  refine r_iload_n (pc2 := 7) dX3_mostShownRidges_6 rfl rfl ?_
  refine r_iconst (pc2 := 8) dX3_mostShownRidges_7 rfl ?_
  refine r_icmp_ne (pc2 := 11) (tgt := 15) dX3_mostShownRidges_8 rfl (by decide) (by omega) (by omega) (fun h8 => ?_) (fun h8 => ?_)
  · refine r_aload_n (pc2 := 16) dX3_mostShownRidges_15 rfl rfl ?_
    refine r_iload_n (pc2 := 17) dX3_mostShownRidges_16 rfl rfl ?_
    refine r_iload_n (pc2 := 18) dX3_mostShownRidges_17 rfl rfl ?_
    refine r_callv_2 (pc2 := 21) dX3_mostShownRidges_18 rfl rs_3_56 rfl (by decide) rfl (Nat.le_of_ble_eq_true rfl) (Nat.le_of_ble_eq_true rfl) (by assumption) (by assumption) (c_ridgesShowing _ a ca sa v p sh ln pr gd co c s hC hK hS b ka sb f g hG hF x (mvF s f x v.toNat).2 (by omega) (by unfold RG; omega)) (fun r_ w_ h_ => ?_)
    obtain ⟨rfl, rfl⟩ := h_
    refine ⟨rfl, ?_⟩
    refine r_ret dX3_mostShownRidges_21 rfl ?_
    exact ⟨by first | rw [if_pos (by omega)] | rw [if_neg (by omega)], rfl⟩
  · refine r_iconst (pc2 := 12) dX3_mostShownRidges_11 rfl ?_
    refine r_goto (tgt := 21) dX3_mostShownRidges_12 (by decide) ?_
    refine r_ret dX3_mostShownRidges_21 rfl ?_
    exact ⟨by first | rw [if_pos (by omega)] | rw [if_neg (by omega)], rfl⟩

set_option maxHeartbeats 4000000 in
theorem c_anglesWhole (w : av_W) (a ca sa : Nat) (v p sh ln pr gd co : Int) (c s : Nat → Int) (hC : Cd w a ca sa v p sh ln pr gd co c s) (hK : KR v p sh ln) (hS : SR s) (b ka sb : Nat) (f g : Nat → Int) (hG : Sg w a b ka sb f g) (hF : ∀ j, j < 72 → -1 ≤ f j ∧ f j ≤ 5) (y : Int) (hy : RG y) : fn MX3_anglesShowingWhole [.ref b, .int (iN y)] w (some (.int (iN (asF p s f g y)))) w := by
  obtain ⟨⟨ha, hw⟩, ⟨hca, hcw⟩, ⟨hsa, hsw⟩, hne1, hne2, hne3⟩ := id hC
  obtain ⟨hv, hp, hsh, hln⟩ := id hK
  obtain ⟨⟨hb, hbw⟩, ⟨hka, hkw⟩, ⟨hsb, hzw⟩, hng1, hng2, hng3⟩ := id hG
  try unfold RG at *
  show rn MX3_anglesShowingWhole 0 [some (.ref b), some (.int (iN y)), none, none] [] w (fun r' w' => r' = (some (.int (iN (asF p s f g y)))) ∧ w' = w)
  have loop : ∀ (n : Nat) (k : Int) (m : Int), (0 ≤ k ∧ k ≤ p ∧ p + 1 ≤ k + n) → (m = sm k.toNat (fun st => if whF s f st = y then g st else 0)) → rn MX3_anglesShowingWhole 4 [some (.ref b), some (.int (iN y)), some (.int (iN m)), some (.int (iN k))] [] w (fun r' w' => r' = (some (.int (iN (asF p s f g y)))) ∧ w' = w) := by
    intro n
    induction n with
    | zero =>
      intro k m hk0 hk1
      exfalso
      omega
    | succ n ih =>
      intro k m hk0 hk1
      refine r_iload_n (pc2 := 5) dX3_anglesShowingWhole_4 rfl rfl ?_
      refine r_aload_n (pc2 := 6) dX3_anglesShowingWhole_5 rfl rfl ?_
      refine r_getf (pc2 := 9) dX3_anglesShowingWhole_6 rfl fl_3_18 (by assumption) (by assumption) (by rfl) ?_
      refine r_getf (pc2 := 12) dX3_anglesShowingWhole_9 rfl fl_3_49 (by assumption) (by assumption) (by rfl) ?_
      refine r_icmp_ge (pc2 := 15) (tgt := 45) dX3_anglesShowingWhole_12 rfl (by decide) (by omega) (by omega) (fun h12 => ?_) (fun h12 => ?_)
      · have h6 : k = p := by omega
        subst h6
        refine r_iload_n (pc2 := 46) dX3_anglesShowingWhole_45 rfl rfl ?_
        refine r_ret dX3_anglesShowingWhole_46 rfl ?_
        exact ⟨by rw [hk1]; rfl, rfl⟩
      · refine r_iload_n (pc2 := 16) dX3_anglesShowingWhole_15 rfl rfl ?_
        refine r_bipush (pc2 := 18) dX3_anglesShowingWhole_16 rfl (by decide) ?_
        refine r_icmp_ge (pc2 := 21) (tgt := 45) dX3_anglesShowingWhole_18 rfl (by decide) (by omega) (by omega) (fun h18 => ?_) (fun h18 => ?_)
        · exfalso
          omega
        · refine r_aload_n (pc2 := 22) dX3_anglesShowingWhole_21 rfl rfl ?_
          refine r_iload_n (pc2 := 23) dX3_anglesShowingWhole_22 rfl rfl ?_
          refine r_callv_1 (pc2 := 26) dX3_anglesShowingWhole_23 rfl rs_3_65 rfl (by decide) rfl (Nat.le_of_ble_eq_true rfl) (Nat.le_of_ble_eq_true rfl) (by assumption) (by assumption) (c_wholeView _ a ca sa v p sh ln pr gd co c s hC hK hS b ka sb f g hG hF k (by omega)) (fun r_ w_ h_ => ?_)
          obtain ⟨rfl, rfl⟩ := h_
          refine ⟨rfl, ?_⟩
          refine r_iload_n (pc2 := 27) dX3_anglesShowingWhole_26 rfl rfl ?_
          have g0 := whF_rg (f := f) hS k
          refine r_icmp_ne (pc2 := 30) (tgt := 39) dX3_anglesShowingWhole_27 rfl (by decide) (by omega) (by omega) (fun h27 => ?_) (fun h27 => ?_)
          · have hq : (if whF s f k = y then g k.toNat else 0) = 0 := if_neg h27
            rw [show m = m + 0 by omega]
            refine r_iinc_3 (pc2 := 42) dX3_anglesShowingWhole_39 rfl rfl ?_
            refine r_goto (tgt := 4) dX3_anglesShowingWhole_42 (by decide) ?_
            exact ih (k + 1) _ (by omega) (by rw [sm_step hk0.1, ← hk1, tn hk0.1, hq])
          · have hq : (if whF s f k = y then g k.toNat else 0) = g k.toNat := if_pos h27
            refine r_iload_n (pc2 := 31) dX3_anglesShowingWhole_30 rfl rfl ?_
            refine r_aload_n (pc2 := 32) dX3_anglesShowingWhole_31 rfl rfl ?_
            refine r_getf (pc2 := 35) dX3_anglesShowingWhole_32 rfl fl_3_15 (by assumption) (by assumption) (by rfl) ?_
            refine r_iload_n (pc2 := 36) dX3_anglesShowingWhole_35 rfl rfl ?_
            refine r_iald (pc2 := 37) dX3_anglesShowingWhole_36 rfl (by decide) (by assumption) (by assumption) (by omega) (by omega) (by omega) ?_
            refine r_iadd (pc2 := 38) dX3_anglesShowingWhole_37 rfl ?_
            refine r_ist_2 (pc2 := 39) dX3_anglesShowingWhole_38 rfl rfl ?_
            refine r_iinc_3 (pc2 := 42) dX3_anglesShowingWhole_39 rfl rfl ?_
            refine r_goto (tgt := 4) dX3_anglesShowingWhole_42 (by decide) ?_
            exact ih (k + 1) _ (by omega) (by rw [sm_step hk0.1, ← hk1, tn hk0.1, hq])
  refine r_iconst (pc2 := 1) dX3_anglesShowingWhole_0 rfl ?_
  refine r_ist_2 (pc2 := 2) dX3_anglesShowingWhole_1 rfl rfl ?_
  refine r_iconst (pc2 := 3) dX3_anglesShowingWhole_2 rfl ?_
  refine r_ist_3 (pc2 := 4) dX3_anglesShowingWhole_3 rfl rfl ?_
  exact loop (p.toNat + 1) 0 0 (by omega) rfl

set_option maxHeartbeats 4000000 in
theorem c_anyWhole (w : av_W) (a ca sa : Nat) (v p sh ln pr gd co : Int) (c s : Nat → Int) (hC : Cd w a ca sa v p sh ln pr gd co c s) (hK : KR v p sh ln) (hS : SR s) (b ka sb : Nat) (f g : Nat → Int) (hG : Sg w a b ka sb f g) (hF : ∀ j, j < 72 → -1 ≤ f j ∧ f j ≤ 5) : fn MX3_anglesShowingAnyWhole [.ref b] w (some (.int (iN (19 - asF p s f g (-1))))) w := by
  obtain ⟨⟨ha, hw⟩, ⟨hca, hcw⟩, ⟨hsa, hsw⟩, hne1, hne2, hne3⟩ := id hC
  obtain ⟨hv, hp, hsh, hln⟩ := id hK
  obtain ⟨⟨hb, hbw⟩, ⟨hka, hkw⟩, ⟨hsb, hzw⟩, hng1, hng2, hng3⟩ := id hG
  try unfold RG at *
  show rn MX3_anglesShowingAnyWhole 0 [some (.ref b)] [] w _
  refine r_bipush (pc2 := 2) dX3_anglesShowingAnyWhole_0 rfl (by decide) ?_
  refine r_aload_n (pc2 := 3) dX3_anglesShowingAnyWhole_2 rfl rfl ?_
  refine r_iconst (pc2 := 4) dX3_anglesShowingAnyWhole_3 rfl ?_
  refine r_callv_1 (pc2 := 7) dX3_anglesShowingAnyWhole_4 rfl rs_3_68 rfl (by decide) rfl (Nat.le_of_ble_eq_true rfl) (Nat.le_of_ble_eq_true rfl) (by assumption) (by assumption) (c_anglesWhole _ a ca sa v p sh ln pr gd co c s hC hK hS b ka sb f g hG hF (-1) (by unfold RG; omega)) (fun r_ w_ h_ => ?_)
  obtain ⟨rfl, rfl⟩ := h_
  refine ⟨rfl, ?_⟩
  refine r_isub (pc2 := 8) dX3_anglesShowingAnyWhole_7 rfl ?_
  refine r_ret dX3_anglesShowingAnyWhole_8 rfl ?_
  exact ⟨rfl, rfl⟩

set_option maxHeartbeats 4000000 in
theorem c_wholeViews (w : av_W) (a ca sa : Nat) (v p sh ln pr gd co : Int) (c s : Nat → Int) (hC : Cd w a ca sa v p sh ln pr gd co c s) (hK : KR v p sh ln) (hS : SR s) (b ka sb : Nat) (f g : Nat → Int) (hG : Sg w a b ka sb f g) (hF : ∀ j, j < 72 → -1 ≤ f j ∧ f j ≤ 5) (hg : ∀ j, j < 6 → 0 ≤ g j ∧ g j ≤ 19) : fn MX3_wholeViews [.ref b] w (some (.int (iN (wvF p v s f g)))) w := by
  obtain ⟨⟨ha, hw⟩, ⟨hca, hcw⟩, ⟨hsa, hsw⟩, hne1, hne2, hne3⟩ := id hC
  obtain ⟨hv, hp, hsh, hln⟩ := id hK
  obtain ⟨⟨hb, hbw⟩, ⟨hka, hkw⟩, ⟨hsb, hzw⟩, hng1, hng2, hng3⟩ := id hG
  try unfold RG at *
  show rn MX3_wholeViews 0 [some (.ref b), none, none] [] w (fun r' w' => r' = (some (.int (iN (wvF p v s f g)))) ∧ w' = w)
  have loop : ∀ (n : Nat) (k : Int) (m : Int), (0 ≤ k ∧ k ≤ v ∧ v + 1 ≤ k + n) → (m = sm k.toNat (fun x => bz (0 < asF p s f g x))) → rn MX3_wholeViews 4 [some (.ref b), some (.int (iN m)), some (.int (iN k))] [] w (fun r' w' => r' = (some (.int (iN (wvF p v s f g)))) ∧ w' = w) := by
    intro n
    induction n with
    | zero =>
      intro k m hk0 hk1
      exfalso
      omega
    | succ n ih =>
      intro k m hk0 hk1
      refine r_iload_n (pc2 := 5) dX3_wholeViews_4 rfl rfl ?_
      refine r_aload_n (pc2 := 6) dX3_wholeViews_5 rfl rfl ?_
      refine r_getf (pc2 := 9) dX3_wholeViews_6 rfl fl_3_18 (by assumption) (by assumption) (by rfl) ?_
      refine r_getf (pc2 := 12) dX3_wholeViews_9 rfl fl_3_59 (by assumption) (by assumption) (by rfl) ?_
      refine r_icmp_ge (pc2 := 15) (tgt := 32) dX3_wholeViews_12 rfl (by decide) (by omega) (by omega) (fun h12 => ?_) (fun h12 => ?_)
      · have h6 : k = v := by omega
        subst h6
        refine r_iload_n (pc2 := 33) dX3_wholeViews_32 rfl rfl ?_
        refine r_ret dX3_wholeViews_33 rfl ?_
        exact ⟨by rw [hk1]; rfl, rfl⟩
      · refine r_aload_n (pc2 := 16) dX3_wholeViews_15 rfl rfl ?_
        refine r_iload_n (pc2 := 17) dX3_wholeViews_16 rfl rfl ?_
        refine r_callv_1 (pc2 := 20) dX3_wholeViews_17 rfl rs_3_68 rfl (by decide) rfl (Nat.le_of_ble_eq_true rfl) (Nat.le_of_ble_eq_true rfl) (by assumption) (by assumption) (c_anglesWhole _ a ca sa v p sh ln pr gd co c s hC hK hS b ka sb f g hG hF k (by unfold RG; omega)) (fun r_ w_ h_ => ?_)
        obtain ⟨rfl, rfl⟩ := h_
        refine ⟨rfl, ?_⟩
        have g0 := asF_rg (s := s) (f := f) hp hg k
        refine r_if_le (pc2 := 23) (tgt := 26) dX3_wholeViews_20 rfl (by decide) (by omega) (fun h20 => ?_) (fun h20 => ?_)
        · have hq : bz (0 < asF p s f g k) = 0 := bz_f (by omega)
          rw [show m = m + 0 by omega]
          refine r_iinc_2 (pc2 := 29) dX3_wholeViews_26 rfl rfl ?_
          refine r_goto (tgt := 4) dX3_wholeViews_29 (by decide) ?_
          exact ih (k + 1) _ (by omega) (by rw [sm_step hk0.1, ← hk1, tn hk0.1, hq])
        · have hq : bz (0 < asF p s f g k) = 1 := bz_t (by omega)
          refine r_iinc_1 (pc2 := 26) dX3_wholeViews_23 rfl rfl ?_
          refine r_iinc_2 (pc2 := 29) dX3_wholeViews_26 rfl rfl ?_
          refine r_goto (tgt := 4) dX3_wholeViews_29 (by decide) ?_
          exact ih (k + 1) _ (by omega) (by rw [sm_step hk0.1, ← hk1, tn hk0.1, hq])
  refine r_iconst (pc2 := 1) dX3_wholeViews_0 rfl ?_
  refine r_ist_1 (pc2 := 2) dX3_wholeViews_1 rfl rfl ?_
  refine r_iconst (pc2 := 3) dX3_wholeViews_2 rfl ?_
  refine r_ist_2 (pc2 := 4) dX3_wholeViews_3 rfl rfl ?_
  exact loop (v.toNat + 1) 0 0 (by omega) rfl

set_option maxHeartbeats 4000000 in
theorem c_clearest (w : av_W) (a ca sa : Nat) (v p sh ln pr gd co : Int) (c s : Nat → Int) (hC : Cd w a ca sa v p sh ln pr gd co c s) (hK : KR v p sh ln) (hS : SR s) (b ka sb : Nat) (f g : Nat → Int) (hG : Sg w a b ka sb f g) (hF : ∀ j, j < 72 → -1 ≤ f j ∧ f j ≤ 5) (y : Int) (hy : RG y) : fn MX3_clearestAngle [.ref b, .int (iN y)] w (some (.int (iN (clF p s f y 19).1))) w := by
  obtain ⟨⟨ha, hw⟩, ⟨hca, hcw⟩, ⟨hsa, hsw⟩, hne1, hne2, hne3⟩ := id hC
  obtain ⟨hv, hp, hsh, hln⟩ := id hK
  obtain ⟨⟨hb, hbw⟩, ⟨hka, hkw⟩, ⟨hsb, hzw⟩, hng1, hng2, hng3⟩ := id hG
  try unfold RG at *
  show rn MX3_clearestAngle 0 [some (.ref b), some (.int (iN y)), none, none, none, none, none, none, none] [] w (fun r' w' => r' = (some (.int (iN (clF p s f y 19).1))) ∧ w' = w)
  have loop : ∀ (n : Nat) (k : Int) (q1 q2 q3 : Int) (b6 b7 b8 : Option Value), (-9 ≤ k ∧ k ≤ 10 ∧ 11 ≤ k + n) → ((q1, q2, q3) = clF p s f y (k + 9).toNat) → rn MX3_clearestAngle 12 [some (.ref b), some (.int (iN y)), some (.int (iN q1)), some (.int (iN q2)), some (.int (iN q3)), some (.int (iN k)), b6, b7, b8] [] w (fun r' w' => r' = (some (.int (iN (clF p s f y 19).1))) ∧ w' = w) := by
    intro n
    induction n with
    | zero =>
      intro k q1 q2 q3 b6 b7 b8 hk0 hk1
      exfalso
      omega
    | succ n ih =>
      intro k q1 q2 q3 b6 b7 b8 hk0 hk1
      have hcr := clF_rg p s f y (k + 9).toNat (by omega)
      rw [← hk1] at hcr
      dsimp only at hcr
      refine r_iload (pc2 := 14) dX3_clearestAngle_12 rfl rfl ?_
      refine r_bipush (pc2 := 16) dX3_clearestAngle_14 rfl (by decide) ?_
      refine r_icmp_gt (pc2 := 19) (tgt := 82) dX3_clearestAngle_16 rfl (by decide) (by omega) (by omega) (fun h16 => ?_) (fun h16 => ?_)
      · have h6 : k = 10 := by omega
        subst h6
        refine r_iload_n (pc2 := 83) dX3_clearestAngle_82 rfl rfl ?_
        refine r_ret dX3_clearestAngle_83 rfl ?_
        have e19 : ((10 : Int) + 9).toNat = 19 := by decide
        rw [e19] at hk1
        exact ⟨by rw [← hk1], rfl⟩
      · refine r_aload_n (pc2 := 20) dX3_clearestAngle_19 rfl rfl ?_
        refine r_getf (pc2 := 23) dX3_clearestAngle_20 rfl fl_3_18 (by assumption) (by assumption) (by rfl) ?_
        refine r_iload (pc2 := 25) dX3_clearestAngle_23 rfl rfl ?_
        refine r_callv_1 (pc2 := 28) dX3_clearestAngle_25 rfl rs_3_31 rfl (by decide) rfl (Nat.le_of_ble_eq_true rfl) (Nat.le_of_ble_eq_true rfl) (by assumption) (by assumption) (c_stepAt _ a ca sa v p sh ln pr gd co c s hC hK k (by omega)) (fun r_ w_ h_ => ?_)
        obtain ⟨rfl, rfl⟩ := h_
        refine ⟨rfl, ?_⟩
        have hr := stZ_rg (an := k) hp (by omega)
        have g1 := rsF_rg s f (stZ p k) y
        have g2 := ghF_rg s f (stZ p k)
        refine r_ist_6 (pc2 := 30) dX3_clearestAngle_28 rfl rfl ?_
        refine r_aload_n (pc2 := 31) dX3_clearestAngle_30 rfl rfl ?_
        refine r_iload (pc2 := 33) dX3_clearestAngle_31 rfl rfl ?_
        refine r_iload_n (pc2 := 34) dX3_clearestAngle_33 rfl rfl ?_
        refine r_callv_2 (pc2 := 37) dX3_clearestAngle_34 rfl rs_3_56 rfl (by decide) rfl (Nat.le_of_ble_eq_true rfl) (Nat.le_of_ble_eq_true rfl) (by assumption) (by assumption) (c_ridgesShowing _ a ca sa v p sh ln pr gd co c s hC hK hS b ka sb f g hG hF (stZ p k) y (by omega) (by unfold RG; omega)) (fun r_ w_ h_ => ?_)
        obtain ⟨rfl, rfl⟩ := h_
        refine ⟨rfl, ?_⟩
        refine r_ist_7 (pc2 := 39) dX3_clearestAngle_37 rfl rfl ?_
        refine r_aload_n (pc2 := 40) dX3_clearestAngle_39 rfl rfl ?_
        refine r_iload (pc2 := 42) dX3_clearestAngle_40 rfl rfl ?_
        refine r_callv_1 (pc2 := 45) dX3_clearestAngle_42 rfl rs_3_53 rfl (by decide) rfl (Nat.le_of_ble_eq_true rfl) (Nat.le_of_ble_eq_true rfl) (by assumption) (by assumption) (c_ghosts _ a ca sa v p sh ln pr gd co c s hC hK hS b ka sb f g hG hF (stZ p k) (by omega)) (fun r_ w_ h_ => ?_)
        obtain ⟨rfl, rfl⟩ := h_
        refine ⟨rfl, ?_⟩
        refine r_ist_8 (pc2 := 47) dX3_clearestAngle_45 rfl rfl ?_
        refine r_iload (pc2 := 49) dX3_clearestAngle_47 rfl rfl ?_
        refine r_iload_n (pc2 := 50) dX3_clearestAngle_49 rfl rfl ?_
        refine r_icmp_gt (pc2 := 53) (tgt := 66) dX3_clearestAngle_50 rfl (by decide) (by omega) (by omega) (fun h50 => ?_) (fun h50 => ?_)
        · have hnx : (k, rsF s f (stZ p k) y, ghF s f (stZ p k)) = clF p s f y (k + 1 + 9).toNat := by
            rw [show (k + 1 + 9).toNat = (k + 9).toNat + 1 by omega]
            unfold clF
            rw [← hk1, show (((k + 9).toNat : Nat) : Int) - 9 = k by omega, if_pos (by dsimp only; omega)]
          refine r_iload (pc2 := 68) dX3_clearestAngle_66 rfl rfl ?_
          refine r_ist_2 (pc2 := 69) dX3_clearestAngle_68 rfl rfl ?_
          refine r_iload (pc2 := 71) dX3_clearestAngle_69 rfl rfl ?_
          refine r_ist_3 (pc2 := 72) dX3_clearestAngle_71 rfl rfl ?_
          refine r_iload (pc2 := 74) dX3_clearestAngle_72 rfl rfl ?_
          refine r_ist_4 (pc2 := 76) dX3_clearestAngle_74 rfl rfl ?_
          refine r_iinc_5 (pc2 := 79) dX3_clearestAngle_76 rfl rfl ?_
          refine r_goto (tgt := 12) dX3_clearestAngle_79 (by decide) ?_
          exact ih (k + 1) _ _ _ _ _ _ (by omega) hnx
        · refine r_iload (pc2 := 55) dX3_clearestAngle_53 rfl rfl ?_
          refine r_iload_n (pc2 := 56) dX3_clearestAngle_55 rfl rfl ?_
          refine r_icmp_ne (pc2 := 59) (tgt := 76) dX3_clearestAngle_56 rfl (by decide) (by omega) (by omega) (fun h56 => ?_) (fun h56 => ?_)
          · have hnx : (q1, q2, q3) = clF p s f y (k + 1 + 9).toNat := by
              rw [show (k + 1 + 9).toNat = (k + 9).toNat + 1 by omega]
              unfold clF
              rw [← hk1, show (((k + 9).toNat : Nat) : Int) - 9 = k by omega, if_neg (by dsimp only; omega)]
            refine r_iinc_5 (pc2 := 79) dX3_clearestAngle_76 rfl rfl ?_
            refine r_goto (tgt := 12) dX3_clearestAngle_79 (by decide) ?_
            exact ih (k + 1) _ _ _ _ _ _ (by omega) hnx
          · refine r_iload (pc2 := 61) dX3_clearestAngle_59 rfl rfl ?_
            refine r_iload (pc2 := 63) dX3_clearestAngle_61 rfl rfl ?_
            refine r_icmp_ge (pc2 := 66) (tgt := 76) dX3_clearestAngle_63 rfl (by decide) (by omega) (by omega) (fun h63 => ?_) (fun h63 => ?_)
            · have hnx : (q1, q2, q3) = clF p s f y (k + 1 + 9).toNat := by
                rw [show (k + 1 + 9).toNat = (k + 9).toNat + 1 by omega]
                unfold clF
                rw [← hk1, show (((k + 9).toNat : Nat) : Int) - 9 = k by omega, if_neg (by dsimp only; omega)]
              refine r_iinc_5 (pc2 := 79) dX3_clearestAngle_76 rfl rfl ?_
              refine r_goto (tgt := 12) dX3_clearestAngle_79 (by decide) ?_
              exact ih (k + 1) _ _ _ _ _ _ (by omega) hnx
            · have hnx : (k, rsF s f (stZ p k) y, ghF s f (stZ p k)) = clF p s f y (k + 1 + 9).toNat := by
                rw [show (k + 1 + 9).toNat = (k + 9).toNat + 1 by omega]
                unfold clF
                rw [← hk1, show (((k + 9).toNat : Nat) : Int) - 9 = k by omega, if_pos (by dsimp only; omega)]
              refine r_iload (pc2 := 68) dX3_clearestAngle_66 rfl rfl ?_
              refine r_ist_2 (pc2 := 69) dX3_clearestAngle_68 rfl rfl ?_
              refine r_iload (pc2 := 71) dX3_clearestAngle_69 rfl rfl ?_
              refine r_ist_3 (pc2 := 72) dX3_clearestAngle_71 rfl rfl ?_
              refine r_iload (pc2 := 74) dX3_clearestAngle_72 rfl rfl ?_
              refine r_ist_4 (pc2 := 76) dX3_clearestAngle_74 rfl rfl ?_
              refine r_iinc_5 (pc2 := 79) dX3_clearestAngle_76 rfl rfl ?_
              refine r_goto (tgt := 12) dX3_clearestAngle_79 (by decide) ?_
              exact ih (k + 1) _ _ _ _ _ _ (by omega) hnx
  refine r_bipush (pc2 := 2) dX3_clearestAngle_0 rfl (by decide) ?_
  refine r_ist_2 (pc2 := 3) dX3_clearestAngle_2 rfl rfl ?_
  refine r_iconst (pc2 := 4) dX3_clearestAngle_3 rfl ?_
  refine r_ist_3 (pc2 := 5) dX3_clearestAngle_4 rfl rfl ?_
  refine r_iconst (pc2 := 6) dX3_clearestAngle_5 rfl ?_
  refine r_ist_4 (pc2 := 8) dX3_clearestAngle_6 rfl rfl ?_
  refine r_bipush (pc2 := 10) dX3_clearestAngle_8 rfl (by decide) ?_
  refine r_ist_5 (pc2 := 12) dX3_clearestAngle_10 rfl rfl ?_
  exact loop 20 (-9) (-9) (-1) 0 none none none (by omega) rfl
end
section
/-! the class's CardText -/
abbrev txO (ch : Nat) (len k : Int) : av_E := .inr (1, [.ref ch, .int (iN len), .int (iN k)])
def Tx (w : av_W) (t ch : Nat) (len k : Int) (c : Nat → Int) : Prop := (t < w.1 ∧ w.2.2 t = txO ch len k) ∧ (ch < w.1 ∧ w.2.2 ch = chO 80 c) ∧ t ≠ ch
def CR (c : Nat → Int) : Prop := ∀ j, j < 80 → 0 ≤ c j ∧ c j ≤ 255
def chZ (c : Nat → Int) (i : Int) : Int := if 0 ≤ i ∧ i < 80 then c i.toNat else 0
def dgZ (c : Nat → Int) (i : Int) : Int := if 48 ≤ chZ c i ∧ chZ c i ≤ 57 then chZ c i - 48 else -1
abbrev alC (c : Nat → Int) (k i : Int) : Prop := if k = -1 then (if (i + 1) % 13 = 0 then (chZ c i = 47 ∧ (i + 1) / 13 < 4) ∨ (chZ c i = 58 ∧ 2 ≤ (i + 1) / 13) else dgZ c i ≠ -1) else i - k ≤ 6 ∧ 0 ≤ dgZ c i ∧ dgZ c i ≤ (k + 1) / 13 - 1
abbrev enC (len k : Int) : Prop := if k = -1 then (len + 1) % 13 = 0 ∧ 2 ≤ (len + 1) / 13 else 2 ≤ len - k - 1
def coF (c : Nat → Int) : Nat → Int
  | 0 => -1
  | n + 1 => if chZ c n = 58 then n else coF c n
theorem coF_rg (c : Nat → Int) (n : Nat) : -1 ≤ coF c n ∧ coF c n < n := by
  induction n with
  | zero => simp [coF]
  | succ n ih =>
    unfold coF
    split <;> omega
theorem chZ_rg {c : Nat → Int} (h : CR c) (i : Int) : 0 ≤ chZ c i ∧ chZ c i ≤ 255 := by
  unfold chZ
  split
  · exact h _ (by omega)
  · omega
theorem dgZ_rg {c : Nat → Int} (i : Int) : -1 ≤ dgZ c i ∧ dgZ c i ≤ 9 := by
  unfold dgZ
  split <;> omega
theorem iN_nI {y : Int} (h : 0 ≤ y) : iN y = nI y.toNat := by
  show Int32.ofInt y = Int32.ofNat y.toNat
  rw [← Int32.ofInt_eq_ofNat, tn h]
theorem vpc {y : Int} (h : 0 ≤ y ∧ y ≤ 65535) : vp_nar .char (iN y) = iN y := by
  rw [iN_nI h.1]
  unfold vp_nar
  rw [(pk_charN (q := y.toNat) (by omega)).1]

set_option maxHeartbeats 4000000 in
theorem c_isFull (w : av_W) (t ch : Nat) (len k : Int) (c : Nat → Int) (hT : Tx w t ch len k c) (hR : CR c) (hlen : 0 ≤ len ∧ len ≤ 80) : fn MX1_isFull [.ref t] w (some (.int (iN (bz (80 ≤ len))))) w := by
  obtain ⟨⟨ht, htw⟩, ⟨hch, hchw⟩, hne⟩ := id hT
  try unfold RG at *
  show rn MX1_isFull 0 [some (.ref t)] [] w _
  refine r_aload_n (pc2 := 1) dX1_isFull_0 rfl rfl ?_
  refine r_getf (pc2 := 4) dX1_isFull_1 rfl fl_1_15 (by assumption) (by assumption) (by rfl) ?_
  refine r_bipush (pc2 := 6) dX1_isFull_4 rfl (by decide) ?_
  refine r_icmp_lt (pc2 := 9) (tgt := 13) dX1_isFull_6 rfl (by decide) (by omega) (by omega) (fun h6 => ?_) (fun h6 => ?_)
  · refine r_iconst (pc2 := 14) dX1_isFull_13 rfl ?_
    refine r_retb dX1_isFull_14 rfl (by first | exact Or.inl rfl | exact Or.inr rfl | exact bz_01) ?_
    exact ⟨by first | rw [bz_t (by omega)] | rw [bz_f (by omega)], rfl⟩
  · refine r_iconst (pc2 := 10) dX1_isFull_9 rfl ?_
    refine r_goto (tgt := 14) dX1_isFull_10 (by decide) ?_
    refine r_retb dX1_isFull_14 rfl (by first | exact Or.inl rfl | exact Or.inr rfl | exact bz_01) ?_
    exact ⟨by first | rw [bz_t (by omega)] | rw [bz_f (by omega)], rfl⟩

set_option maxHeartbeats 4000000 in
theorem c_append (w : av_W) (t ch : Nat) (len k : Int) (c : Nat → Int) (hT : Tx w t ch len k c) (hR : CR c) (hlen : 0 ≤ len ∧ len ≤ 80) (x : Int) (hx : 0 ≤ x ∧ x ≤ 65535) (h80 : len < 80) : fn MX1_append [.ref t, .int (iN x)] w none (wst (wst w ch (chO 80 (updZ c len.toNat (if x ≤ 255 then x else 0)))) t (txO ch (len + 1) k)) := by
  obtain ⟨⟨ht, htw⟩, ⟨hch, hchw⟩, hne⟩ := id hT
  try unfold RG at *
  show rn MX1_append 0 [some (.ref t), some (.int (iN x))] [] w _
  refine r_aload_n (pc2 := 1) dX1_append_0 rfl rfl ?_
  refine r_getf (pc2 := 4) dX1_append_1 rfl fl_1_15 (by assumption) (by assumption) (by rfl) ?_
  refine r_if_lt (pc2 := 7) (tgt := 47) dX1_append_4 rfl (by decide) (by omega) (fun h4 => ?_) (fun h4 => ?_)
  · exfalso
    omega
  · refine r_aload_n (pc2 := 8) dX1_append_7 rfl rfl ?_
    refine r_getf (pc2 := 11) dX1_append_8 rfl fl_1_15 (by assumption) (by assumption) (by rfl) ?_
    refine r_bipush (pc2 := 13) dX1_append_11 rfl (by decide) ?_
    refine r_icmp_ge (pc2 := 16) (tgt := 47) dX1_append_13 rfl (by decide) (by omega) (by omega) (fun h13 => ?_) (fun h13 => ?_)
    · exfalso
      omega
    · refine r_aload_n (pc2 := 17) dX1_append_16 rfl rfl ?_
      refine r_getf (pc2 := 20) dX1_append_17 rfl fl_1_9 (by assumption) (by assumption) (by rfl) ?_
      refine r_aload_n (pc2 := 21) dX1_append_20 rfl rfl ?_
      refine r_getf (pc2 := 24) dX1_append_21 rfl fl_1_15 (by assumption) (by assumption) (by rfl) ?_
      refine r_iload_n (pc2 := 25) dX1_append_24 rfl rfl ?_
      refine r_sipush (pc2 := 28) dX1_append_25 rfl (by decide) ?_
      refine r_icmp_gt (pc2 := 31) (tgt := 35) dX1_append_28 rfl (by decide) (by omega) (by omega) (fun h28 => ?_) (fun h28 => ?_)
      · have hnar := vpc (y := 0) (by omega)
        have hz : (if x ≤ 255 then x else 0) = 0 := if_neg (by omega)
        rw [hz]
        have hw1 : t < (wst w ch (chO 80 (updZ c len.toNat 0))).1 := ht
        have hw2 : (wst w ch (chO 80 (updZ c len.toNat 0))).2.2 t = txO ch len k := by rw [wst_ne hne]; exact htw
        refine r_iconst (pc2 := 36) dX1_append_35 rfl ?_
        refine r_cast (pc2 := 37) dX1_append_36 rfl (by assumption) (by assumption) (by omega) (by omega) (by omega) (by assumption) ?_
        refine r_aload_n (pc2 := 38) dX1_append_37 rfl rfl ?_
        refine r_dup (pc2 := 39) dX1_append_38 rfl rfl ?_
        refine r_getf (pc2 := 42) dX1_append_39 rfl fl_1_15 (by assumption) (by assumption) (by rfl) ?_
        refine r_iconst (pc2 := 43) dX1_append_42 rfl ?_
        refine r_iadd (pc2 := 44) dX1_append_43 rfl ?_
        refine r_putf (pc2 := 47) dX1_append_44 rfl fl_1_15 (by assumption) (by assumption) (by exact Nat.le_of_ble_eq_true rfl) (by rfl) (by rfl) (by rfl) ?_
        refine r_retv dX1_append_47 rfl ?_
        exact ⟨rfl, rfl⟩
      · have hnar := vpc hx
        have hz : (if x ≤ 255 then x else 0) = x := if_pos (by omega)
        rw [hz]
        have hw1 : t < (wst w ch (chO 80 (updZ c len.toNat x))).1 := ht
        have hw2 : (wst w ch (chO 80 (updZ c len.toNat x))).2.2 t = txO ch len k := by rw [wst_ne hne]; exact htw
        refine r_iload_n (pc2 := 32) dX1_append_31 rfl rfl ?_
        refine r_goto (tgt := 36) dX1_append_32 (by decide) ?_
        refine r_cast (pc2 := 37) dX1_append_36 rfl (by assumption) (by assumption) (by omega) (by omega) (by omega) (by assumption) ?_
        refine r_aload_n (pc2 := 38) dX1_append_37 rfl rfl ?_
        refine r_dup (pc2 := 39) dX1_append_38 rfl rfl ?_
        refine r_getf (pc2 := 42) dX1_append_39 rfl fl_1_15 (by assumption) (by assumption) (by rfl) ?_
        refine r_iconst (pc2 := 43) dX1_append_42 rfl ?_
        refine r_iadd (pc2 := 44) dX1_append_43 rfl ?_
        refine r_putf (pc2 := 47) dX1_append_44 rfl fl_1_15 (by assumption) (by assumption) (by exact Nat.le_of_ble_eq_true rfl) (by rfl) (by rfl) (by rfl) ?_
        refine r_retv dX1_append_47 rfl ?_
        exact ⟨rfl, rfl⟩

set_option maxHeartbeats 4000000 in
theorem c_empty (w : av_W) (t ch : Nat) (len k : Int) (ht : t < w.1) (htw : w.2.2 t = txO ch len k) : fn MX1_empty [.ref t] w none (wst w t (txO ch 0 k)) := by
  show rn MX1_empty 0 [some (.ref t)] [] w _
  refine r_aload_n (pc2 := 1) dX1_empty_0 rfl rfl ?_
  refine r_iconst (pc2 := 2) dX1_empty_1 rfl ?_
  refine r_putf (pc2 := 5) dX1_empty_2 rfl fl_1_15 (by assumption) (by assumption) (by exact Nat.le_of_ble_eq_true rfl) (by rfl) (by rfl) (by rfl) ?_
  refine r_retv dX1_empty_5 rfl ?_
  exact ⟨rfl, rfl⟩

set_option maxHeartbeats 4000000 in
theorem c_charAt (w : av_W) (t ch : Nat) (len k : Int) (c : Nat → Int) (hT : Tx w t ch len k c) (hR : CR c) (hlen : 0 ≤ len ∧ len ≤ 80) (x : Int) (hx : RG x) : fn MX1_charAt [.ref t, .int (iN x)] w (some (.int (iN (chZ c x)))) w := by
  obtain ⟨⟨ht, htw⟩, ⟨hch, hchw⟩, hne⟩ := id hT
  try unfold RG at *
  show rn MX1_charAt 0 [some (.ref t), some (.int (iN x))] [] w _
  refine r_iload_n (pc2 := 1) dX1_charAt_0 rfl rfl ?_
  refine r_if_lt (pc2 := 4) (tgt := 19) dX1_charAt_1 rfl (by decide) (by omega) (fun h1 => ?_) (fun h1 => ?_)
  · refine r_iconst (pc2 := 20) dX1_charAt_19 rfl ?_
    refine r_retc dX1_charAt_20 rfl (by omega) ?_
    exact ⟨by unfold chZ; first | rw [if_pos (by omega)] | rw [if_neg (by omega)], rfl⟩
  · refine r_iload_n (pc2 := 5) dX1_charAt_4 rfl rfl ?_
    refine r_bipush (pc2 := 7) dX1_charAt_5 rfl (by decide) ?_
    refine r_icmp_ge (pc2 := 10) (tgt := 19) dX1_charAt_7 rfl (by decide) (by omega) (by omega) (fun h7 => ?_) (fun h7 => ?_)
    · refine r_iconst (pc2 := 20) dX1_charAt_19 rfl ?_
      refine r_retc dX1_charAt_20 rfl (by omega) ?_
      exact ⟨by unfold chZ; first | rw [if_pos (by omega)] | rw [if_neg (by omega)], rfl⟩
    · refine r_aload_n (pc2 := 11) dX1_charAt_10 rfl rfl ?_
      refine r_getf (pc2 := 14) dX1_charAt_11 rfl fl_1_9 (by assumption) (by assumption) (by rfl) ?_
      refine r_iload_n (pc2 := 15) dX1_charAt_14 rfl rfl ?_
      refine r_cald (pc2 := 16) dX1_charAt_15 rfl (by assumption) (by assumption) (by omega) (by omega) (by omega) ?_
      have hcx := hR x.toNat (by omega)
      refine r_goto (tgt := 20) dX1_charAt_16 (by decide) ?_
      refine r_retc dX1_charAt_20 rfl (by omega) ?_
      exact ⟨by unfold chZ; first | rw [if_pos (by omega)] | rw [if_neg (by omega)], rfl⟩

set_option maxHeartbeats 4000000 in
theorem c_digitAt (w : av_W) (t ch : Nat) (len k : Int) (c : Nat → Int) (hT : Tx w t ch len k c) (hR : CR c) (hlen : 0 ≤ len ∧ len ≤ 80) (x : Int) (hx : RG x) : fn MX1_digitAt [.ref t, .int (iN x)] w (some (.int (iN (dgZ c x)))) w := by
  obtain ⟨⟨ht, htw⟩, ⟨hch, hchw⟩, hne⟩ := id hT
  try unfold RG at *
  have hcr := chZ_rg hR x
  show rn MX1_digitAt 0 [some (.ref t), some (.int (iN x)), none] [] w _
  refine r_aload_n (pc2 := 1) dX1_digitAt_0 rfl rfl ?_
  refine r_iload_n (pc2 := 2) dX1_digitAt_1 rfl rfl ?_
  refine r_callv_1 (pc2 := 5) dX1_digitAt_2 rfl rs_1_22 rfl (by decide) rfl (Nat.le_of_ble_eq_true rfl) (Nat.le_of_ble_eq_true rfl) (by assumption) (by assumption) (c_charAt _ t ch len k c hT hR hlen x (by unfold RG; omega)) (fun r_ w_ h_ => ?_)
  obtain ⟨rfl, rfl⟩ := h_
  refine ⟨rfl, ?_⟩
  refine r_ist_2 (pc2 := 6) dX1_digitAt_5 rfl rfl ?_
  refine r_iload_n (pc2 := 7) dX1_digitAt_6 rfl rfl ?_
  refine r_bipush (pc2 := 9) dX1_digitAt_7 rfl (by decide) ?_
  refine r_icmp_lt (pc2 := 12) (tgt := 25) dX1_digitAt_9 rfl (by decide) (by omega) (by omega) (fun h9 => ?_) (fun h9 => ?_)
  · refine r_iconst (pc2 := 26) dX1_digitAt_25 rfl ?_
    refine r_ret dX1_digitAt_26 rfl ?_
    exact ⟨by unfold dgZ; first | rw [if_pos (by omega)] | rw [if_neg (by omega)], rfl⟩
  · refine r_iload_n (pc2 := 13) dX1_digitAt_12 rfl rfl ?_
    refine r_bipush (pc2 := 15) dX1_digitAt_13 rfl (by decide) ?_
    refine r_icmp_gt (pc2 := 18) (tgt := 25) dX1_digitAt_15 rfl (by decide) (by omega) (by omega) (fun h15 => ?_) (fun h15 => ?_)
    · refine r_iconst (pc2 := 26) dX1_digitAt_25 rfl ?_
      refine r_ret dX1_digitAt_26 rfl ?_
      exact ⟨by unfold dgZ; first | rw [if_pos (by omega)] | rw [if_neg (by omega)], rfl⟩
    · refine r_iload_n (pc2 := 19) dX1_digitAt_18 rfl rfl ?_
      refine r_bipush (pc2 := 21) dX1_digitAt_19 rfl (by decide) ?_
      refine r_isub (pc2 := 22) dX1_digitAt_21 rfl ?_
      refine r_goto (tgt := 26) dX1_digitAt_22 (by decide) ?_
      refine r_ret dX1_digitAt_26 rfl ?_
      exact ⟨by unfold dgZ; first | rw [if_pos (by omega)] | rw [if_neg (by omega)], rfl⟩

set_option maxHeartbeats 4000000 in
theorem c_viewsUpTo (w : av_W) (x : Int) (hx : -1 ≤ x ∧ x ≤ 1000) : fn MX1_viewsUpTo [.int (iN x)] w (some (.int (iN ((x + 1) / 13)))) w := by
  show rn MX1_viewsUpTo 0 [some (.int (iN x))] [] w _
  refine r_iload_n (pc2 := 1) dX1_viewsUpTo_0 rfl rfl ?_
  refine r_iconst (pc2 := 2) dX1_viewsUpTo_1 rfl ?_
  refine r_iadd (pc2 := 3) dX1_viewsUpTo_2 rfl ?_
  refine r_bipush (pc2 := 5) dX1_viewsUpTo_3 rfl (by decide) ?_
  refine r_idiv (pc2 := 6) dX1_viewsUpTo_5 rfl (by omega) (by omega) (by omega) (by omega) ?_
  refine r_ret dX1_viewsUpTo_6 rfl ?_
  exact ⟨by rw [Int.tdiv_eq_ediv_of_nonneg (by omega)], rfl⟩

set_option maxHeartbeats 4000000 in
theorem c_isAllowed (w : av_W) (t ch : Nat) (len k : Int) (c : Nat → Int) (hT : Tx w t ch len k c) (hR : CR c) (hlen : 0 ≤ len ∧ len ≤ 80) (hk : -1 ≤ k ∧ k ≤ 80) (x : Int) (hx : 0 ≤ x ∧ x ≤ 80) : fn MX1_isAllowed [.ref t, .int (iN x)] w (some (.int (iN (bz (alC c k x))))) w := by
  obtain ⟨⟨ht, htw⟩, ⟨hch, hchw⟩, hne⟩ := id hT
  try unfold RG at *
  have hcr := chZ_rg hR x
  have hdr := dgZ_rg (c := c) x
  show rn MX1_isAllowed 0 [some (.ref t), some (.int (iN x))] [] w _
  refine r_aload_n (pc2 := 1) dX1_isAllowed_0 rfl rfl ?_
  refine r_getf (pc2 := 4) dX1_isAllowed_1 rfl fl_1_19 (by assumption) (by assumption) (by rfl) ?_
  refine r_iconst (pc2 := 5) dX1_isAllowed_4 rfl ?_
  refine r_icmp_eq (pc2 := 8) (tgt := 46) dX1_isAllowed_5 rfl (by decide) (by omega) (by omega) (fun h5 => ?_) (fun h5 => ?_)
  · refine r_iload_n (pc2 := 47) dX1_isAllowed_46 rfl rfl ?_
    refine r_iconst (pc2 := 48) dX1_isAllowed_47 rfl ?_
    refine r_iadd (pc2 := 49) dX1_isAllowed_48 rfl ?_
    refine r_bipush (pc2 := 51) dX1_isAllowed_49 rfl (by decide) ?_
    refine r_irem (pc2 := 52) dX1_isAllowed_51 rfl (by omega) (by omega) (by omega) (by omega) ?_
    rw [Int.tmod_eq_emod_of_nonneg (by omega)]
    refine r_if_eq (pc2 := 55) (tgt := 70) dX1_isAllowed_52 rfl (by decide) (by omega) (fun h52 => ?_) (fun h52 => ?_)
    · refine r_aload_n (pc2 := 71) dX1_isAllowed_70 rfl rfl ?_
      refine r_iload_n (pc2 := 72) dX1_isAllowed_71 rfl rfl ?_
      refine r_callv_1 (pc2 := 75) dX1_isAllowed_72 rfl rs_1_22 rfl (by decide) rfl (Nat.le_of_ble_eq_true rfl) (Nat.le_of_ble_eq_true rfl) (by assumption) (by assumption) (c_charAt _ t ch len k c hT hR hlen x (by unfold RG; omega)) (fun r_ w_ h_ => ?_)
      obtain ⟨rfl, rfl⟩ := h_
      refine ⟨rfl, ?_⟩
      refine r_bipush (pc2 := 77) dX1_isAllowed_75 rfl (by decide) ?_
      refine r_icmp_ne (pc2 := 80) (tgt := 88) dX1_isAllowed_77 rfl (by decide) (by omega) (by omega) (fun h77 => ?_) (fun h77 => ?_)
      · refine r_aload_n (pc2 := 89) dX1_isAllowed_88 rfl rfl ?_
        refine r_iload_n (pc2 := 90) dX1_isAllowed_89 rfl rfl ?_
        refine r_callv_1 (pc2 := 93) dX1_isAllowed_90 rfl rs_1_22 rfl (by decide) rfl (Nat.le_of_ble_eq_true rfl) (Nat.le_of_ble_eq_true rfl) (by assumption) (by assumption) (c_charAt _ t ch len k c hT hR hlen x (by unfold RG; omega)) (fun r_ w_ h_ => ?_)
        obtain ⟨rfl, rfl⟩ := h_
        refine ⟨rfl, ?_⟩
        refine r_bipush (pc2 := 95) dX1_isAllowed_93 rfl (by decide) ?_
        refine r_icmp_ne (pc2 := 98) (tgt := 110) dX1_isAllowed_95 rfl (by decide) (by omega) (by omega) (fun h95 => ?_) (fun h95 => ?_)
        · refine r_iconst (pc2 := 111) dX1_isAllowed_110 rfl ?_
          refine r_retb dX1_isAllowed_111 rfl (by first | exact Or.inl rfl | exact Or.inr rfl | exact bz_01) ?_
          exact ⟨by first | (exfalso; omega) | rw [bz_t (by unfold alC; first | (rw [if_pos (by omega), if_pos (by omega)]; omega) | (rw [if_pos (by omega), if_neg (by omega)]; omega) | (rw [if_neg (by omega)]; omega))] | rw [bz_f (by unfold alC; first | (rw [if_pos (by omega), if_pos (by omega)]; omega) | (rw [if_pos (by omega), if_neg (by omega)]; omega) | (rw [if_neg (by omega)]; omega))], rfl⟩
        · refine r_iload_n (pc2 := 99) dX1_isAllowed_98 rfl rfl ?_
          refine r_calls_1 (pc2 := 102) dX1_isAllowed_99 rfl rs_1_38 rfl (by decide) rfl (Nat.le_of_ble_eq_true rfl) (Nat.le_of_ble_eq_true rfl) (c_viewsUpTo _ x (by omega)) (fun r_ w_ h_ => ?_)
          obtain ⟨rfl, rfl⟩ := h_
          refine ⟨rfl, ?_⟩
          refine r_iconst (pc2 := 103) dX1_isAllowed_102 rfl ?_
          refine r_icmp_lt (pc2 := 106) (tgt := 110) dX1_isAllowed_103 rfl (by decide) (by omega) (by omega) (fun h103 => ?_) (fun h103 => ?_)
          · refine r_iconst (pc2 := 111) dX1_isAllowed_110 rfl ?_
            refine r_retb dX1_isAllowed_111 rfl (by first | exact Or.inl rfl | exact Or.inr rfl | exact bz_01) ?_
            exact ⟨by first | (exfalso; omega) | rw [bz_t (by unfold alC; first | (rw [if_pos (by omega), if_pos (by omega)]; omega) | (rw [if_pos (by omega), if_neg (by omega)]; omega) | (rw [if_neg (by omega)]; omega))] | rw [bz_f (by unfold alC; first | (rw [if_pos (by omega), if_pos (by omega)]; omega) | (rw [if_pos (by omega), if_neg (by omega)]; omega) | (rw [if_neg (by omega)]; omega))], rfl⟩
          · refine r_iconst (pc2 := 107) dX1_isAllowed_106 rfl ?_
            refine r_goto (tgt := 111) dX1_isAllowed_107 (by decide) ?_
            refine r_retb dX1_isAllowed_111 rfl (by first | exact Or.inl rfl | exact Or.inr rfl | exact bz_01) ?_
            exact ⟨by first | (exfalso; omega) | rw [bz_t (by unfold alC; first | (rw [if_pos (by omega), if_pos (by omega)]; omega) | (rw [if_pos (by omega), if_neg (by omega)]; omega) | (rw [if_neg (by omega)]; omega))] | rw [bz_f (by unfold alC; first | (rw [if_pos (by omega), if_pos (by omega)]; omega) | (rw [if_pos (by omega), if_neg (by omega)]; omega) | (rw [if_neg (by omega)]; omega))], rfl⟩
      · refine r_iload_n (pc2 := 81) dX1_isAllowed_80 rfl rfl ?_
        refine r_calls_1 (pc2 := 84) dX1_isAllowed_81 rfl rs_1_38 rfl (by decide) rfl (Nat.le_of_ble_eq_true rfl) (Nat.le_of_ble_eq_true rfl) (c_viewsUpTo _ x (by omega)) (fun r_ w_ h_ => ?_)
        obtain ⟨rfl, rfl⟩ := h_
        refine ⟨rfl, ?_⟩
        refine r_iconst (pc2 := 85) dX1_isAllowed_84 rfl ?_
        refine r_icmp_lt (pc2 := 88) (tgt := 106) dX1_isAllowed_85 rfl (by decide) (by omega) (by omega) (fun h85 => ?_) (fun h85 => ?_)
        · refine r_iconst (pc2 := 107) dX1_isAllowed_106 rfl ?_
          refine r_goto (tgt := 111) dX1_isAllowed_107 (by decide) ?_
          refine r_retb dX1_isAllowed_111 rfl (by first | exact Or.inl rfl | exact Or.inr rfl | exact bz_01) ?_
          exact ⟨by first | (exfalso; omega) | rw [bz_t (by unfold alC; first | (rw [if_pos (by omega), if_pos (by omega)]; omega) | (rw [if_pos (by omega), if_neg (by omega)]; omega) | (rw [if_neg (by omega)]; omega))] | rw [bz_f (by unfold alC; first | (rw [if_pos (by omega), if_pos (by omega)]; omega) | (rw [if_pos (by omega), if_neg (by omega)]; omega) | (rw [if_neg (by omega)]; omega))], rfl⟩
        · refine r_aload_n (pc2 := 89) dX1_isAllowed_88 rfl rfl ?_
          refine r_iload_n (pc2 := 90) dX1_isAllowed_89 rfl rfl ?_
          refine r_callv_1 (pc2 := 93) dX1_isAllowed_90 rfl rs_1_22 rfl (by decide) rfl (Nat.le_of_ble_eq_true rfl) (Nat.le_of_ble_eq_true rfl) (by assumption) (by assumption) (c_charAt _ t ch len k c hT hR hlen x (by unfold RG; omega)) (fun r_ w_ h_ => ?_)
          obtain ⟨rfl, rfl⟩ := h_
          refine ⟨rfl, ?_⟩
          refine r_bipush (pc2 := 95) dX1_isAllowed_93 rfl (by decide) ?_
          refine r_icmp_ne (pc2 := 98) (tgt := 110) dX1_isAllowed_95 rfl (by decide) (by omega) (by omega) (fun h95 => ?_) (fun h95 => ?_)
          · refine r_iconst (pc2 := 111) dX1_isAllowed_110 rfl ?_
            refine r_retb dX1_isAllowed_111 rfl (by first | exact Or.inl rfl | exact Or.inr rfl | exact bz_01) ?_
            exact ⟨by first | (exfalso; omega) | rw [bz_t (by unfold alC; first | (rw [if_pos (by omega), if_pos (by omega)]; omega) | (rw [if_pos (by omega), if_neg (by omega)]; omega) | (rw [if_neg (by omega)]; omega))] | rw [bz_f (by unfold alC; first | (rw [if_pos (by omega), if_pos (by omega)]; omega) | (rw [if_pos (by omega), if_neg (by omega)]; omega) | (rw [if_neg (by omega)]; omega))], rfl⟩
          · refine r_iload_n (pc2 := 99) dX1_isAllowed_98 rfl rfl ?_
            refine r_calls_1 (pc2 := 102) dX1_isAllowed_99 rfl rs_1_38 rfl (by decide) rfl (Nat.le_of_ble_eq_true rfl) (Nat.le_of_ble_eq_true rfl) (c_viewsUpTo _ x (by omega)) (fun r_ w_ h_ => ?_)
            obtain ⟨rfl, rfl⟩ := h_
            refine ⟨rfl, ?_⟩
            refine r_iconst (pc2 := 103) dX1_isAllowed_102 rfl ?_
            refine r_icmp_lt (pc2 := 106) (tgt := 110) dX1_isAllowed_103 rfl (by decide) (by omega) (by omega) (fun h103 => ?_) (fun h103 => ?_)
            · refine r_iconst (pc2 := 111) dX1_isAllowed_110 rfl ?_
              refine r_retb dX1_isAllowed_111 rfl (by first | exact Or.inl rfl | exact Or.inr rfl | exact bz_01) ?_
              exact ⟨by first | (exfalso; omega) | rw [bz_t (by unfold alC; first | (rw [if_pos (by omega), if_pos (by omega)]; omega) | (rw [if_pos (by omega), if_neg (by omega)]; omega) | (rw [if_neg (by omega)]; omega))] | rw [bz_f (by unfold alC; first | (rw [if_pos (by omega), if_pos (by omega)]; omega) | (rw [if_pos (by omega), if_neg (by omega)]; omega) | (rw [if_neg (by omega)]; omega))], rfl⟩
            · refine r_iconst (pc2 := 107) dX1_isAllowed_106 rfl ?_
              refine r_goto (tgt := 111) dX1_isAllowed_107 (by decide) ?_
              refine r_retb dX1_isAllowed_111 rfl (by first | exact Or.inl rfl | exact Or.inr rfl | exact bz_01) ?_
              exact ⟨by first | (exfalso; omega) | rw [bz_t (by unfold alC; first | (rw [if_pos (by omega), if_pos (by omega)]; omega) | (rw [if_pos (by omega), if_neg (by omega)]; omega) | (rw [if_neg (by omega)]; omega))] | rw [bz_f (by unfold alC; first | (rw [if_pos (by omega), if_pos (by omega)]; omega) | (rw [if_pos (by omega), if_neg (by omega)]; omega) | (rw [if_neg (by omega)]; omega))], rfl⟩
    · refine r_aload_n (pc2 := 56) dX1_isAllowed_55 rfl rfl ?_
      refine r_iload_n (pc2 := 57) dX1_isAllowed_56 rfl rfl ?_
      refine r_callv_1 (pc2 := 60) dX1_isAllowed_57 rfl rs_1_34 rfl (by decide) rfl (Nat.le_of_ble_eq_true rfl) (Nat.le_of_ble_eq_true rfl) (by assumption) (by assumption) (c_digitAt _ t ch len k c hT hR hlen x (by unfold RG; omega)) (fun r_ w_ h_ => ?_)
      obtain ⟨rfl, rfl⟩ := h_
      refine ⟨rfl, ?_⟩
      refine r_iconst (pc2 := 61) dX1_isAllowed_60 rfl ?_
      refine r_icmp_eq (pc2 := 64) (tgt := 68) dX1_isAllowed_61 rfl (by decide) (by omega) (by omega) (fun h61 => ?_) (fun h61 => ?_)
      · refine r_iconst (pc2 := 69) dX1_isAllowed_68 rfl ?_
        refine r_retb dX1_isAllowed_69 rfl (by first | exact Or.inl rfl | exact Or.inr rfl | exact bz_01) ?_
        exact ⟨by first | (exfalso; omega) | rw [bz_t (by unfold alC; first | (rw [if_pos (by omega), if_pos (by omega)]; omega) | (rw [if_pos (by omega), if_neg (by omega)]; omega) | (rw [if_neg (by omega)]; omega))] | rw [bz_f (by unfold alC; first | (rw [if_pos (by omega), if_pos (by omega)]; omega) | (rw [if_pos (by omega), if_neg (by omega)]; omega) | (rw [if_neg (by omega)]; omega))], rfl⟩
      · refine r_iconst (pc2 := 65) dX1_isAllowed_64 rfl ?_
        refine r_goto (tgt := 69) dX1_isAllowed_65 (by decide) ?_
        refine r_retb dX1_isAllowed_69 rfl (by first | exact Or.inl rfl | exact Or.inr rfl | exact bz_01) ?_
        exact ⟨by first | (exfalso; omega) | rw [bz_t (by unfold alC; first | (rw [if_pos (by omega), if_pos (by omega)]; omega) | (rw [if_pos (by omega), if_neg (by omega)]; omega) | (rw [if_neg (by omega)]; omega))] | rw [bz_f (by unfold alC; first | (rw [if_pos (by omega), if_pos (by omega)]; omega) | (rw [if_pos (by omega), if_neg (by omega)]; omega) | (rw [if_neg (by omega)]; omega))], rfl⟩
  · refine r_iload_n (pc2 := 9) dX1_isAllowed_8 rfl rfl ?_
    refine r_aload_n (pc2 := 10) dX1_isAllowed_9 rfl rfl ?_
    refine r_getf (pc2 := 13) dX1_isAllowed_10 rfl fl_1_19 (by assumption) (by assumption) (by rfl) ?_
    refine r_isub (pc2 := 14) dX1_isAllowed_13 rfl ?_
    refine r_bipush (pc2 := 16) dX1_isAllowed_14 rfl (by decide) ?_
    refine r_icmp_gt (pc2 := 19) (tgt := 44) dX1_isAllowed_16 rfl (by decide) (by omega) (by omega) (fun h16 => ?_) (fun h16 => ?_)
    · refine r_iconst (pc2 := 45) dX1_isAllowed_44 rfl ?_
      refine r_retb dX1_isAllowed_45 rfl (by first | exact Or.inl rfl | exact Or.inr rfl | exact bz_01) ?_
      exact ⟨by first | (exfalso; omega) | rw [bz_t (by unfold alC; first | (rw [if_pos (by omega), if_pos (by omega)]; omega) | (rw [if_pos (by omega), if_neg (by omega)]; omega) | (rw [if_neg (by omega)]; omega))] | rw [bz_f (by unfold alC; first | (rw [if_pos (by omega), if_pos (by omega)]; omega) | (rw [if_pos (by omega), if_neg (by omega)]; omega) | (rw [if_neg (by omega)]; omega))], rfl⟩
    · refine r_aload_n (pc2 := 20) dX1_isAllowed_19 rfl rfl ?_
      refine r_iload_n (pc2 := 21) dX1_isAllowed_20 rfl rfl ?_
      refine r_callv_1 (pc2 := 24) dX1_isAllowed_21 rfl rs_1_34 rfl (by decide) rfl (Nat.le_of_ble_eq_true rfl) (Nat.le_of_ble_eq_true rfl) (by assumption) (by assumption) (c_digitAt _ t ch len k c hT hR hlen x (by unfold RG; omega)) (fun r_ w_ h_ => ?_)
      obtain ⟨rfl, rfl⟩ := h_
      refine ⟨rfl, ?_⟩
      refine r_iconst (pc2 := 25) dX1_isAllowed_24 rfl ?_
      refine r_aload_n (pc2 := 26) dX1_isAllowed_25 rfl rfl ?_
      refine r_getf (pc2 := 29) dX1_isAllowed_26 rfl fl_1_19 (by assumption) (by assumption) (by rfl) ?_
      refine r_calls_1 (pc2 := 32) dX1_isAllowed_29 rfl rs_1_38 rfl (by decide) rfl (Nat.le_of_ble_eq_true rfl) (Nat.le_of_ble_eq_true rfl) (c_viewsUpTo _ k (by omega)) (fun r_ w_ h_ => ?_)
      obtain ⟨rfl, rfl⟩ := h_
      refine ⟨rfl, ?_⟩
      refine r_iconst (pc2 := 33) dX1_isAllowed_32 rfl ?_
      refine r_isub (pc2 := 34) dX1_isAllowed_33 rfl ?_
      refine r_calls_3 (pc2 := 37) dX1_isAllowed_34 rfl rs_1_41 rfl (by decide) rfl (Nat.le_of_ble_eq_true rfl) (Nat.le_of_ble_eq_true rfl) (c_isWithin _ (dgZ c x) 0 ((k + 1) / 13 - 1) (by unfold RG; omega) (by unfold RG; omega) (by unfold RG; omega)) (fun r_ w_ h_ => ?_)
      obtain ⟨rfl, rfl⟩ := h_
      refine ⟨rfl, ?_⟩
      refine r_ifb_eq (pc2 := 40) (tgt := 44) dX1_isAllowed_37 rfl (by decide)  (fun h37 => ?_) (fun h37 => ?_)
      · refine r_iconst (pc2 := 45) dX1_isAllowed_44 rfl ?_
        refine r_retb dX1_isAllowed_45 rfl (by first | exact Or.inl rfl | exact Or.inr rfl | exact bz_01) ?_
        exact ⟨by first | (exfalso; omega) | rw [bz_t (by unfold alC; first | (rw [if_pos (by omega), if_pos (by omega)]; omega) | (rw [if_pos (by omega), if_neg (by omega)]; omega) | (rw [if_neg (by omega)]; omega))] | rw [bz_f (by unfold alC; first | (rw [if_pos (by omega), if_pos (by omega)]; omega) | (rw [if_pos (by omega), if_neg (by omega)]; omega) | (rw [if_neg (by omega)]; omega))], rfl⟩
      · refine r_iconst (pc2 := 41) dX1_isAllowed_40 rfl ?_
        refine r_goto (tgt := 45) dX1_isAllowed_41 (by decide) ?_
        refine r_retb dX1_isAllowed_45 rfl (by first | exact Or.inl rfl | exact Or.inr rfl | exact bz_01) ?_
        exact ⟨by first | (exfalso; omega) | rw [bz_t (by unfold alC; first | (rw [if_pos (by omega), if_pos (by omega)]; omega) | (rw [if_pos (by omega), if_neg (by omega)]; omega) | (rw [if_neg (by omega)]; omega))] | rw [bz_f (by unfold alC; first | (rw [if_pos (by omega), if_pos (by omega)]; omega) | (rw [if_pos (by omega), if_neg (by omega)]; omega) | (rw [if_neg (by omega)]; omega))], rfl⟩

set_option maxHeartbeats 4000000 in
theorem c_isEnded (w : av_W) (t ch : Nat) (len k : Int) (c : Nat → Int) (hT : Tx w t ch len k c) (hR : CR c) (hlen : 0 ≤ len ∧ len ≤ 80) (hk : -1 ≤ k ∧ k ≤ 80) : fn MX1_isEnded [.ref t] w (some (.int (iN (bz (enC len k))))) w := by
  obtain ⟨⟨ht, htw⟩, ⟨hch, hchw⟩, hne⟩ := id hT
  try unfold RG at *
  show rn MX1_isEnded 0 [some (.ref t)] [] w _
  refine r_aload_n (pc2 := 1) dX1_isEnded_0 rfl rfl ?_
  refine r_getf (pc2 := 4) dX1_isEnded_1 rfl fl_1_19 (by assumption) (by assumption) (by rfl) ?_
  refine r_iconst (pc2 := 5) dX1_isEnded_4 rfl ?_
  refine r_icmp_eq (pc2 := 8) (tgt := 29) dX1_isEnded_5 rfl (by decide) (by omega) (by omega) (fun h5 => ?_) (fun h5 => ?_)
  · refine r_aload_n (pc2 := 30) dX1_isEnded_29 rfl rfl ?_
    refine r_getf (pc2 := 33) dX1_isEnded_30 rfl fl_1_15 (by assumption) (by assumption) (by rfl) ?_
    refine r_iconst (pc2 := 34) dX1_isEnded_33 rfl ?_
    refine r_iadd (pc2 := 35) dX1_isEnded_34 rfl ?_
    refine r_bipush (pc2 := 37) dX1_isEnded_35 rfl (by decide) ?_
    refine r_irem (pc2 := 38) dX1_isEnded_37 rfl (by omega) (by omega) (by omega) (by omega) ?_
    rw [Int.tmod_eq_emod_of_nonneg (by omega)]
    refine r_if_ne (pc2 := 41) (tgt := 56) dX1_isEnded_38 rfl (by decide) (by omega) (fun h38 => ?_) (fun h38 => ?_)
    · refine r_iconst (pc2 := 57) dX1_isEnded_56 rfl ?_
      refine r_retb dX1_isEnded_57 rfl (by first | exact Or.inl rfl | exact Or.inr rfl | exact bz_01) ?_
      exact ⟨by first | (exfalso; omega) | rw [bz_t (by unfold enC; first | (rw [if_pos (by omega)]; omega) | (rw [if_neg (by omega)]; omega))] | rw [bz_f (by unfold enC; first | (rw [if_pos (by omega)]; omega) | (rw [if_neg (by omega)]; omega))], rfl⟩
    · refine r_aload_n (pc2 := 42) dX1_isEnded_41 rfl rfl ?_
      refine r_getf (pc2 := 45) dX1_isEnded_42 rfl fl_1_15 (by assumption) (by assumption) (by rfl) ?_
      refine r_calls_1 (pc2 := 48) dX1_isEnded_45 rfl rs_1_38 rfl (by decide) rfl (Nat.le_of_ble_eq_true rfl) (Nat.le_of_ble_eq_true rfl) (c_viewsUpTo _ len (by omega)) (fun r_ w_ h_ => ?_)
      obtain ⟨rfl, rfl⟩ := h_
      refine ⟨rfl, ?_⟩
      refine r_iconst (pc2 := 49) dX1_isEnded_48 rfl ?_
      refine r_icmp_lt (pc2 := 52) (tgt := 56) dX1_isEnded_49 rfl (by decide) (by omega) (by omega) (fun h49 => ?_) (fun h49 => ?_)
      · refine r_iconst (pc2 := 57) dX1_isEnded_56 rfl ?_
        refine r_retb dX1_isEnded_57 rfl (by first | exact Or.inl rfl | exact Or.inr rfl | exact bz_01) ?_
        exact ⟨by first | (exfalso; omega) | rw [bz_t (by unfold enC; first | (rw [if_pos (by omega)]; omega) | (rw [if_neg (by omega)]; omega))] | rw [bz_f (by unfold enC; first | (rw [if_pos (by omega)]; omega) | (rw [if_neg (by omega)]; omega))], rfl⟩
      · refine r_iconst (pc2 := 53) dX1_isEnded_52 rfl ?_
        refine r_goto (tgt := 57) dX1_isEnded_53 (by decide) ?_
        refine r_retb dX1_isEnded_57 rfl (by first | exact Or.inl rfl | exact Or.inr rfl | exact bz_01) ?_
        exact ⟨by first | (exfalso; omega) | rw [bz_t (by unfold enC; first | (rw [if_pos (by omega)]; omega) | (rw [if_neg (by omega)]; omega))] | rw [bz_f (by unfold enC; first | (rw [if_pos (by omega)]; omega) | (rw [if_neg (by omega)]; omega))], rfl⟩
  · refine r_aload_n (pc2 := 9) dX1_isEnded_8 rfl rfl ?_
    refine r_getf (pc2 := 12) dX1_isEnded_9 rfl fl_1_15 (by assumption) (by assumption) (by rfl) ?_
    refine r_aload_n (pc2 := 13) dX1_isEnded_12 rfl rfl ?_
    refine r_getf (pc2 := 16) dX1_isEnded_13 rfl fl_1_19 (by assumption) (by assumption) (by rfl) ?_
    refine r_isub (pc2 := 17) dX1_isEnded_16 rfl ?_
    refine r_iconst (pc2 := 18) dX1_isEnded_17 rfl ?_
    refine r_isub (pc2 := 19) dX1_isEnded_18 rfl ?_
    refine r_iconst (pc2 := 20) dX1_isEnded_19 rfl ?_
    refine r_icmp_lt (pc2 := 23) (tgt := 27) dX1_isEnded_20 rfl (by decide) (by omega) (by omega) (fun h20 => ?_) (fun h20 => ?_)
    · refine r_iconst (pc2 := 28) dX1_isEnded_27 rfl ?_
      refine r_retb dX1_isEnded_28 rfl (by first | exact Or.inl rfl | exact Or.inr rfl | exact bz_01) ?_
      exact ⟨by first | (exfalso; omega) | rw [bz_t (by unfold enC; first | (rw [if_pos (by omega)]; omega) | (rw [if_neg (by omega)]; omega))] | rw [bz_f (by unfold enC; first | (rw [if_pos (by omega)]; omega) | (rw [if_neg (by omega)]; omega))], rfl⟩
    · refine r_iconst (pc2 := 24) dX1_isEnded_23 rfl ?_
      refine r_goto (tgt := 28) dX1_isEnded_24 (by decide) ?_
      refine r_retb dX1_isEnded_28 rfl (by first | exact Or.inl rfl | exact Or.inr rfl | exact bz_01) ?_
      exact ⟨by first | (exfalso; omega) | rw [bz_t (by unfold enC; first | (rw [if_pos (by omega)]; omega) | (rw [if_neg (by omega)]; omega))] | rw [bz_f (by unfold enC; first | (rw [if_pos (by omega)]; omega) | (rw [if_neg (by omega)]; omega))], rfl⟩

theorem Tx.obj {w : av_W} {t ch : Nat} {len k : Int} {c : Nat → Int} (h : Tx w t ch len k c) (len2 k2 : Int) : Tx (wst w t (txO ch len2 k2)) t ch len2 k2 c := by
  obtain ⟨⟨ht, htw⟩, ⟨hch, hchw⟩, hne⟩ := h
  exact ⟨⟨ht, wst_self⟩, ⟨hch, by rw [wst_ne (fun q => hne q.symm)]; exact hchw⟩, hne⟩

set_option maxHeartbeats 4000000 in
theorem c_findFault (w : av_W) (t ch : Nat) (len k : Int) (c : Nat → Int) (hT : Tx w t ch len k c) (hR : CR c) (hlen : 0 ≤ len ∧ len ≤ 80) : cl MX1_findFault [.ref t] w (fun r' w' => (∃ i : Nat, (i : Int) < len ∧ (∀ j : Nat, j < i → alC c (coF c j) j) ∧ ¬ alC c (coF c i) i ∧ r' = some (.int (iN i)) ∧ w' = wst w t (txO ch len (coF c i))) ∨ ((∀ j : Nat, (j : Int) < len → alC c (coF c j) j) ∧ r' = some (.int (iN (if enC len (coF c len.toNat) then -1 else len))) ∧ w' = wst w t (txO ch len (coF c len.toNat)))) := by
  obtain ⟨⟨ht, htw⟩, ⟨hch, hchw⟩, hne⟩ := id hT
  try unfold RG at *
  show rn MX1_findFault 0 [some (.ref t), none] [] w (fun r' w' => (∃ i : Nat, (i : Int) < len ∧ (∀ j : Nat, j < i → alC c (coF c j) j) ∧ ¬ alC c (coF c i) i ∧ r' = some (.int (iN i)) ∧ w' = wst w t (txO ch len (coF c i))) ∨ ((∀ j : Nat, (j : Int) < len → alC c (coF c j) j) ∧ r' = some (.int (iN (if enC len (coF c len.toNat) then -1 else len))) ∧ w' = wst w t (txO ch len (coF c len.toNat))))
  have loop : ∀ (n : Nat) (i : Int), (0 ≤ i ∧ i ≤ len ∧ len + 1 ≤ i + n) → (∀ j : Nat, (j : Int) < i → alC c (coF c j) j) → rn MX1_findFault 7 [some (.ref t), some (.int (iN i))] [] (wst w t (txO ch len (coF c i.toNat))) (fun r' w' => (∃ i : Nat, (i : Int) < len ∧ (∀ j : Nat, j < i → alC c (coF c j) j) ∧ ¬ alC c (coF c i) i ∧ r' = some (.int (iN i)) ∧ w' = wst w t (txO ch len (coF c i))) ∨ ((∀ j : Nat, (j : Int) < len → alC c (coF c j) j) ∧ r' = some (.int (iN (if enC len (coF c len.toNat) then -1 else len))) ∧ w' = wst w t (txO ch len (coF c len.toNat)))) := by
    intro n
    induction n with
    | zero =>
      intro i hk0 hk1
      exfalso
      omega
    | succ n ih =>
      intro i hk0 hk1
      have hq := hT.obj len (coF c i.toNat)
      obtain ⟨⟨hqt, hqw⟩, ⟨hqc, hqx⟩, -⟩ := id hq
      have hcor := coF_rg c i.toNat
      have hcz := chZ_rg hR i
      refine r_iload_n (pc2 := 8) dX1_findFault_7 rfl rfl ?_
      refine r_aload_n (pc2 := 9) dX1_findFault_8 rfl rfl ?_
      refine r_getf (pc2 := 12) dX1_findFault_9 rfl fl_1_15 (by assumption) (by assumption) (by rfl) ?_
      refine r_icmp_ge (pc2 := 15) (tgt := 46) dX1_findFault_12 rfl (by decide) (by omega) (by omega) (fun h12 => ?_) (fun h12 => ?_)
      · have h6 : len = i := by omega
        refine r_aload_n (pc2 := 47) dX1_findFault_46 rfl rfl ?_
        refine r_callv_0 (pc2 := 50) dX1_findFault_47 rfl rs_1_30 rfl (by decide) rfl (Nat.le_of_ble_eq_true rfl) (Nat.le_of_ble_eq_true rfl) (by assumption) (by assumption) (c_isEnded _ t ch len _ c hq hR hlen (by omega)) (fun r_ w_ h_ => ?_)
        obtain ⟨rfl, rfl⟩ := h_
        refine ⟨rfl, ?_⟩
        refine r_ifb_eq (pc2 := 53) (tgt := 57) dX1_findFault_50 rfl (by decide)  (fun h50 => ?_) (fun h50 => ?_)
        · refine r_aload_n (pc2 := 58) dX1_findFault_57 rfl rfl ?_
          refine r_getf (pc2 := 61) dX1_findFault_58 rfl fl_1_15 (by assumption) (by assumption) (by rfl) ?_
          refine r_ret dX1_findFault_61 rfl ?_
          have e9 : len.toNat = i.toNat := by omega
          refine Or.inr ⟨fun j hj => hk1 j (by omega), ?_, by rw [e9]⟩
          rw [e9]
          first | (rw [if_pos h50]) | (rw [if_neg h50])
        · refine r_iconst (pc2 := 54) dX1_findFault_53 rfl ?_
          refine r_goto (tgt := 61) dX1_findFault_54 (by decide) ?_
          refine r_ret dX1_findFault_61 rfl ?_
          have e9 : len.toNat = i.toNat := by omega
          refine Or.inr ⟨fun j hj => hk1 j (by omega), ?_, by rw [e9]⟩
          rw [e9]
          first | (rw [if_pos h50]) | (rw [if_neg h50])
      · refine r_aload_n (pc2 := 16) dX1_findFault_15 rfl rfl ?_
        refine r_iload_n (pc2 := 17) dX1_findFault_16 rfl rfl ?_
        refine r_callv_1 (pc2 := 20) dX1_findFault_17 rfl rs_1_26 rfl (by decide) rfl (Nat.le_of_ble_eq_true rfl) (Nat.le_of_ble_eq_true rfl) (by assumption) (by assumption) (c_isAllowed _ t ch len _ c hq hR hlen (by omega) i (by omega)) (fun r_ w_ h_ => ?_)
        obtain ⟨rfl, rfl⟩ := h_
        refine ⟨rfl, ?_⟩
        refine r_ifb_ne (pc2 := 23) (tgt := 25) dX1_findFault_20 rfl (by decide)  (fun h20 => ?_) (fun h20 => ?_)
        · refine r_aload_n (pc2 := 26) dX1_findFault_25 rfl rfl ?_
          refine r_iload_n (pc2 := 27) dX1_findFault_26 rfl rfl ?_
          refine r_callv_1 (pc2 := 30) dX1_findFault_27 rfl rs_1_22 rfl (by decide) rfl (Nat.le_of_ble_eq_true rfl) (Nat.le_of_ble_eq_true rfl) (by assumption) (by assumption) (c_charAt _ t ch len _ c hq hR hlen i (by unfold RG; omega)) (fun r_ w_ h_ => ?_)
          obtain ⟨rfl, rfl⟩ := h_
          refine ⟨rfl, ?_⟩
          refine r_bipush (pc2 := 32) dX1_findFault_30 rfl (by decide) ?_
          refine r_icmp_ne (pc2 := 35) (tgt := 40) dX1_findFault_32 rfl (by decide) (by omega) (by omega) (fun h32 => ?_) (fun h32 => ?_)
          · have hco : coF c (i + 1).toNat = coF c i.toNat := by
              rw [show (i + 1).toNat = i.toNat + 1 by omega]
              show (if chZ c ((i.toNat : Nat) : Int) = 58 then ((i.toNat : Nat) : Int) else coF c i.toNat) = _
              rw [tn hk0.1, if_neg h32]
            try rw [wst_wst]
            refine r_iinc_1 (pc2 := 43) dX1_findFault_40 rfl rfl ?_
            refine r_goto (tgt := 7) dX1_findFault_43 (by decide) ?_
            have hall : ∀ j : Nat, (j : Int) < i + 1 → alC c (coF c j) j := fun j hj => by
              by_cases hji : (j : Int) = i
              · rw [show j = i.toNat by omega, tn hk0.1]
                exact h20
              · exact hk1 j (by omega)
            have := ih (i + 1) (by omega) hall
            rw [show coF c (i + 1).toNat = _ from hco] at this
            exact this
          · have hco : coF c (i + 1).toNat = i := by
              rw [show (i + 1).toNat = i.toNat + 1 by omega]
              show (if chZ c ((i.toNat : Nat) : Int) = 58 then ((i.toNat : Nat) : Int) else coF c i.toNat) = _
              rw [tn hk0.1, if_pos h32]
            refine r_aload_n (pc2 := 36) dX1_findFault_35 rfl rfl ?_
            refine r_iload_n (pc2 := 37) dX1_findFault_36 rfl rfl ?_
            refine r_putf (pc2 := 40) dX1_findFault_37 rfl fl_1_19 (by assumption) (by assumption) (by exact Nat.le_of_ble_eq_true rfl) (by rfl) (by rfl) (by rfl) ?_
            try rw [wst_wst]
            refine r_iinc_1 (pc2 := 43) dX1_findFault_40 rfl rfl ?_
            refine r_goto (tgt := 7) dX1_findFault_43 (by decide) ?_
            have hall : ∀ j : Nat, (j : Int) < i + 1 → alC c (coF c j) j := fun j hj => by
              by_cases hji : (j : Int) = i
              · rw [show j = i.toNat by omega, tn hk0.1]
                exact h20
              · exact hk1 j (by omega)
            have := ih (i + 1) (by omega) hall
            rw [show coF c (i + 1).toNat = _ from hco] at this
            exact this
        · refine r_iload_n (pc2 := 24) dX1_findFault_23 rfl rfl ?_
          refine r_ret dX1_findFault_24 rfl ?_
          refine Or.inl ⟨i.toNat, by omega, fun j hj => hk1 j (by omega), ?_, by rw [tn hk0.1], rfl⟩
          rw [tn hk0.1]
          exact h20
  refine r_aload_n (pc2 := 1) dX1_findFault_0 rfl rfl ?_
  refine r_iconst (pc2 := 2) dX1_findFault_1 rfl ?_
  refine r_putf (pc2 := 5) dX1_findFault_2 rfl fl_1_19 (by assumption) (by assumption) (by exact Nat.le_of_ble_eq_true rfl) (by rfl) (by rfl) (by rfl) ?_
  refine r_iconst (pc2 := 6) dX1_findFault_5 rfl ?_
  refine r_ist_1 (pc2 := 7) dX1_findFault_6 rfl rfl ?_
  have := loop (len.toNat + 1) 0 (by omega) (fun j hj => by omega)
  exact this
end
section
/-! a text is written to a card; the history -/
def dgc (c : Nat → Int) : Nat → Int := fun j => dgZ c ((j : Int) / 12 * 13 + (j : Int) % 12)
theorem dgc_at {c : Nat → Int} {x y : Int} (hx : 0 ≤ x) (hy : 0 ≤ y ∧ y ≤ 11) : dgc c (x * 12 + y).toNat = dgZ c (x * 13 + y) := by
  unfold dgc
  rw [tn (by omega)]
  congr 1
  omega

theorem Tx.out {w : av_W} {t ch : Nat} {len k : Int} {c : Nat → Int} (h : Tx w t ch len k c) {b : Nat} (e : av_E) (h1 : t ≠ b) (h2 : ch ≠ b) : Tx (wst w b e) t ch len k c := by
  obtain ⟨⟨ht, htw⟩, ⟨hch, hchw⟩, hne⟩ := h
  exact ⟨⟨ht, by rw [wst_ne h1]; exact htw⟩, ⟨hch, by rw [wst_ne h2]; exact hchw⟩, hne⟩
theorem Tx_cdW {w : av_W} {t ch : Nat} {len k : Int} {c : Nat → Int} (h : Tx w t ch len k c) {a ca sa : Nat} (E A B : av_E) (h1 : t ≠ a ∧ t ≠ ca ∧ t ≠ sa) (h2 : ch ≠ a ∧ ch ≠ ca ∧ ch ≠ sa) : Tx (cdW w a ca sa E A B) t ch len k c := ((h.out E h1.1 h2.1).out A h1.2.1 h2.2.1).out B h1.2.2 h2.2.2

set_option maxHeartbeats 4000000 in
theorem c_writeTo (w : av_W) (t ch : Nat) (len k : Int) (tc : Nat → Int) (hT : Tx w t ch len k tc) (hR : CR tc) (hlen : 0 ≤ len ∧ len ≤ 80) (a ca sa : Nat) (v p sh ln pr gd co : Int) (c s : Nat → Int) (hC : Cd w a ca sa v p sh ln pr gd co c s) (hd1 : t ≠ a ∧ t ≠ ca ∧ t ≠ sa) (hd2 : ch ≠ a ∧ ch ≠ ca ∧ ch ≠ sa) (hk : -1 ≤ k ∧ k ≤ 80) (q v2 : Int) (hq : q = if k = -1 then len else k) (hv2 : v2 = (q + 1) / 13) (hK : KR v2 p sh ln) (hp2 : k ≠ -1 → 2 ≤ len - k - 1 ∧ len - k - 1 ≤ 6) (W2 : av_W) (hW1 : k = -1 → W2 = cdW w a ca sa (cdO ca sa v2 p sh ln pr gd co) (arO 48 (preF (v2 * 12) (dgc tc) c)) (arO 6 (preF 6 (inT v2) s))) (hW3 : k ≠ -1 → W2 = cdW w a ca sa (cdO ca sa v2 (len - k - 1) sh ln pr gd co) (arO 48 (preF (v2 * 12) (dgc tc) c)) (arO 6 (preF (len - k - 1) (fun j => dgZ tc (k + 1 + j)) (preF 6 (inT v2) s)))) : fn MX1_writeTo [.ref t, .ref a] w none W2 := by
  obtain ⟨⟨ha, hw⟩, ⟨hca, hcw⟩, ⟨hsa, hsw⟩, hne1, hne2, hne3⟩ := id hC
  obtain ⟨hv, hp, hsh, hln⟩ := id hK
  obtain ⟨⟨ht, htw⟩, ⟨hch, hchw⟩, hne⟩ := id hT
  have hqr : -1 ≤ q ∧ q ≤ 80 := by
    rw [hq]
    split <;> omega
  show rn MX1_writeTo 0 [some (.ref t), some (.ref a), none, none] [] w (fun r' w' => r' = none ∧ w' = W2)
  have loop3 : ∀ (n : Nat) (x : Int) (b3 : Option Value), (0 ≤ x ∧ x ≤ len - k - 1 ∧ len - k ≤ x + n) → (k ≠ -1) → rn MX1_writeTo 101 [some (.ref t), some (.ref a), some (.int (iN x)), b3] [] (cdW w a ca sa (cdO ca sa v2 (len - k - 1) sh ln pr gd co) (arO 48 (preF (v2 * 12) (dgc tc) c)) (arO 6 (preF x (fun j => dgZ tc (k + 1 + j)) (preF 6 (inT v2) s)))) (fun r' w' => r' = none ∧ w' = W2) := by
    intro n
    induction n with
    | zero =>
      intro x b3 hk0 hk1
      exfalso
      omega
    | succ n ih =>
      intro x b3 hk0 hk1
      have hp3 := hp2 hk1
      have hCj := Cd_cdW hC v2 (len - k - 1) sh ln pr gd co (preF (v2 * 12) (dgc tc) c) (preF x (fun j => dgZ tc (k + 1 + j)) (preF 6 (inT v2) s))
      obtain ⟨⟨qaj, qwj⟩, -⟩ := id hCj
      have hTj := Tx_cdW hT (cdO ca sa v2 (len - k - 1) sh ln pr gd co) (arO 48 (preF (v2 * 12) (dgc tc) c)) (arO 6 (preF x (fun j => dgZ tc (k + 1 + j)) (preF 6 (inT v2) s))) hd1 hd2
      obtain ⟨⟨qtj, qtwj⟩, -⟩ := id hTj
      refine r_iload_n (pc2 := 102) dX1_writeTo_101 rfl rfl ?_
      refine r_aload_n (pc2 := 103) dX1_writeTo_102 rfl rfl ?_
      refine r_getf (pc2 := 106) dX1_writeTo_103 rfl fl_1_57 (by assumption) (by assumption) (by rfl) ?_
      refine r_icmp_ge (pc2 := 109) (tgt := 132) dX1_writeTo_106 rfl (by decide) (by omega) (by omega) (fun h106 => ?_) (fun h106 => ?_)
      · have h6 : x = len - k - 1 := by omega
        rw [h6]
        refine r_retv dX1_writeTo_132 rfl ?_
        exact ⟨rfl, (hW3 hk1).symm⟩
      · refine r_aload_n (pc2 := 110) dX1_writeTo_109 rfl rfl ?_
        refine r_iload_n (pc2 := 111) dX1_writeTo_110 rfl rfl ?_
        refine r_aload_n (pc2 := 112) dX1_writeTo_111 rfl rfl ?_
        refine r_aload_n (pc2 := 113) dX1_writeTo_112 rfl rfl ?_
        refine r_getf (pc2 := 116) dX1_writeTo_113 rfl fl_1_19 (by assumption) (by assumption) (by rfl) ?_
        refine r_iconst (pc2 := 117) dX1_writeTo_116 rfl ?_
        refine r_iadd (pc2 := 118) dX1_writeTo_117 rfl ?_
        refine r_iload_n (pc2 := 119) dX1_writeTo_118 rfl rfl ?_
        refine r_iadd (pc2 := 120) dX1_writeTo_119 rfl ?_
        refine r_callv_1 (pc2 := 123) dX1_writeTo_120 rfl rs_1_34 rfl (by decide) rfl (Nat.le_of_ble_eq_true rfl) (Nat.le_of_ble_eq_true rfl) (by assumption) (by assumption) (c_digitAt _ t ch len k tc hTj hR hlen (k + 1 + x) (by unfold RG; omega)) (fun r_ w_ h_ => ?_)
        rw [h_.1, h_.2]
        clear h_ w_ r_
        refine ⟨rfl, ?_⟩
        refine r_callv_2 (pc2 := 126) dX1_writeTo_123 rfl rs_1_60 rfl (by decide) rfl (Nat.le_of_ble_eq_true rfl) (Nat.le_of_ble_eq_true rfl) (by assumption) (by assumption) (c_putSlice _ a ca sa v2 (len - k - 1) sh ln pr gd co _ _ hCj ⟨hv, hp3, hsh, hln⟩ x _ (by omega)) (fun r_ w_ h_ => ?_)
        rw [h_.1, h_.2]
        clear h_ w_ r_
        refine ⟨rfl, ?_⟩
        rw [cdW_sa, show dgZ tc (k + 1 + x) = (fun j : Nat => dgZ tc (k + 1 + (j : Int))) x.toNat by dsimp only; rw [tn hk0.1], preF_step hk0.1]
        refine r_iinc_2 (pc2 := 129) dX1_writeTo_126 rfl rfl ?_
        refine r_goto (tgt := 101) dX1_writeTo_129 (by decide) ?_
        exact ih (x + 1) _ (by omega) hk1
  have loop : ∀ (n : Nat) (x : Int) (b3 : Option Value), (0 ≤ x ∧ x ≤ v2 ∧ v2 + 1 ≤ x + n) → rn MX1_writeTo 28 [some (.ref t), some (.ref a), some (.int (iN x)), b3] [] (cdW w a ca sa (cdO ca sa v2 p sh ln pr gd co) (arO 48 (preF (x * 12) (dgc tc) c)) (arO 6 s)) (fun r' w' => r' = none ∧ w' = W2) := by
    intro n
    induction n with
    | zero =>
      intro x b3 hk0
      exfalso
      omega
    | succ n ih =>
      intro x b3 hk0
      have hCo := Cd_cdW hC v2 p sh ln pr gd co (preF (x * 12) (dgc tc) c) s
      obtain ⟨⟨qao, qwo⟩, -⟩ := id hCo
      have hTo := Tx_cdW hT (cdO ca sa v2 p sh ln pr gd co) (arO 48 (preF (x * 12) (dgc tc) c)) (arO 6 s) hd1 hd2
      obtain ⟨⟨qto, qtwo⟩, -⟩ := id hTo
      refine r_iload_n (pc2 := 29) dX1_writeTo_28 rfl rfl ?_
      refine r_aload_n (pc2 := 30) dX1_writeTo_29 rfl rfl ?_
      refine r_getf (pc2 := 33) dX1_writeTo_30 rfl fl_1_45 (by assumption) (by assumption) (by rfl) ?_
      refine r_icmp_ge (pc2 := 36) (tgt := 72) dX1_writeTo_33 rfl (by decide) (by omega) (by omega) (fun h33 => ?_) (fun h33 => ?_)
      · have h6 : v2 = x := by omega
        subst h6
        refine r_aload_n (pc2 := 73) dX1_writeTo_72 rfl rfl ?_
        refine r_callv_0 (pc2 := 76) dX1_writeTo_73 rfl rs_1_54 rfl (by decide) rfl (Nat.le_of_ble_eq_true rfl) (Nat.le_of_ble_eq_true rfl) (by assumption) (by assumption) (c_resetSlices _ a ca sa v2 p sh ln pr gd co _ _ hCo hK) (fun r_ w_ h_ => ?_)
        rw [h_.1, h_.2]
        clear h_ w_ r_
        refine ⟨rfl, ?_⟩
        rw [cdW_sa]
        have hCr := Cd_cdW hC v2 p sh ln pr gd co (preF (v2 * 12) (dgc tc) c) (preF 6 (inT v2) s)
        obtain ⟨⟨qar, qwr⟩, -⟩ := id hCr
        have hTr := Tx_cdW hT (cdO ca sa v2 p sh ln pr gd co) (arO 48 (preF (v2 * 12) (dgc tc) c)) (arO 6 (preF 6 (inT v2) s)) hd1 hd2
        obtain ⟨⟨qtr, qtwr⟩, -⟩ := id hTr
        refine r_aload_n (pc2 := 77) dX1_writeTo_76 rfl rfl ?_
        refine r_getf (pc2 := 80) dX1_writeTo_77 rfl fl_1_19 (by assumption) (by assumption) (by rfl) ?_
        refine r_iconst (pc2 := 81) dX1_writeTo_80 rfl ?_
        refine r_icmp_eq (pc2 := 84) (tgt := 132) dX1_writeTo_81 rfl (by decide) (by omega) (by omega) (fun h81 => ?_) (fun h81 => ?_)
        · refine r_retv dX1_writeTo_132 rfl ?_
          exact ⟨rfl, (hW1 (by omega)).symm⟩
        · refine r_aload_n (pc2 := 85) dX1_writeTo_84 rfl rfl ?_
          refine r_aload_n (pc2 := 86) dX1_writeTo_85 rfl rfl ?_
          refine r_getf (pc2 := 89) dX1_writeTo_86 rfl fl_1_15 (by assumption) (by assumption) (by rfl) ?_
          refine r_aload_n (pc2 := 90) dX1_writeTo_89 rfl rfl ?_
          refine r_getf (pc2 := 93) dX1_writeTo_90 rfl fl_1_19 (by assumption) (by assumption) (by rfl) ?_
          refine r_isub (pc2 := 94) dX1_writeTo_93 rfl ?_
          refine r_iconst (pc2 := 95) dX1_writeTo_94 rfl ?_
          refine r_isub (pc2 := 96) dX1_writeTo_95 rfl ?_
          refine r_putf (pc2 := 99) dX1_writeTo_96 rfl fl_1_57 (by assumption) (by assumption) (by exact Nat.le_of_ble_eq_true rfl) (by rfl) (by rfl) (by rfl) ?_
          rw [cdW_a _ _ _ _ _ hne1 hne2]
          show rn _ _ _ _ (cdW w a ca sa (cdO ca sa v2 (len - k - 1) sh ln pr gd co) (arO 48 (preF (v2 * 12) (dgc tc) c)) (arO 6 (preF 6 (inT v2) s))) _
          refine r_iconst (pc2 := 100) dX1_writeTo_99 rfl ?_
          refine r_ist_2 (pc2 := 101) dX1_writeTo_100 rfl rfl ?_
          have := loop3 (len - k).toNat 0 b3 (by omega) h81
          rw [preF_0] at this
          exact this
      · have inner : ∀ (n2 : Nat) (y : Int), (0 ≤ y ∧ y ≤ 12 ∧ 13 ≤ y + n2) → rn MX1_writeTo 38 [some (.ref t), some (.ref a), some (.int (iN x)), some (.int (iN y))] [] (cdW w a ca sa (cdO ca sa v2 p sh ln pr gd co) (arO 48 (preF (x * 12 + y) (dgc tc) c)) (arO 6 s)) (fun r' w' => r' = none ∧ w' = W2) := by
          intro n2
          induction n2 with
          | zero =>
            intro y hl0
            exfalso
            omega
          | succ n2 ih2 =>
            intro y hl0
            have hCi := Cd_cdW hC v2 p sh ln pr gd co (preF (x * 12 + y) (dgc tc) c) s
            obtain ⟨⟨qai, qwi⟩, -⟩ := id hCi
            have hTi := Tx_cdW hT (cdO ca sa v2 p sh ln pr gd co) (arO 48 (preF (x * 12 + y) (dgc tc) c)) (arO 6 s) hd1 hd2
            obtain ⟨⟨qti, qtwi⟩, -⟩ := id hTi
            refine r_iload_n (pc2 := 39) dX1_writeTo_38 rfl rfl ?_
            refine r_bipush (pc2 := 41) dX1_writeTo_39 rfl (by decide) ?_
            refine r_icmp_ge (pc2 := 44) (tgt := 66) dX1_writeTo_41 rfl (by decide) (by omega) (by omega) (fun h41 => ?_) (fun h41 => ?_)
            · have h6 : y = 12 := by omega
              subst h6
              rw [show x * 12 + 12 = (x + 1) * 12 by omega]
              refine r_iinc_2 (pc2 := 69) dX1_writeTo_66 rfl rfl ?_
              refine r_goto (tgt := 28) dX1_writeTo_69 (by decide) ?_
              exact ih (x + 1) _ (by omega)
            · refine r_aload_n (pc2 := 45) dX1_writeTo_44 rfl rfl ?_
              refine r_iload_n (pc2 := 46) dX1_writeTo_45 rfl rfl ?_
              refine r_iload_n (pc2 := 47) dX1_writeTo_46 rfl rfl ?_
              refine r_aload_n (pc2 := 48) dX1_writeTo_47 rfl rfl ?_
              refine r_iload_n (pc2 := 49) dX1_writeTo_48 rfl rfl ?_
              refine r_bipush (pc2 := 51) dX1_writeTo_49 rfl (by decide) ?_
              refine r_imul (pc2 := 52) dX1_writeTo_51 rfl ?_
              refine r_iload_n (pc2 := 53) dX1_writeTo_52 rfl rfl ?_
              refine r_iadd (pc2 := 54) dX1_writeTo_53 rfl ?_
              refine r_callv_1 (pc2 := 57) dX1_writeTo_54 rfl rs_1_34 rfl (by decide) rfl (Nat.le_of_ble_eq_true rfl) (Nat.le_of_ble_eq_true rfl) (by assumption) (by assumption) (c_digitAt _ t ch len k tc hTi hR hlen (x * 13 + y) (by unfold RG; omega)) (fun r_ w_ h_ => ?_)
              rw [h_.1, h_.2]
              clear h_ w_ r_
              refine ⟨rfl, ?_⟩
              refine r_callv_3 (pc2 := 60) dX1_writeTo_57 rfl rs_1_50 rfl (by decide) rfl (Nat.le_of_ble_eq_true rfl) (Nat.le_of_ble_eq_true rfl) (by assumption) (by assumption) (c_paint _ a ca sa v2 p sh ln pr gd co _ _ hCi hK x y _ (by omega) (by omega)) (fun r_ w_ h_ => ?_)
              rw [h_.1, h_.2]
              clear h_ w_ r_
              refine ⟨rfl, ?_⟩
              rw [cdW_ca _ _ _ _ _ hne3, ← dgc_at (by omega) (by omega), preF_step (by omega), show x * 12 + y + 1 = x * 12 + (y + 1) by omega]
              refine r_iinc_3 (pc2 := 63) dX1_writeTo_60 rfl rfl ?_
              refine r_goto (tgt := 38) dX1_writeTo_63 (by decide) ?_
              exact ih2 (y + 1) (by omega)
        refine r_iconst (pc2 := 37) dX1_writeTo_36 rfl ?_
        refine r_ist_3 (pc2 := 38) dX1_writeTo_37 rfl rfl ?_
        have := inner 13 0 (by omega)
        rw [Int.add_zero] at this
        exact this
  have rest : rn MX1_writeTo 20 [some (.ref t), some (.ref a), none, none] [.int (iN q), .ref a] w (fun r' w' => r' = none ∧ w' = W2) := by
    refine r_calls_1 (pc2 := 23) dX1_writeTo_20 rfl rs_1_38 rfl (by decide) rfl (Nat.le_of_ble_eq_true rfl) (Nat.le_of_ble_eq_true rfl) (c_viewsUpTo _ q (by omega)) (fun r_ w_ h_ => ?_)
    rw [h_.1, h_.2]
    clear h_ w_ r_
    refine ⟨rfl, ?_⟩
    rw [← hv2]
    refine r_putf (pc2 := 26) dX1_writeTo_23 rfl fl_1_45 (by assumption) (by assumption) (by exact Nat.le_of_ble_eq_true rfl) (by rfl) (by rfl) (by rfl) ?_
    have hw0 : wst w a (cdO ca sa v2 p sh ln pr gd co) = (cdW w a ca sa (cdO ca sa v2 p sh ln pr gd co) (arO 48 (preF (0 * 12) (dgc tc) c)) (arO 6 s)) := by
      rw [show (0 : Int) * 12 = 0 from rfl, preF_0, ← cdW_a w (cdO ca sa v p sh ln pr gd co) (arO 48 c) (arO 6 s) (cdO ca sa v2 p sh ln pr gd co) hne1 hne2, cdW_id hw hcw hsw]
    show rn _ _ _ _ (wst w a (cdO ca sa v2 p sh ln pr gd co)) _
    rw [hw0]
    refine r_iconst (pc2 := 27) dX1_writeTo_26 rfl ?_
    refine r_ist_2 (pc2 := 28) dX1_writeTo_27 rfl rfl ?_
    exact loop (v2.toNat + 1) 0 _ (by omega)
  refine r_aload_n (pc2 := 1) dX1_writeTo_0 rfl rfl ?_
  refine r_aload_n (pc2 := 2) dX1_writeTo_1 rfl rfl ?_
  refine r_getf (pc2 := 5) dX1_writeTo_2 rfl fl_1_19 (by assumption) (by assumption) (by rfl) ?_
  refine r_iconst (pc2 := 6) dX1_writeTo_5 rfl ?_
  refine r_icmp_ne (pc2 := 9) (tgt := 16) dX1_writeTo_6 rfl (by decide) (by omega) (by omega) (fun h6 => ?_) (fun h6 => ?_)
  · refine r_aload_n (pc2 := 17) dX1_writeTo_16 rfl rfl ?_
    refine r_getf (pc2 := 20) dX1_writeTo_17 rfl fl_1_19 (by assumption) (by assumption) (by rfl) ?_
    have rest2 := rest
    first | (rw [show q = k by rw [hq]; exact if_neg (by omega)] at rest2; exact rest2) | (rw [show q = len by rw [hq]; exact if_pos (by omega)] at rest2; exact rest2)
  · refine r_aload_n (pc2 := 10) dX1_writeTo_9 rfl rfl ?_
    refine r_getf (pc2 := 13) dX1_writeTo_10 rfl fl_1_15 (by assumption) (by assumption) (by rfl) ?_
    refine r_goto (tgt := 20) dX1_writeTo_13 (by decide) ?_
    have rest2 := rest
    first | (rw [show q = k by rw [hq]; exact if_neg (by omega)] at rest2; exact rest2) | (rw [show q = len by rw [hq]; exact if_pos (by omega)] at rest2; exact rest2)
end
